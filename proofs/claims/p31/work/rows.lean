section
-- ===== PART A: goes FIRST, ahead of the names: the tables' words, and 'selects' of the private methods out of them =====
/-- a private method of a class that the tables say can be made, by its rows of tables_1 -/
def lw_okq (q : MethodName × Nat) : Prop := (q.1.cls ≠ "java/lang/invoke/MethodHandle" ∧ q.1.cls ≠ "java/lang/invoke/VarHandle") ∧ Cond.instantiable q.1.cls q.2 ∈ tables_1 ∧ Cond.privateMethod q.1 ∈ tables_1 ∧ Cond.instanceMethod q.1 ∈ tables_1
theorem lw_p0 : lw_okq (⟨"LogSpooler", "senderAt", "(I)LLogSpooler$Sender;"⟩, 9) := ⟨⟨by decide +kernel, by decide +kernel⟩, List.mem_of_getElem? (i := 14) (by decide +kernel), List.mem_of_getElem? (i := 212) (by decide +kernel), List.mem_of_getElem? (i := 213) (by decide +kernel)⟩
theorem lw_p1 : lw_okq (⟨"java/lang/Throwable", "fillInStackTrace", "(I)Ljava/lang/Throwable;"⟩, 6) := ⟨⟨by decide +kernel, by decide +kernel⟩, List.mem_of_getElem? (i := 254) (by decide +kernel), List.mem_of_getElem? (i := 252) (by decide +kernel), List.mem_of_getElem? (i := 253) (by decide +kernel)⟩
theorem lw_p2 : lw_okq (⟨"LogSpooler", "fileAt", "(I)LLogSpooler$LogFile;"⟩, 9) := ⟨⟨by decide +kernel, by decide +kernel⟩, List.mem_of_getElem? (i := 14) (by decide +kernel), List.mem_of_getElem? (i := 288) (by decide +kernel), List.mem_of_getElem? (i := 289) (by decide +kernel)⟩
theorem lw_p3 : lw_okq (⟨"LogSpooler$LogFile", "startOf", "(I)I"⟩, 10) := ⟨⟨by decide +kernel, by decide +kernel⟩, List.mem_of_getElem? (i := 136) (by decide +kernel), List.mem_of_getElem? (i := 302) (by decide +kernel), List.mem_of_getElem? (i := 303) (by decide +kernel)⟩
theorem lw_p4 : lw_okq (⟨"LogSpooler", "ruleAt", "(I)LLogSpooler$Rule;"⟩, 9) := ⟨⟨by decide +kernel, by decide +kernel⟩, List.mem_of_getElem? (i := 14) (by decide +kernel), List.mem_of_getElem? (i := 339) (by decide +kernel), List.mem_of_getElem? (i := 340) (by decide +kernel)⟩
theorem lw_p5 : lw_okq (⟨"LogSpooler", "rulesThatAreSet", "()I"⟩, 9) := ⟨⟨by decide +kernel, by decide +kernel⟩, List.mem_of_getElem? (i := 14) (by decide +kernel), List.mem_of_getElem? (i := 368) (by decide +kernel), List.mem_of_getElem? (i := 369) (by decide +kernel)⟩
theorem lw_p6 : lw_okq (⟨"LogSpooler", "rotationsOfAllFiles", "()I"⟩, 9) := ⟨⟨by decide +kernel, by decide +kernel⟩, List.mem_of_getElem? (i := 14) (by decide +kernel), List.mem_of_getElem? (i := 406) (by decide +kernel), List.mem_of_getElem? (i := 407) (by decide +kernel)⟩
theorem lw_p7 : lw_okq (⟨"LogSpooler", "passOneSecond", "()V"⟩, 9) := ⟨⟨by decide +kernel, by decide +kernel⟩, List.mem_of_getElem? (i := 14) (by decide +kernel), List.mem_of_getElem? (i := 410) (by decide +kernel), List.mem_of_getElem? (i := 411) (by decide +kernel)⟩
theorem lw_p8 : lw_okq (⟨"LogSpooler", "giveTokens", "()V"⟩, 9) := ⟨⟨by decide +kernel, by decide +kernel⟩, List.mem_of_getElem? (i := 14) (by decide +kernel), List.mem_of_getElem? (i := 414) (by decide +kernel), List.mem_of_getElem? (i := 415) (by decide +kernel)⟩
theorem lw_p9 : lw_okq (⟨"LogSpooler", "tellDueRepeats", "()V"⟩, 9) := ⟨⟨by decide +kernel, by decide +kernel⟩, List.mem_of_getElem? (i := 14) (by decide +kernel), List.mem_of_getElem? (i := 422) (by decide +kernel), List.mem_of_getElem? (i := 423) (by decide +kernel)⟩
theorem lw_p10 : lw_okq (⟨"LogSpooler", "firstWithDueRepeats", "()LLogSpooler$Sender;"⟩, 9) := ⟨⟨by decide +kernel, by decide +kernel⟩, List.mem_of_getElem? (i := 14) (by decide +kernel), List.mem_of_getElem? (i := 426) (by decide +kernel), List.mem_of_getElem? (i := 427) (by decide +kernel)⟩
theorem lw_p11 : lw_okq (⟨"LogSpooler", "tellRepeats", "(LLogSpooler$Sender;)V"⟩, 9) := ⟨⟨by decide +kernel, by decide +kernel⟩, List.mem_of_getElem? (i := 14) (by decide +kernel), List.mem_of_getElem? (i := 430) (by decide +kernel), List.mem_of_getElem? (i := 431) (by decide +kernel)⟩
theorem lw_p12 : lw_okq (⟨"LogSpooler", "route", "(IIIII)I"⟩, 9) := ⟨⟨by decide +kernel, by decide +kernel⟩, List.mem_of_getElem? (i := 14) (by decide +kernel), List.mem_of_getElem? (i := 434) (by decide +kernel), List.mem_of_getElem? (i := 435) (by decide +kernel)⟩
theorem lw_p13 : lw_okq (⟨"LogSpooler", "rotateAgedFiles", "()V"⟩, 9) := ⟨⟨by decide +kernel, by decide +kernel⟩, List.mem_of_getElem? (i := 14) (by decide +kernel), List.mem_of_getElem? (i := 458) (by decide +kernel), List.mem_of_getElem? (i := 459) (by decide +kernel)⟩
theorem lw_p14 : lw_okq (⟨"LogSpooler$Forwarder", "lineAt", "(I)I"⟩, 6) := ⟨⟨by decide +kernel, by decide +kernel⟩, List.mem_of_getElem? (i := 28) (by decide +kernel), List.mem_of_getElem? (i := 530) (by decide +kernel), List.mem_of_getElem? (i := 531) (by decide +kernel)⟩
theorem lw_p15 : lw_okq (⟨"LogSpooler", "tellDrops", "(LLogSpooler$Sender;)V"⟩, 9) := ⟨⟨by decide +kernel, by decide +kernel⟩, List.mem_of_getElem? (i := 14) (by decide +kernel), List.mem_of_getElem? (i := 578) (by decide +kernel), List.mem_of_getElem? (i := 579) (by decide +kernel)⟩
def lw_privs_1 : List (MethodName × Nat) := [(⟨"LogSpooler", "senderAt", "(I)LLogSpooler$Sender;"⟩, 9), (⟨"java/lang/Throwable", "fillInStackTrace", "(I)Ljava/lang/Throwable;"⟩, 6), (⟨"LogSpooler", "fileAt", "(I)LLogSpooler$LogFile;"⟩, 9), (⟨"LogSpooler$LogFile", "startOf", "(I)I"⟩, 10), (⟨"LogSpooler", "ruleAt", "(I)LLogSpooler$Rule;"⟩, 9), (⟨"LogSpooler", "rulesThatAreSet", "()I"⟩, 9), (⟨"LogSpooler", "rotationsOfAllFiles", "()I"⟩, 9), (⟨"LogSpooler", "passOneSecond", "()V"⟩, 9), (⟨"LogSpooler", "giveTokens", "()V"⟩, 9), (⟨"LogSpooler", "tellDueRepeats", "()V"⟩, 9), (⟨"LogSpooler", "firstWithDueRepeats", "()LLogSpooler$Sender;"⟩, 9), (⟨"LogSpooler", "tellRepeats", "(LLogSpooler$Sender;)V"⟩, 9), (⟨"LogSpooler", "route", "(IIIII)I"⟩, 9), (⟨"LogSpooler", "rotateAgedFiles", "()V"⟩, 9), (⟨"LogSpooler$Forwarder", "lineAt", "(I)I"⟩, 6), (⟨"LogSpooler", "tellDrops", "(LLogSpooler$Sender;)V"⟩, 9)]
theorem lw_r1 : ∀ q ∈ lw_privs_1, lw_okq q := List.forall_mem_cons.mpr ⟨lw_p0, List.forall_mem_cons.mpr ⟨lw_p1, List.forall_mem_cons.mpr ⟨lw_p2, List.forall_mem_cons.mpr ⟨lw_p3, List.forall_mem_cons.mpr ⟨lw_p4, List.forall_mem_cons.mpr ⟨lw_p5, List.forall_mem_cons.mpr ⟨lw_p6, List.forall_mem_cons.mpr ⟨lw_p7, List.forall_mem_cons.mpr ⟨lw_p8, List.forall_mem_cons.mpr ⟨lw_p9, List.forall_mem_cons.mpr ⟨lw_p10, List.forall_mem_cons.mpr ⟨lw_p11, List.forall_mem_cons.mpr ⟨lw_p12, List.forall_mem_cons.mpr ⟨lw_p13, List.forall_mem_cons.mpr ⟨lw_p14, List.forall_mem_cons.mpr ⟨lw_p15, fun _ h => absurd h List.not_mem_nil⟩⟩⟩⟩⟩⟩⟩⟩⟩⟩⟩⟩⟩⟩⟩⟩
def lw_privs : List (MethodName × Nat) := lw_privs_1
def lw_tbl : List Cond := k2_sels lw_privs ++ tables_1
theorem lw_privs_ok : ∀ q ∈ lw_privs, lw_okq q := lw_r1
-- ===== end of PART A; then your names; then what follows =====
/-! ===== BEGIN words of one list among another's, by their places ===== -/
theorem goodIn_r {big : List Cond} (ws : List Cond) (ps : List Nat) (hp : ws = ps.filterMap (fun i => big[i]?)) (h : ws.all goodWord = true) : GoodIn big ws := by
  intro w hw
  have h1 := List.all_eq_true.mp h w hw
  rw [hp] at hw
  obtain ⟨i, -, hi⟩ := List.mem_filterMap.mp hw
  have hm : w ∈ big := by first | exact List.mem_of_getElem? hi | exact List.getElem?_mem hi
  exact ⟨hm, good_of_word h1⟩
theorem goodIn_app {big a b : List Cond} (ha : GoodIn big a) (hb : GoodIn big b) : GoodIn big (a ++ b) := fun w h => (List.mem_append.mp h).elim (ha w) (hb w)
theorem goodIn_ca {big a b : List Cond} {c : Cond} (ha : GoodIn big (c :: a)) (hb : GoodIn big b) : GoodIn big (c :: (a ++ b)) := fun w h => (List.mem_cons.mp h).elim (fun e => ha w (List.mem_cons.mpr (Or.inl e))) (fun h => (List.mem_append.mp h).elim (fun h => ha w (List.mem_cons.mpr (Or.inr h))) (hb w))
theorem goodIn_sub {big ws : List Cond} (hm : ∀ w ∈ ws, w ∈ big) (h : ws.all goodWord = true) : GoodIn big ws := fun w hw => ⟨hm w hw, good_of_word (List.all_eq_true.mp h w hw)⟩
/-! ===== END ===== -/

/-! ===== BEGIN exceptions that leave a method, and their catching by the caller (launches without stack traces) ===== -/
section VXA
/-! The laws vx_back, vx_callV, vx_callS, vx_callSW, vx_throw0, vx_throwS follow proofs of the library, with one case more: JvmDerived/Free/Laws.lean (Back.of_free), Shelf42/LK1.lean (callV, callS), Shelf/KitTraced.lean (throwNew0V, throwNewS). -/
/-- where a method has thrown q: the class by its name, the cell, what was written, the world -/
def vx_T (XC : String → State → State → Prop) (st : State) (q : Addr) (t : State) (mc ms : Nat) (free : Addr → Prop) : Prop :=
  ∃ (E : String) (ce : Cell) (L : List Loc), XC E st t ∧ t.heap[q]? = some ce ∧ ce.vm = .none ∧ st.vm.findClass E = some ce.cls ∧ st.WarmedH t.vm ∧ st.sameButNew ({ t with vm := st.vm } : State) L mc ms ∧ ∀ z ∈ L, free z.base
def vx_Q (Qc : Array Value → State → Outcome → State → Prop) (XC : String → State → State → Prop) (mc ms : Nat) (free : Addr → Prop) : Array Value → State → Outcome → State → Prop := fun a st o t =>
  (Qc a st o t ∧ ∃ L, FrameEnd st o t L mc ms ∧ ∀ q ∈ L, free q.base) ∨ ∃ q, o = .threw q ∧ vx_T XC st q t mc ms free
/-- a callee that returns or throws -/
def vx_Met (l : Launch) (y : MethodName) (ws : List Cond) (rm : Room) (Pc : Array Value → State → Prop) (Qc : Array Value → State → Outcome → State → Prop) (XC : String → State → State → Prop) (mc ms : Nat) (free : Addr → Prop) : Prop :=
  MetFree l y (headSpec ws rm) Pc (fun _ _ _ _ _ => True) (vx_Q Qc XC mc ms free)
def vx_Post (XC : String → State → State → Prop) (mc ms : Nat) (free : Addr → Prop) : Pt → Array Value → Addr → Pt → Prop := fun A a q B =>
  ∃ (g : JFrame) (mk : MethodId) (t : State) (L : List Loc) (E : String) (ce : Cell), B.U.heap = t.heap ∧ B.U.vm = t.vm ∧ XC E (A.U.calling g mk a) t ∧ t.heap[q]? = some ce ∧ ce.vm = .none ∧ A.U.vm.findClass E = some ce.cls ∧ B.locs = A.locs ++ L ∧ (∀ z ∈ L, free z.base) ∧ B.cells = A.cells + mc ∧ B.slots = A.slots + ms
def vx_Back (l : Launch) (R : Room) (p : Program) (e : Env) (below : List Frame) (s : State) (sargs : Array Value) (y : MethodName) (len W9 : Nat)
    (Pre : Pt → Array Value → Prop) (Post : Pt → Array Value → Option Value → Pt → Prop) (PostX : Pt → Array Value → Addr → Pt → Prop) : Prop :=
  ∀ (m : MethodId) (meth : Method) (c : Code) (A : Pt) (g : JFrame) (ig : Instr) (mk : MethodId) (a : Array Value),
    Stand p l e R s m sargs below meth c A.U A.locs A.cells A.slots → g.method = m → g.locals.size = c.maxLocals → decode c.code g.pc = .ok (ig, len) →
    2 * g.monitorRoom + (g.stack.map fun v => v.category).sum ≤ W9 → A.U.methodNamed? y = some mk → Pre A a →
    (∃ (v : Option Value) (B : Pt), Stand p l e R s m sargs below meth c B.U B.locs B.cells B.slots ∧ Post A a v B ∧
      Steps p.tables e below (doInvoke e (A.U.setTop g) [] mk a).1 (B.U.setTop { g with pc := g.pc + len, stack := v.toList ++ g.stack })) ∨
    (∃ (q : Addr) (B : Pt), Stand p l e R s m sargs below meth c B.U B.locs B.cells B.slots ∧ PostX A a q B ∧
      Steps p.tables e below (doInvoke e (A.U.setTop g) [] mk a).1 ((B.U.setTop g).pushFrame (.throwing q)))
section Payer
variable {l : Launch} {R : Room} {p : Program} {e : Env} {below : List Frame} {s : State} {sargs : Array Value} {y : MethodName} {len W9 : Nat}
theorem vx_back {ws : List Cond} {rm : Room} {Pc : Array Value → State → Prop} {Qc : Array Value → State → Outcome → State → Prop} {XC : String → State → State → Prop} {mc ms : Nat} {free : Addr → Prop} {bytes : ByteArray} {maxL : Nat} {ret : Option FieldType}
    (hM : vx_Met l y ws rm Pc Qc XC mc ms free) (hblind : FrameBlind Pc) (hrc : rm.cells = mc) (hrs : rm.slots = ms)
    (hframes : rm.frames + 1 ≤ R.frames) (hlocals : W9 + (maxL + 11) + rm.locals ≤ R.locals)
    (hws : ∀ w ∈ ws, ∀ a' U, s.WarmedH U.vm → w.before a' U = true) (hcode : Cond.code y bytes maxL ret ∈ ws) (hinit : ∀ a' U, s.WarmedH U.vm → (Cond.initialized y.cls).before a' U = true) :
    vx_Back l R p e below s sargs y len W9 (PreOf R mc ms Pc) (PostOf Qc mc ms free) (vx_Post XC mc ms free) := by
  intro m meth c A g ig mk a X hg hsize hdg hW hn hp
  have h1 : (headSpec ws rm).pre.before a A.U = true := atoms_intro fun w hw => hws w hw _ _ X.warmed
  have h2 : (Cond.code y bytes maxL ret).before a A.U = true := hws _ hcode _ _ X.warmed
  have h3 : (Cond.initialized y.cls).before a A.U = true := hinit _ _ X.warmed
  have h4 : A.cells + (headSpec ws rm).room.cells ≤ R.cells := by rw [show (headSpec ws rm).room.cells = mc from hrc]; exact hp.1
  have h5 : A.slots + (headSpec ws rm).room.slots ≤ R.slots := by rw [show (headSpec ws rm).room.slots = ms from hrs]; exact hp.2.1
  have hPc : Pc a (A.U.calling g mk a) := hblind _ _ _ _ hp.2.2
  obtain ⟨U, Ls, c0, s0⟩ := A
  dsimp only [Pt.U, Pt.locs, Pt.cells, Pt.slots] at h1 h2 h3 h4 h5 X hn hPc ⊢
  obtain ⟨methY, cY, hmY, hcY, -, hlY, -, -, -, -⟩ := Cond.code_spec hn h2
  obtain ⟨kY, hkY, -⟩ := className_of_methodNamed hn
  have hinitY : kY.init = .initialized := Cond.initialized_spec (findClass_of_methodNamed hn) hkY h3
  have h : At U g.method c below := by rw [hg]; exact X.here
  have hlocals9 : W9 + (maxL + 11) + (headSpec ws rm).room.locals ≤ R.locals := hlocals
  have happ : (headSpec ws rm).appliesLoose y e.platform (U.calling g mk a) = true :=
    Spec.appliesLoose_calling (g := g) h hdg hn hkY hinitY
      (X.room_calling (g := g) (R' := (headSpec ws rm).room) hsize hmY hcY hframes (by rw [hlY]; omega) h4 h5) h1
  obtain ⟨mid, hmid⟩ := h.above
  have hfr : (U.setTop g).frames = (.java g :: mid) ++ below := by rw [State.frames_setTop' g h.top, hmid]; rfl
  obtain ⟨o, s₂, hsteps, -, hend, hq⟩ := Steps.callFree hM p X.admits X.cas X.clock (acts := []) hfr happ hPc trivial
  have hq' : vx_Q Qc XC mc ms free a (U.calling g mk a) o s₂ := hq
  rw [State.frames_setTop' g h.top] at hend
  obtain ⟨g₀, hg0⟩ := Option.isSome_iff_exists.mp h.top
  obtain ⟨r, hr⟩ := State.topJava?_eq_some.mp hg0
  have hr' : (({ U with heap := s₂.heap, slotsUsed := s₂.slotsUsed } : State).setVm s₂.vm).frames = .java g₀ :: r := hr
  rcases hq' with ⟨hqc, L, hfe, hL⟩ | ⟨q, rfl, E, ce, L, hx, hce, hcv, hcl, hW₂, hsm, hL⟩
  · obtain ⟨⟨v, rfl⟩, hW₂, e2, q2, q3, q4, q5, q6⟩ := id hfe
    have e3 : s₂ = ({ (U.calling g mk a).setFrames s₂.frames with heap := s₂.heap, slotsUsed := s₂.slotsUsed } : State).setVm s₂.vm := by
      have : s₂ = ({ s₂ with vm := (U.calling g mk a).vm } : State).setVm s₂.vm := rfl
      rw [e2] at this
      exact this
    obtain ⟨c₂, i₂, len₂, hc₂, hd₂, hf₂⟩ := hend
    have hW' : U.WarmedH s₂.vm := hW₂
    have hcc : c₂ = c := by
      have h1 : s₂.code? g.method = U.code? g.method := by
        rw [State.code?_eq, State.code?_eq, hW'.alike.method?]
      exact Option.some.inj (hc₂.symm.trans (h1.trans h.code))
    subst hcc
    have hlen : len₂ = len := by rw [hdg] at hd₂; cases hd₂; rfl
    subst hlen
    have hs₂ : s₂ = (({ U with heap := s₂.heap, slotsUsed := s₂.slotsUsed } : State).setVm s₂.vm).setTop { g with pc := g.pc + len₂, stack := v.toList ++ g.stack } := by
      refine e3.trans ?_
      rw [hf₂, State.calling_eq h.top, State.setFrames_setFrames, State.setTop_of_frames _ hr', hr]
      rfl
    have hsame : U.sameButNew ({ U with heap := s₂.heap, slotsUsed := s₂.slotsUsed } : State) L mc ms := by
      refine ⟨?_, q2, q3, q4, q5, q6⟩
      obtain ⟨t, ht, -⟩ := State.frames_cons hr
      show ({ U with heap := s₂.heap, slotsUsed := s₂.slotsUsed } : State) = { U.setFrames U.frames with heap := s₂.heap, slotsUsed := s₂.slotsUsed }
      rw [State.setFrames_self ht]
    subst hg
    refine Or.inl ⟨v, ⟨(({ U with heap := s₂.heap, slotsUsed := s₂.slotsUsed } : State).setVm s₂.vm), Ls ++ L, c0 + mc, s0 + ms⟩,
      ⟨X.admits, X.cas, X.clock, X.frames, X.room, X.hears, X.method, X.code, (X.here.setHeapUsed s₂.heap s₂.slotsUsed).setVm hW'.alike, X.tail, State.WarmedH.trans X.warmed hW', X.limits, X.bytes, X.same.trans (hsame.setVm s.vm)⟩,
      ⟨g, mk, s₂, L, rfl, rfl, hqc, rfl, hL, rfl, rfl⟩, ?_⟩
    show Steps p.tables e below _ ((({ U with heap := s₂.heap, slotsUsed := s₂.slotsUsed } : State).setVm s₂.vm).setTop { g with pc := g.pc + len₂, stack := v.toList ++ g.stack })
    rw [← hs₂]
    exact hsteps
  · obtain ⟨e2, q2, q3, q4, q5, q6⟩ := id hsm
    have e3 : s₂ = ({ (U.calling g mk a).setFrames s₂.frames with heap := s₂.heap, slotsUsed := s₂.slotsUsed } : State).setVm s₂.vm := by
      have : s₂ = ({ s₂ with vm := (U.calling g mk a).vm } : State).setVm s₂.vm := rfl
      rw [e2] at this
      exact this
    have hf₂ : s₂.frames = .throwing q :: .java g :: U.frames.tail := hend
    have hW' : U.WarmedH s₂.vm := hW₂
    have hs₂ : s₂ = ((({ U with heap := s₂.heap, slotsUsed := s₂.slotsUsed } : State).setVm s₂.vm).setTop g).pushFrame (.throwing q) := by
      refine e3.trans ?_
      rw [hf₂, State.calling_eq h.top, State.setFrames_setFrames, State.pushFrame, State.frames_setTop _ hr', State.setTop_of_frames _ hr', State.setFrames_setFrames, hr]
      rfl
    have hsame : U.sameButNew ({ U with heap := s₂.heap, slotsUsed := s₂.slotsUsed } : State) L mc ms := by
      refine ⟨?_, q2, q3, q4, q5, q6⟩
      obtain ⟨t, ht, -⟩ := State.frames_cons hr
      show ({ U with heap := s₂.heap, slotsUsed := s₂.slotsUsed } : State) = { U.setFrames U.frames with heap := s₂.heap, slotsUsed := s₂.slotsUsed }
      rw [State.setFrames_self ht]
    subst hg
    refine Or.inr ⟨q, ⟨(({ U with heap := s₂.heap, slotsUsed := s₂.slotsUsed } : State).setVm s₂.vm), Ls ++ L, c0 + mc, s0 + ms⟩,
      ⟨X.admits, X.cas, X.clock, X.frames, X.room, X.hears, X.method, X.code, (X.here.setHeapUsed s₂.heap s₂.slotsUsed).setVm hW'.alike, X.tail, State.WarmedH.trans X.warmed hW', X.limits, X.bytes, X.same.trans (hsame.setVm s.vm)⟩,
      ⟨g, mk, s₂, L, E, ce, rfl, rfl, hx, hce, hcv, hcl, rfl, hL, rfl, rfl⟩, ?_⟩
    show Steps p.tables e below _ (((({ U with heap := s₂.heap, slotsUsed := s₂.slotsUsed } : State).setVm s₂.vm).setTop g).pushFrame (.throwing q))
    rw [← hs₂]
    exact hsteps
end Payer
section Calls
variable {p : Program} {l : Launch} {e : Env} {R : Room} {s : State} {m : MethodId} {args : Array Value} {below : List Frame} {meth : Method} {c : Code} {T : State} {locs : List Loc} {cells slots : Nat}
theorem vx_callV (X : Stand p l e R s m args below meth c T locs cells slots) (hexec : p.tables.exec = Jvm.exec) {own C : String} {index : Nat} {y : MethodName} {bytes : ByteArray} {maxL : Nat} {ret : Option FieldType}
    (hown : s.vm.findClass own = some m.cls) (hlink : (Cond.methodLink own index y).before args s = true) (hinst : (Cond.instanceMethod y).before args s = true) (hsel : (Cond.selects C y y).before args s = true)
    (hcode : (Cond.code y bytes maxL ret).before args s = true) (hy : y.cls ≠ "java/lang/invoke/MethodHandle" ∧ y.cls ≠ "java/lang/invoke/VarHandle")
    {W9 : Nat} {Pre : Pt → Array Value → Prop} {Post : Pt → Array Value → Option Value → Pt → Prop} {PostX : Pt → Array Value → Addr → Pt → Prop} (hK : vx_Back l R p e below s args y 3 W9 Pre Post PostX)
    {b : Addr} {cellB : Cell} (hcell : T.heap[b]? = some cellB) (hobj : cellB.vm.isStatics = false) (hcls : s.vm.findClass C = some cellB.cls)
    {g : JFrame} (hg : g.method = m) (hsize : g.locals.size = c.maxLocals) {argsL rest : List Value} (hlen : ∀ sig, parseMethodDescriptor y.desc = some sig → argsL.length = sig.parameters.length)
    (hstack : g.stack = argsL.reverse ++ .ref b :: rest) (hW : 2 * g.monitorRoom + (rest.map fun v => v.category).sum ≤ W9) (hdg : decode c.code g.pc = .ok (.invokevirtual index, 3))
    (hpre : ∀ vm₁, s.WarmedH vm₁ → Pre ⟨T.setVm vm₁, locs, cells, slots⟩ (Value.ref b :: argsL).toArray) :
    (∃ (v : Option Value) (vm₁ : Vm) (B : Pt), s.WarmedH vm₁ ∧ Stand p l e R s m args below meth c B.U B.locs B.cells B.slots ∧ Post ⟨T.setVm vm₁, locs, cells, slots⟩ (Value.ref b :: argsL).toArray v B ∧
      ∀ target, Steps p.tables e below (B.U.setTop { g with pc := g.pc + 3, stack := v.toList ++ rest }) target → Steps p.tables e below (T.setTop g) target) ∨
    (∃ (q : Addr) (vm₁ : Vm) (B : Pt), s.WarmedH vm₁ ∧ Stand p l e R s m args below meth c B.U B.locs B.cells B.slots ∧ PostX ⟨T.setVm vm₁, locs, cells, slots⟩ (Value.ref b :: argsL).toArray q B ∧
      Steps p.tables e below (T.setTop g) ((B.U.setTop { g with stack := rest }).pushFrame (.throwing q))) := by
  obtain ⟨mk, methM, hnamed, hmethM, hstM, habM⟩ := Cond.instanceMethod_spec hinst
  obtain ⟨methM', cM, hmethM', -, -, -, -, -, -, hsigM⟩ := Cond.code_spec hnamed hcode
  cases hmethM.symm.trans hmethM'
  obtain ⟨c2, r2, m2, q1, q2, q3, q4, kP, hkP, hkPi⟩ := Cond.selects_spec hsel
  cases hcls.symm.trans q1
  cases (State.methodFound?_of_named hnamed hy).symm.trans q2
  cases hnamed.symm.trans q3
  have hselP : selectMethod e.platform s.vm cellB.cls mk = .method mk := by rw [Launch.admits_selectMethod X.admits]; exact q4
  obtain ⟨vm₁, X₁, hstep₁⟩ := X.invokevirtual hexec hown hlink hnamed hmethM hstM hkP hkPi hy (a := b) (cell := cellB) hcell
    (fun z h => by rw [h] at hobj; cases hobj) hselP hmethM habM hkP hkPi (g := g) hg (argsL := argsL) (rest := rest) (hlen _ hsigM) hstack hdg
  rcases hK m meth c ⟨T.setVm vm₁, locs, cells, slots⟩ { g with stack := rest } (.invokevirtual index) mk (Value.ref b :: argsL).toArray X₁ hg hsize hdg hW (X₁.named hnamed) (hpre vm₁ X₁.warmed) with ⟨v, B, X', hpost, hsteps⟩ | ⟨q, B, X', hpost, hsteps⟩
  · exact Or.inl ⟨v, vm₁, B, X₁.warmed, X', hpost, fun target h => hstep₁ _ fun acts => by rw [doInvoke_state]; exact hsteps.trans h⟩
  · exact Or.inr ⟨q, vm₁, B, X₁.warmed, X', hpost, hstep₁ _ fun acts => by rw [doInvoke_state]; exact hsteps⟩
theorem vx_callS (X : Stand p l e R s m args below meth c T locs cells slots) (hexec : p.tables.exec = Jvm.exec) {own : String} {index : Nat} {y : MethodName} {bytes : ByteArray} {maxL : Nat} {ret : Option FieldType}
    (hown : s.vm.findClass own = some m.cls) (hlink : (Cond.methodLink own index y).before args s = true) (hstat : (Cond.static y).before args s = true) (hinit : (Cond.initialized y.cls).before args s = true)
    (hcode : (Cond.code y bytes maxL ret).before args s = true) (hy : y.cls ≠ "java/lang/invoke/MethodHandle" ∧ y.cls ≠ "java/lang/invoke/VarHandle")
    {W9 : Nat} {Pre : Pt → Array Value → Prop} {Post : Pt → Array Value → Option Value → Pt → Prop} {PostX : Pt → Array Value → Addr → Pt → Prop} (hK : vx_Back l R p e below s args y 3 W9 Pre Post PostX)
    {g : JFrame} (hg : g.method = m) (hsize : g.locals.size = c.maxLocals) {argsL rest : List Value} (hlen : ∀ sig, parseMethodDescriptor y.desc = some sig → argsL.length = sig.parameters.length)
    (hstack : g.stack = argsL.reverse ++ rest) (hW : 2 * g.monitorRoom + (rest.map fun v => v.category).sum ≤ W9) (hdg : decode c.code g.pc = .ok (.invokestatic index, 3))
    (hpre : ∀ vm₁, s.WarmedH vm₁ → Pre ⟨T.setVm vm₁, locs, cells, slots⟩ argsL.toArray) :
    (∃ (v : Option Value) (vm₁ : Vm) (B : Pt), s.WarmedH vm₁ ∧ Stand p l e R s m args below meth c B.U B.locs B.cells B.slots ∧ Post ⟨T.setVm vm₁, locs, cells, slots⟩ argsL.toArray v B ∧
      ∀ target, Steps p.tables e below (B.U.setTop { g with pc := g.pc + 3, stack := v.toList ++ rest }) target → Steps p.tables e below (T.setTop g) target) ∨
    (∃ (q : Addr) (vm₁ : Vm) (B : Pt), s.WarmedH vm₁ ∧ Stand p l e R s m args below meth c B.U B.locs B.cells B.slots ∧ PostX ⟨T.setVm vm₁, locs, cells, slots⟩ argsL.toArray q B ∧
      Steps p.tables e below (T.setTop g) ((B.U.setTop { g with stack := rest }).pushFrame (.throwing q))) := by
  obtain ⟨mk, hnamed⟩ := Cond.code_named hcode
  obtain ⟨methM, cM, hmethM, -, -, -, -, -, -, hsigM⟩ := Cond.code_spec hnamed hcode
  have hstatic : methM.isStatic = true := Cond.static_spec hnamed hmethM hstat
  obtain ⟨kP, hkP, -⟩ := className_of_methodNamed hnamed
  have hinitP : kP.init = .initialized := Cond.initialized_spec (findClass_of_methodNamed hnamed) hkP hinit
  obtain ⟨vm₁, X₁, hstep₁⟩ := X.invokestatic hexec hown hlink hnamed hmethM hstatic hkP hinitP hy (g := g) hg (argsL := argsL) (rest := rest) (hlen _ hsigM) hstack hdg
  rcases hK m meth c ⟨T.setVm vm₁, locs, cells, slots⟩ { g with stack := rest } (.invokestatic index) mk argsL.toArray X₁ hg hsize hdg hW (X₁.named hnamed) (hpre vm₁ X₁.warmed) with ⟨v, B, X', hpost, hsteps⟩ | ⟨q, B, X', hpost, hsteps⟩
  · exact Or.inl ⟨v, vm₁, B, X₁.warmed, X', hpost, fun target h => hstep₁ _ fun acts => by rw [doInvoke_state]; exact hsteps.trans h⟩
  · exact Or.inr ⟨q, vm₁, B, X₁.warmed, X', hpost, hstep₁ _ fun acts => by rw [doInvoke_state]; exact hsteps⟩
end Calls
theorem vx_cls {s : State} {T : State} {vm₁ : Vm} {E : String} {k : ClassId} (hW : s.WarmedH vm₁) (h : (T.setVm vm₁).vm.findClass E = some k) : s.vm.findClass E = some k := by
  have h1 : vm₁.findClass E = some k := h
  rw [hW.alike.findClass] at h1
  exact h1
/-- the method's frame g, with q thrown over it -/
def vx_W (p : Program) (l : Launch) (e : Env) (R : Room) (s : State) (m : MethodId) (args : Array Value) (below : List Frame) (meth : Method) (c : Code) (H : Heap) (locs : List Loc) (cells slots : Nat) (Q : State → Prop) (g : JFrame) (q : Addr) : Prop :=
  ∀ T : State, T.heap = H → Stand p l e R s m args below meth c T locs cells slots → ∃ t, Steps p.tables e below ((T.setTop g).pushFrame (.throwing q)) t ∧ Q t
def vx_Run (p : Program) (l : Launch) (e : Env) (R : Room) (s : State) (m : MethodId) (args : Array Value) (below : List Frame) (meth : Method) (c : Code) (H : Heap) (locs : List Loc) (cells slots mc ms : Nat) (g : JFrame) (rest : List Value) (Qa : State → Outcome → State → Prop) (XC : String → State → State → Prop) (free : Addr → Prop) : Prop :=
  ∀ T : State, T.heap = H → Stand p l e R s m args below meth c T locs cells slots →
    (∃ (v : Option Value) (st₀ t T' : State) (L : List Loc), st₀.heap = H ∧ Stand p l e R s m args below meth c T' (locs ++ L) (cells + mc) (slots + ms) ∧ (∀ q ∈ L, free q.base) ∧ T'.heap = t.heap ∧ T'.vm = t.vm ∧ Qa st₀ (.returned v) t ∧
      Goes p e below T g T' { g with pc := g.pc + 3, stack := v.toList ++ rest }) ∨
    (∃ (q : Addr) (st₀ t T' : State) (L : List Loc) (E : String) (ce : Cell), st₀.heap = H ∧ Stand p l e R s m args below meth c T' (locs ++ L) (cells + mc) (slots + ms) ∧ (∀ z ∈ L, free z.base) ∧ T'.heap = t.heap ∧ T'.vm = t.vm ∧ XC E st₀ t ∧ t.heap[q]? = some ce ∧ ce.vm = .none ∧ s.vm.findClass E = some ce.cls ∧
      Steps p.tables e below (T.setTop g) ((T'.setTop { g with stack := rest }).pushFrame (.throwing q)))
def vx_X {S : Type} (px : S → Prop) (B : String → S → State → Prop) (A : Nat → Prop) : String → State → State → Prop := fun E st t => ∃ u : S, px u ∧ B E u t ∧ va_F A st t
section Runs
variable {p : Program} {l : Launch} {e : Env} {R : Room} {s : State} {m : MethodId} {args : Array Value} {below : List Frame} {meth : Method} {c : Code} {H : Heap} {locs : List Loc} {cells slots : Nat}
variable {y : MethodName} {bytes cc : ByteArray} {maxL nL mc ms n index : Nat} {ret : Option FieldType} {ws : List Cond} {rm : Room} {Pc : Array Value → State → Prop} {Qc : Array Value → State → Outcome → State → Prop} {XC : String → State → State → Prop} {free : Addr → Prop} {Ts : List Cond} {own C : String} {b : Addr} {As rest : List Value} {g : JFrame}
theorem vx_callBack (cb : CallB R s args own index y bytes maxL ret ws rm mc ms n) (hM : vx_Met l y ws rm Pc Qc XC mc ms free) (hbl : FrameBlind Pc) : vx_Back l R p e below s args y 3 8 (PreOf R mc ms Pc) (PostOf Qc mc ms free) (vx_Post XC mc ms free) := by
  obtain ⟨hrc, hrs, hfr, hlo, hws, hcw, -, hini, -⟩ := cb
  exact vx_back (bytes := bytes) (maxL := maxL) (ret := ret) hM hbl hrc hrs hfr hlo hws hcw (fun a' U hW => word_at hW (Or.inl (by first | rfl | simp [Cond.onTables, Cond.keeps, Cond.steady])) hini)
theorem vx_runV (S : CallFix p m c cc nL s args Ts own) (hM : vx_Met l y ws rm Pc Qc XC mc ms free) (cw : CallW R s args own C index y bytes maxL ret ws rm mc ms n) (hp : PreV s H C b Pc As)
    (hg : g.method = m) (hn : As.length = n) (hsize : g.locals.size = nL) (hstack : g.stack = As.reverse ++ .ref b :: rest) (hW : 2 * g.monitorRoom + (rest.map fun v => v.category).sum ≤ 8) (hdg : decode cc g.pc = .ok (.invokevirtual index, 3)) (hf : cells + mc ≤ R.cells ∧ slots + ms ≤ R.slots) :
    vx_Run p l e R s m args below meth c H locs cells slots mc ms g rest (Qc (Value.ref b :: As).toArray) XC free := by
  have hK : vx_Back l R p e below s args y 3 8 (PreOf R mc ms Pc) (PostOf Qc mc ms free) (vx_Post XC mc ms free) := vx_callBack cw.1 hM hp.1
  obtain ⟨⟨-, -, -, -, -, -, hcode, -, hy, hlen, hl⟩, hin, hse⟩ := cw
  obtain ⟨hx, hb, hml, ho, -⟩ := S
  obtain ⟨-, ⟨cellB, hcB, hoB, hclB⟩, hPc⟩ := hp
  intro T hT X
  rcases vx_callV X hx (C := C) (bytes := bytes) (maxL := maxL) (ret := ret) ho hl hin hse hcode hy hK (by rw [hT]; exact hcB) hoB hclB hg (hsize.trans hml.symm) (argsL := As) (rest := rest) (fun sig h => hn.trans (hlen sig h)) hstack hW (by rw [hb]; exact hdg)
    (fun vm₁ hW₁ => ⟨hf.1, hf.2, hPc (T.setVm vm₁) hT hW₁⟩) with ⟨v, vm₁, ⟨U', l2, c2, s2⟩, hW₁, X', ⟨g', mk, t, L, e1, e2, hq, h1, hL, h2, h3⟩, st⟩ | ⟨q, vm₁, ⟨U', l2, c2, s2⟩, hW₁, X', ⟨g', mk, t, L, E, ce, e1, e2, hq, hce, hcv, hcl, h1, hL, h2, h3⟩, st⟩
  · dsimp only [Pt.U, Pt.locs, Pt.cells, Pt.slots] at X' e1 e2 h1 h2 h3 st
    subst h1; subst h2; subst h3
    exact Or.inl ⟨v, (T.setVm vm₁).calling g' mk (Value.ref b :: As).toArray, t, U', L, hT, X', hL, e1, e2, hq, st⟩
  · dsimp only [Pt.U, Pt.locs, Pt.cells, Pt.slots] at X' e1 e2 h1 h2 h3 st hcl
    subst h1; subst h2; subst h3
    exact Or.inr ⟨q, (T.setVm vm₁).calling g' mk (Value.ref b :: As).toArray, t, U', L, E, ce, hT, X', hL, e1, e2, hq, hce, hcv, vx_cls hW₁ hcl, st⟩
theorem vx_runS (S : CallFix p m c cc nL s args Ts own) (hM : vx_Met l y ws rm Pc Qc XC mc ms free) (cw : CallB R s args own index y bytes maxL ret ws rm mc ms n ∧ (Cond.static y).before args s = true) (hp : PreS s H Pc As)
    (hg : g.method = m) (hn : As.length = n) (hsize : g.locals.size = nL) (hstack : g.stack = As.reverse ++ rest) (hW : 2 * g.monitorRoom + (rest.map fun v => v.category).sum ≤ 8) (hdg : decode cc g.pc = .ok (.invokestatic index, 3)) (hf : cells + mc ≤ R.cells ∧ slots + ms ≤ R.slots) :
    vx_Run p l e R s m args below meth c H locs cells slots mc ms g rest (Qc As.toArray) XC free := by
  have hK : vx_Back l R p e below s args y 3 8 (PreOf R mc ms Pc) (PostOf Qc mc ms free) (vx_Post XC mc ms free) := vx_callBack cw.1 hM hp.1
  obtain ⟨⟨-, -, -, -, -, -, hcode, hini, hy, hlen, hl⟩, hstt⟩ := cw
  obtain ⟨hx, hb, hml, ho, -⟩ := S
  intro T hT X
  rcases vx_callS X hx (bytes := bytes) (maxL := maxL) (ret := ret) ho hl hstt hini hcode hy hK hg (hsize.trans hml.symm) (argsL := As) (rest := rest) (fun sig h => hn.trans (hlen sig h)) hstack hW (by rw [hb]; exact hdg)
    (fun vm₁ hW₁ => ⟨hf.1, hf.2, hp.2 (T.setVm vm₁) hT hW₁⟩) with ⟨v, vm₁, ⟨U', l2, c2, s2⟩, hW₁, X', ⟨g', mk, t, L, e1, e2, hq, h1, hL, h2, h3⟩, st⟩ | ⟨q, vm₁, ⟨U', l2, c2, s2⟩, hW₁, X', ⟨g', mk, t, L, E, ce, e1, e2, hq, hce, hcv, hcl, h1, hL, h2, h3⟩, st⟩
  · dsimp only [Pt.U, Pt.locs, Pt.cells, Pt.slots] at X' e1 e2 h1 h2 h3 st
    subst h1; subst h2; subst h3
    exact Or.inl ⟨v, (T.setVm vm₁).calling g' mk As.toArray, t, U', L, hT, X', hL, e1, e2, hq, st⟩
  · dsimp only [Pt.U, Pt.locs, Pt.cells, Pt.slots] at X' e1 e2 h1 h2 h3 st hcl
    subst h1; subst h2; subst h3
    exact Or.inr ⟨q, (T.setVm vm₁).calling g' mk As.toArray, t, U', L, E, ce, hT, X', hL, e1, e2, hq, hce, hcv, vx_cls hW₁ hcl, st⟩
end Runs
section Rows
variable {p : Program} {l : Launch} {e : Env} {R : Room} {s : State} {m : MethodId} {args : Array Value} {below : List Frame} {meth : Method} {c : Code} {H : Heap} {locs : List Loc} {cells slots : Nat} {Q : State → Prop}
variable {mc ms : Nat} {free : Addr → Prop} {A0 A1 : Nat → Prop} {H0 : Heap} {a : Array Value} {pc : Nat} {ls : Array Slot} {st0 rest : List Value}
theorem vx_keep {st₀ t T' : State} {L : List Loc} (h0 : st₀.heap = H) (e1 : T'.heap = t.heap) (hS : va_S A0 H0 H locs) (hA : ∀ q, q < H.size → A1 q → A0 q) (hf : ∀ q, free q → A0 q) (hL : ∀ q ∈ L, free q.base) (hF : va_F A1 st₀ t) :
    H.size ≤ T'.heap.size ∧ (∀ q : Nat, q < H.size → ¬ A1 q → T'.heap[q]? = H[q]?) ∧ va_S A0 H0 T'.heap (locs ++ L) := by
  obtain ⟨hz, hk⟩ := hF
  rw [h0] at hz hk
  exact ⟨by rw [e1]; exact hz, fun q h1 h2 => by rw [e1]; exact hk q h1 h2,
    ⟨Nat.le_trans hS.1 (by rw [e1]; exact hz), fun q h1 h2 => by rw [e1, hk q (Nat.lt_of_lt_of_le h1 hS.1) (fun z => h2 (hA q (Nat.lt_of_lt_of_le h1 hS.1) z))]; exact hS.2.1 q h1 h2, fun q hq => by
      rcases List.mem_append.mp hq with h | h
      · exact hS.2.2 q h
      · exact hf _ (hL q h)⟩⟩
theorem vx_calli {S SX : Type} {post : Int32 → S → Prop} {px : SX → Prop} {B : S → State → Prop} {BX : String → SX → State → Prop} {AX : Nat → Prop} (hr : vx_Run p l e R s m args below meth c H locs cells slots mc ms (F0 m pc ls st0) rest (va_Qi post B A1 a) (vx_X px BX AX) free) (hS : va_S A0 H0 H locs) (hA : ∀ q, q < H.size → A1 q → A0 q) (hf : ∀ q, free q → A0 q) (hAX : ∀ q, q < H.size → AX q → A0 q)
    (kx : ∀ (E : String) (ce : Cell) (q9 : Addr) (u : SX) (t : State) (H1 : Heap) (locs1 : List Loc), t.heap = H1 → s.vm.Alike t.vm → px u → BX E u t → H.size ≤ H1.size → (∀ q : Nat, q < H.size → ¬ AX q → H1[q]? = H[q]?) → va_S A0 H0 H1 locs1 → H1[q9]? = some ce → ce.vm = .none → s.vm.findClass E = some ce.cls → vx_W p l e R s m args below meth c H1 locs1 (cells + mc) (slots + ms) Q (F0 m pc ls rest) q9)
    (kk : ∀ (r : Int32) (u : S) (t : State) (H1 : Heap) (locs1 : List Loc), t.heap = H1 → s.vm.Alike t.vm → post r u → B u t → H.size ≤ H1.size → (∀ q : Nat, q < H.size → ¬ A1 q → H1[q]? = H[q]?) → va_S A0 H0 H1 locs1 → W p l e R s m args below meth c H1 locs1 (cells + mc) (slots + ms) Q (F0 m (pc + 3) ls (.int r :: rest))) : W p l e R s m args below meth c H locs cells slots Q (F0 m pc ls st0) := by
  intro T hT X
  rcases hr T hT X with ⟨v, st₀, t, T', L, h0, X', hL, e1, e2, ⟨⟨r, u, hv, hp, hb⟩, hF⟩, st⟩ | ⟨q, st₀, t, T', L, E, ce, h0, X', hL, e1, e2, ⟨u, hp, hb, hF⟩, hce, hcv, hcl, st⟩
  · cases hv
    obtain ⟨k1, k2, k3⟩ := vx_keep h0 e1 hS hA hf hL hF
    obtain ⟨t2, a1, b1⟩ := kk r u t T'.heap (locs ++ L) e1.symm (by rw [← e2]; exact X'.warmed.alike) hp hb k1 k2 k3 T' rfl X'
    exact ⟨t2, st t2 a1, b1⟩
  · obtain ⟨k1, k2, k3⟩ := vx_keep h0 e1 hS hAX hf hL hF
    obtain ⟨t2, a1, b1⟩ := kx E ce q u t T'.heap (locs ++ L) e1.symm (by rw [← e2]; exact X'.warmed.alike) hp hb k1 k2 k3 (by rw [e1]; exact hce) hcv hcl T' rfl X'
    exact ⟨t2, st.trans a1, b1⟩
theorem vx_calll {S SX : Type} {post : Int64 → S → Prop} {px : SX → Prop} {B : S → State → Prop} {BX : String → SX → State → Prop} {AX : Nat → Prop} (hr : vx_Run p l e R s m args below meth c H locs cells slots mc ms (F0 m pc ls st0) rest (va_Ql post B A1 a) (vx_X px BX AX) free) (hS : va_S A0 H0 H locs) (hA : ∀ q, q < H.size → A1 q → A0 q) (hf : ∀ q, free q → A0 q) (hAX : ∀ q, q < H.size → AX q → A0 q)
    (kx : ∀ (E : String) (ce : Cell) (q9 : Addr) (u : SX) (t : State) (H1 : Heap) (locs1 : List Loc), t.heap = H1 → s.vm.Alike t.vm → px u → BX E u t → H.size ≤ H1.size → (∀ q : Nat, q < H.size → ¬ AX q → H1[q]? = H[q]?) → va_S A0 H0 H1 locs1 → H1[q9]? = some ce → ce.vm = .none → s.vm.findClass E = some ce.cls → vx_W p l e R s m args below meth c H1 locs1 (cells + mc) (slots + ms) Q (F0 m pc ls rest) q9)
    (kk : ∀ (r : Int64) (u : S) (t : State) (H1 : Heap) (locs1 : List Loc), t.heap = H1 → s.vm.Alike t.vm → post r u → B u t → H.size ≤ H1.size → (∀ q : Nat, q < H.size → ¬ A1 q → H1[q]? = H[q]?) → va_S A0 H0 H1 locs1 → W p l e R s m args below meth c H1 locs1 (cells + mc) (slots + ms) Q (F0 m (pc + 3) ls (.long r :: rest))) : W p l e R s m args below meth c H locs cells slots Q (F0 m pc ls st0) := by
  intro T hT X
  rcases hr T hT X with ⟨v, st₀, t, T', L, h0, X', hL, e1, e2, ⟨⟨r, u, hv, hp, hb⟩, hF⟩, st⟩ | ⟨q, st₀, t, T', L, E, ce, h0, X', hL, e1, e2, ⟨u, hp, hb, hF⟩, hce, hcv, hcl, st⟩
  · cases hv
    obtain ⟨k1, k2, k3⟩ := vx_keep h0 e1 hS hA hf hL hF
    obtain ⟨t2, a1, b1⟩ := kk r u t T'.heap (locs ++ L) e1.symm (by rw [← e2]; exact X'.warmed.alike) hp hb k1 k2 k3 T' rfl X'
    exact ⟨t2, st t2 a1, b1⟩
  · obtain ⟨k1, k2, k3⟩ := vx_keep h0 e1 hS hAX hf hL hF
    obtain ⟨t2, a1, b1⟩ := kx E ce q u t T'.heap (locs ++ L) e1.symm (by rw [← e2]; exact X'.warmed.alike) hp hb k1 k2 k3 (by rw [e1]; exact hce) hcv hcl T' rfl X'
    exact ⟨t2, st.trans a1, b1⟩
theorem vx_callf {S SX : Type} {post : UInt32 → S → Prop} {px : SX → Prop} {B : S → State → Prop} {BX : String → SX → State → Prop} {AX : Nat → Prop} (hr : vx_Run p l e R s m args below meth c H locs cells slots mc ms (F0 m pc ls st0) rest (va_Qf post B A1 a) (vx_X px BX AX) free) (hS : va_S A0 H0 H locs) (hA : ∀ q, q < H.size → A1 q → A0 q) (hf : ∀ q, free q → A0 q) (hAX : ∀ q, q < H.size → AX q → A0 q)
    (kx : ∀ (E : String) (ce : Cell) (q9 : Addr) (u : SX) (t : State) (H1 : Heap) (locs1 : List Loc), t.heap = H1 → s.vm.Alike t.vm → px u → BX E u t → H.size ≤ H1.size → (∀ q : Nat, q < H.size → ¬ AX q → H1[q]? = H[q]?) → va_S A0 H0 H1 locs1 → H1[q9]? = some ce → ce.vm = .none → s.vm.findClass E = some ce.cls → vx_W p l e R s m args below meth c H1 locs1 (cells + mc) (slots + ms) Q (F0 m pc ls rest) q9)
    (kk : ∀ (r : UInt32) (u : S) (t : State) (H1 : Heap) (locs1 : List Loc), t.heap = H1 → s.vm.Alike t.vm → post r u → B u t → H.size ≤ H1.size → (∀ q : Nat, q < H.size → ¬ A1 q → H1[q]? = H[q]?) → va_S A0 H0 H1 locs1 → W p l e R s m args below meth c H1 locs1 (cells + mc) (slots + ms) Q (F0 m (pc + 3) ls (.float r :: rest))) : W p l e R s m args below meth c H locs cells slots Q (F0 m pc ls st0) := by
  intro T hT X
  rcases hr T hT X with ⟨v, st₀, t, T', L, h0, X', hL, e1, e2, ⟨⟨r, u, hv, hp, hb⟩, hF⟩, st⟩ | ⟨q, st₀, t, T', L, E, ce, h0, X', hL, e1, e2, ⟨u, hp, hb, hF⟩, hce, hcv, hcl, st⟩
  · cases hv
    obtain ⟨k1, k2, k3⟩ := vx_keep h0 e1 hS hA hf hL hF
    obtain ⟨t2, a1, b1⟩ := kk r u t T'.heap (locs ++ L) e1.symm (by rw [← e2]; exact X'.warmed.alike) hp hb k1 k2 k3 T' rfl X'
    exact ⟨t2, st t2 a1, b1⟩
  · obtain ⟨k1, k2, k3⟩ := vx_keep h0 e1 hS hAX hf hL hF
    obtain ⟨t2, a1, b1⟩ := kx E ce q u t T'.heap (locs ++ L) e1.symm (by rw [← e2]; exact X'.warmed.alike) hp hb k1 k2 k3 (by rw [e1]; exact hce) hcv hcl T' rfl X'
    exact ⟨t2, st.trans a1, b1⟩
theorem vx_calld {S SX : Type} {post : UInt64 → S → Prop} {px : SX → Prop} {B : S → State → Prop} {BX : String → SX → State → Prop} {AX : Nat → Prop} (hr : vx_Run p l e R s m args below meth c H locs cells slots mc ms (F0 m pc ls st0) rest (va_Qd post B A1 a) (vx_X px BX AX) free) (hS : va_S A0 H0 H locs) (hA : ∀ q, q < H.size → A1 q → A0 q) (hf : ∀ q, free q → A0 q) (hAX : ∀ q, q < H.size → AX q → A0 q)
    (kx : ∀ (E : String) (ce : Cell) (q9 : Addr) (u : SX) (t : State) (H1 : Heap) (locs1 : List Loc), t.heap = H1 → s.vm.Alike t.vm → px u → BX E u t → H.size ≤ H1.size → (∀ q : Nat, q < H.size → ¬ AX q → H1[q]? = H[q]?) → va_S A0 H0 H1 locs1 → H1[q9]? = some ce → ce.vm = .none → s.vm.findClass E = some ce.cls → vx_W p l e R s m args below meth c H1 locs1 (cells + mc) (slots + ms) Q (F0 m pc ls rest) q9)
    (kk : ∀ (r : UInt64) (u : S) (t : State) (H1 : Heap) (locs1 : List Loc), t.heap = H1 → s.vm.Alike t.vm → post r u → B u t → H.size ≤ H1.size → (∀ q : Nat, q < H.size → ¬ A1 q → H1[q]? = H[q]?) → va_S A0 H0 H1 locs1 → W p l e R s m args below meth c H1 locs1 (cells + mc) (slots + ms) Q (F0 m (pc + 3) ls (.double r :: rest))) : W p l e R s m args below meth c H locs cells slots Q (F0 m pc ls st0) := by
  intro T hT X
  rcases hr T hT X with ⟨v, st₀, t, T', L, h0, X', hL, e1, e2, ⟨⟨r, u, hv, hp, hb⟩, hF⟩, st⟩ | ⟨q, st₀, t, T', L, E, ce, h0, X', hL, e1, e2, ⟨u, hp, hb, hF⟩, hce, hcv, hcl, st⟩
  · cases hv
    obtain ⟨k1, k2, k3⟩ := vx_keep h0 e1 hS hA hf hL hF
    obtain ⟨t2, a1, b1⟩ := kk r u t T'.heap (locs ++ L) e1.symm (by rw [← e2]; exact X'.warmed.alike) hp hb k1 k2 k3 T' rfl X'
    exact ⟨t2, st t2 a1, b1⟩
  · obtain ⟨k1, k2, k3⟩ := vx_keep h0 e1 hS hAX hf hL hF
    obtain ⟨t2, a1, b1⟩ := kx E ce q u t T'.heap (locs ++ L) e1.symm (by rw [← e2]; exact X'.warmed.alike) hp hb k1 k2 k3 (by rw [e1]; exact hce) hcv hcl T' rfl X'
    exact ⟨t2, st.trans a1, b1⟩
theorem vx_callv {S SX : Type} {post : S → Prop} {px : SX → Prop} {B : S → State → Prop} {BX : String → SX → State → Prop} {AX : Nat → Prop} (hr : vx_Run p l e R s m args below meth c H locs cells slots mc ms (F0 m pc ls st0) rest (va_Qv post B A1 a) (vx_X px BX AX) free) (hS : va_S A0 H0 H locs) (hA : ∀ q, q < H.size → A1 q → A0 q) (hf : ∀ q, free q → A0 q) (hAX : ∀ q, q < H.size → AX q → A0 q)
    (kx : ∀ (E : String) (ce : Cell) (q9 : Addr) (u : SX) (t : State) (H1 : Heap) (locs1 : List Loc), t.heap = H1 → s.vm.Alike t.vm → px u → BX E u t → H.size ≤ H1.size → (∀ q : Nat, q < H.size → ¬ AX q → H1[q]? = H[q]?) → va_S A0 H0 H1 locs1 → H1[q9]? = some ce → ce.vm = .none → s.vm.findClass E = some ce.cls → vx_W p l e R s m args below meth c H1 locs1 (cells + mc) (slots + ms) Q (F0 m pc ls rest) q9)
    (kk : ∀ (u : S) (t : State) (H1 : Heap) (locs1 : List Loc), t.heap = H1 → s.vm.Alike t.vm → post u → B u t → H.size ≤ H1.size → (∀ q : Nat, q < H.size → ¬ A1 q → H1[q]? = H[q]?) → va_S A0 H0 H1 locs1 → W p l e R s m args below meth c H1 locs1 (cells + mc) (slots + ms) Q (F0 m (pc + 3) ls (rest))) : W p l e R s m args below meth c H locs cells slots Q (F0 m pc ls st0) := by
  intro T hT X
  rcases hr T hT X with ⟨v, st₀, t, T', L, h0, X', hL, e1, e2, ⟨⟨u, hv, hp, hb⟩, hF⟩, st⟩ | ⟨q, st₀, t, T', L, E, ce, h0, X', hL, e1, e2, ⟨u, hp, hb, hF⟩, hce, hcv, hcl, st⟩
  · cases hv
    obtain ⟨k1, k2, k3⟩ := vx_keep h0 e1 hS hA hf hL hF
    obtain ⟨t2, a1, b1⟩ := kk u t T'.heap (locs ++ L) e1.symm (by rw [← e2]; exact X'.warmed.alike) hp hb k1 k2 k3 T' rfl X'
    exact ⟨t2, st t2 a1, b1⟩
  · obtain ⟨k1, k2, k3⟩ := vx_keep h0 e1 hS hAX hf hL hF
    obtain ⟨t2, a1, b1⟩ := kx E ce q u t T'.heap (locs ++ L) e1.symm (by rw [← e2]; exact X'.warmed.alike) hp hb k1 k2 k3 (by rw [e1]; exact hce) hcv hcl T' rfl X'
    exact ⟨t2, st.trans a1, b1⟩
/-- caught by the row x of this method's table; the rows ahead don't take it -/
theorem vx_catch {own name : String} {E : String} {ce : Cell} {q : Addr} (hown : s.vm.findClass own = some m.cls) (pre : List ExceptionTableEntry) (x : ExceptionTableEntry) (suf : List ExceptionTableEntry) (hsplit : c.exceptionTable.toList = pre ++ x :: suf)
    (hpass : ∀ z ∈ pre, covers z pc = false ∨ (z.catchType ≠ 0 ∧ ∃ nm : String, (Cond.classLink own z.catchType nm).before args s = true ∧ va_Nc E nm s)) (hx : covers x pc = true) (h0 : x.catchType ≠ 0)
    (hlink : (Cond.classLink own x.catchType name).before args s = true) (hcast : (Cond.castable E name).before args s = true) (hcell : H[q]? = some ce) (hv : ce.vm = .none) (hcl : s.vm.findClass E = some ce.cls)
    (kk : W p l e R s m args below meth c H locs cells slots Q (F0 m x.handlerPc ls [.ref q])) : vx_W p l e R s m args below meth c H locs cells slots Q (F0 m pc ls rest) q := by
  intro T hT X
  have hpl : e.platform.magicAccessors = ({} : Platform).magicAccessors := by rw [X.admits.platform]
  obtain ⟨c3, c4, hc3, hc4, hasg⟩ := Cond.castable_spec hcast
  cases Option.some.inj (hc3.symm.trans hcl)
  obtain ⟨c5, hc5, hcl5⟩ := Cond.classLink_spec hown hlink e.platform hpl
  cases Option.some.inj (hc4.symm.trans hc5)
  obtain ⟨vm', X', st⟩ := X.thenCaughtThrough q (g := F0 m pc ls rest) rfl (Steps.refl _) (by rw [hT]; exact hcell) (by rw [hv]; rfl) (by obtain ⟨k9, h9, -⟩ := Vm.findClass_spec hcl; exact ⟨k9, h9⟩) pre x suf hsplit
    (fun z hz => by
      rcases hpass z hz with h | ⟨hz0, nm, hl1, hn1⟩
      · exact Or.inl h
      · obtain ⟨c6, hc6, hcl6⟩ := Cond.classLink_spec hown hl1 e.platform hpl
        obtain ⟨a8, b8, h1, h2, h3⟩ := hn1
        cases Option.some.inj (h1.symm.trans hcl)
        cases Option.some.inj (h2.symm.trans hc6)
        exact Or.inr ⟨hz0, _, hcl6, h3⟩) hx (Or.inr ⟨h0, c4, hcl5, hasg⟩)
  obtain ⟨t, a1, b1⟩ := kk (T.setVm vm') hT X'
  exact ⟨t, st.trans a1, b1⟩
end Rows
section Ends
variable {p : Program} {l : Launch} {e : Env} {R : Room} {s : State} {m : MethodId} {args : Array Value} {below : List Frame} {meth : Method} {c : Code} {H : Heap} {locs : List Loc} {cells slots : Nat} {Q : State → Prop}
variable {mc ms : Nat} {free : Addr → Prop} {A0 A1 : Nat → Prop} {H0 : Heap} {a : Array Value} {ls : Array Slot} {st0 rest : List Value}
variable {Qc : Array Value → State → Outcome → State → Prop} {XC : String → State → State → Prop}
/-- what a body that may throw owes at its end -/
def vx_MQ (below : List Frame) (Qc : Array Value → State → Outcome → State → Prop) (XC : String → State → State → Prop) (a : Array Value) (s : State) (mc ms : Nat) (free : Addr → Prop) : State → Prop := fun t =>
  ∃ o, t.status = .running ∧ Ended t below o ∧ vx_Q Qc XC mc ms free a s o t
theorem vx_ret {g : JFrame} {mc ms : Nat} (k : W p l e R s m args below meth c H locs cells slots (MQ below Qc args s mc ms free) g) : W p l e R s m args below meth c H locs cells slots (vx_MQ below Qc XC args s mc ms free) g := by
  intro T hT X
  obtain ⟨t, a1, o, b1, b2, b3, b4⟩ := k T hT X
  exact ⟨t, a1, o, b1, b2, Or.inl ⟨b3, b4⟩⟩
/-- not caught here: it goes on to the caller -/
theorem vx_widen {g : JFrame} {q : Addr} {k n : Nat} (h1 : cells ≤ k) (h2 : slots ≤ n) (kk : vx_W p l e R s m args below meth c H locs k n Q g q) : vx_W p l e R s m args below meth c H locs cells slots Q g q := fun T hT X => kk T hT (stand_widen X h1 h2)
theorem vx_out {pc : Nat} {E : String} {ce : Cell} {q : Addr} {mc ms : Nat} (hout : ∀ x ∈ c.exceptionTable.toList, covers x pc = false) (hlocks : meth.locks = false) (hcell : H[q]? = some ce) (hv : ce.vm = .none) (hcl : s.vm.findClass E = some ce.cls)
    (hx : ∀ t : State, t.heap = H → s.vm.Alike t.vm → XC E s t) (hf : ∀ z ∈ locs, free z.base) (hc : cells ≤ mc) (hs : slots ≤ ms) :
    vx_W p l e R s m args below meth c H locs cells slots (vx_MQ below Qc XC args s mc ms free) (F0 m pc ls rest) q := by
  intro T hT X
  obtain ⟨st1, hrun, hend, hW, hsm⟩ := X.leaveThrown q (g := F0 m pc ls rest) rfl rfl rfl hout hlocks
  have hcell9 : (T.setFrames (.throwing q :: below)).heap[q]? = some ce := by
    show T.heap[q]? = some ce
    rw [hT]; exact hcell
  exact ⟨_, st1, .threw q, hrun, hend, Or.inr ⟨q, rfl, E, ce, locs, hx _ hT hW.alike, hcell9, hv, hcl, hW, hsm.mono hc hs, hf⟩⟩
theorem vx_frame {U : State} {k n : Nat} (h : s.sameButNew ({ U with vm := s.vm } : State) locs k n) : s.heap.size ≤ U.heap.size ∧ ∀ q : Nat, q < s.heap.size → (∀ z ∈ locs, z.base ≠ q) → U.heap[q]? = s.heap[q]? := by
  obtain ⟨-, h2, -, -, -, h6⟩ := h
  refine ⟨h2, fun q hq hz => ?_⟩
  obtain ⟨c9, e1, e2, e3, e4⟩ := h6 q _ (Array.getElem?_eq_getElem hq)
  have hs : c9.slots = (s.heap[q]).slots := Array.ext_getElem? fun i => e4 i fun hm => hz _ hm rfl
  have h9 : c9 = s.heap[q] := by
    rw [hs] at e2
    exact e2
  have e5 : U.heap[q]? = some c9 := e1
  rw [e5, h9, Array.getElem?_eq_getElem hq]
/-- the words of a throw but the four that speak of the heap -/
def vx_no (w : Cond) : Bool := decide (w ≠ .isRef (.static Bundle.tN "UNASSIGNED_STACK" Bundle.steD)) && decide (w ≠ .isRef (.static Bundle.tN "SUPPRESSED_SENTINEL" Bundle.listD)) && decide (w ≠ .laysStatic Bundle.tN "UNASSIGNED_STACK" Bundle.steD) && decide (w ≠ .laysStatic Bundle.tN "SUPPRESSED_SENTINEL" Bundle.listD)
def vx_at0 (own : String) (ic : Nat) (X : String) (names : List String) : List Cond := (Bundle.ownAtoms0 own ic X names).filter vx_no
def vx_atS (own : String) (ic : Nat) (X : String) (names : List String) : List Cond := (Bundle.ownAtoms own ic X names).filter vx_no
/-- a word that the tables alone decide, or a good one -/
def vx_ot (w : Cond) : Bool := w.onTables || goodWord w
theorem vx_ot_at {args a' : Array Value} {s U : State} {w : Cond} (hW : s.WarmedH U.vm) (hvm : s.vm = U.vm) (hg : vx_ot w = true) (h : w.before args s = true) : w.before a' U = true := by
  simp only [vx_ot, Bool.or_eq_true] at hg
  rcases hg with hg | hg
  · exact va_tabs hg hvm h
  · exact word_at hW (good_of_word hg) h
/-- a list's words: the good ones out of the method's own list, the others by premises of their own -/
theorem vx_hat {args : Array Value} {s : State} {L B : List Cond} (h1 : ∀ w ∈ L.filter goodWord, w.before args s = true) (h2 : ∀ w ∈ L.filter (fun w => !goodWord w), w ∈ B) (h3 : ∀ w ∈ B, w.before args s = true) : ∀ w ∈ L, w.before args s = true := by
  intro w hw
  by_cases g : goodWord w = true
  · exact h1 w (List.mem_filter.mpr ⟨hw, g⟩)
  · refine h3 w (h2 w (List.mem_filter.mpr ⟨hw, ?_⟩))
    show (!goodWord w) = true
    cases hgw : goodWord w
    · rfl
    · exact absurd hgw g
theorem vx_c {args : Array Value} {s : State} {w : Cond} {B : List Cond} (h : w.before args s = true) (t : ∀ w ∈ B, w.before args s = true) : ∀ w' ∈ w :: B, w'.before args s = true := fun w' h' => (List.mem_cons.mp h').elim (fun e => by rw [e]; exact h) (t w')
theorem vx_n {args : Array Value} {s : State} : ∀ w ∈ ([] : List Cond), w.before args s = true := fun _ h => nomatch h
theorem vx_own {args : Array Value} {s : State} {L : List Cond} (h1 : ∀ w ∈ L.filter vx_no, w.before args s = true)
    (hU : (Cond.isRef (.static Bundle.tN "UNASSIGNED_STACK" Bundle.steD)).before args s = true) (hN : (Cond.isRef (.static Bundle.tN "SUPPRESSED_SENTINEL" Bundle.listD)).before args s = true)
    (lU : (Cond.laysStatic Bundle.tN "UNASSIGNED_STACK" Bundle.steD).before args s = true) (lN : (Cond.laysStatic Bundle.tN "SUPPRESSED_SENTINEL" Bundle.listD).before args s = true) : ∀ w ∈ L, w.before args s = true := by
  intro w hw
  by_cases e1 : w = .isRef (.static Bundle.tN "UNASSIGNED_STACK" Bundle.steD)
  · rw [e1]; exact hU
  · by_cases e2 : w = .isRef (.static Bundle.tN "SUPPRESSED_SENTINEL" Bundle.listD)
    · rw [e2]; exact hN
    · by_cases e3 : w = .laysStatic Bundle.tN "UNASSIGNED_STACK" Bundle.steD
      · rw [e3]; exact lU
      · by_cases e4 : w = .laysStatic Bundle.tN "SUPPRESSED_SENTINEL" Bundle.listD
        · rw [e4]; exact lN
        · exact h1 w (List.mem_filter.mpr ⟨hw, by unfold vx_no; rw [decide_eq_true e1, decide_eq_true e2, decide_eq_true e3, decide_eq_true e4]; rfl⟩)
/-- where a static field lies, its class's statics cell in H -/
def vx_L (C n d : String) (A : Nat → Prop) (U : State) (H : Heap) : Prop := ∃ (c : ClassId) (k : Class) (i : Nat) (f : Field) (a : Nat) (cell : Cell), U.vm.findClass C = some c ∧ U.fieldFound? C n d = some (c, k, i, f) ∧ f.isStatic = true ∧ k.statics = some a ∧ H[a]? = some cell ∧ cell.vm.isStatics = true ∧ cell.cls = c ∧ f.slot < cell.slots.size ∧ k.staticTypes[f.slot]? = some f.type ∧ ¬ A a
theorem vx_L.moved {C n d : String} {A : Nat → Prop} {u U : State} {H : Heap} (hvm : u.vm.Alike U.vm) (h : vx_L C n d A u H) : vx_L C n d A U H := by
  obtain ⟨c, k, i, f, a, cell, h1, h2, h3, h4, h5, h6, h7, h8, h9, h10⟩ := h
  obtain ⟨k', hi', he⟩ := State.fieldFound?_setVm hvm h2
  exact ⟨c, k', i, f, a, cell, by rw [hvm.findClass]; exact h1, hi', h3, by rw [he]; exact h4, h5, h6, h7, h8, by rw [he]; exact h9, h10⟩
theorem vx_L.kept {C n d : String} {A : Nat → Prop} {U : State} {H H1 : Heap} (h : vx_L C n d A U H) (hq : ∀ a : Nat, a < H.size → ¬ A a → H1[a]? = H[a]?) : vx_L C n d A U H1 := by
  obtain ⟨c, k, i, f, a, cell, h1, h2, h3, h4, h5, h6, h7, h8, h9, h10⟩ := h
  exact ⟨c, k, i, f, a, cell, h1, h2, h3, h4, by rw [hq a (Array.getElem?_eq_some_iff.mp h5).1 h10]; exact h5, h6, h7, h8, h9, h10⟩
theorem vx_L.narrow {C n d : String} {A B : Nat → Prop} {U : State} {H : Heap} (h : vx_L C n d A U H) (hAB : ∀ q, B q → A q) : vx_L C n d B U H := by
  obtain ⟨c, k, i, f, a, cell, h1, h2, h3, h4, h5, h6, h7, h8, h9, h10⟩ := h
  exact ⟨c, k, i, f, a, cell, h1, h2, h3, h4, h5, h6, h7, h8, h9, fun z => h10 (hAB _ z)⟩
theorem vx_L.word {C n d : String} {A : Nat → Prop} {s : State} {args : Array Value} (h : vx_L C n d A s s.heap) : (Cond.laysStatic C n d).before args s = true := by
  obtain ⟨c, k, i, f, a, cell, h1, h2, h3, h4, h5, h6, h7, h8, h9, -⟩ := h
  show (Cond.laysStatic C n d).holds args s none s [] = true
  exact Cond.laysStatic_of h1 h2 h3 h4 h5 h6 h7 h8 h9
/-- .. and what it holds: null or some reference -/
def vx_Zq (C n d : String) (A : Nat → Prop) (U : State) (H : Heap) : Prop := va_Zq C n d A U H ∧ vx_L C n d A U H
theorem vx_Zq.moved {C n d : String} {A : Nat → Prop} {u U : State} {H : Heap} (hvm : u.vm.Alike U.vm) (h : vx_Zq C n d A u H) : vx_Zq C n d A U H := ⟨va_Zq.moved hvm h.1, vx_L.moved hvm h.2⟩
theorem vx_Zq.kept {C n d : String} {A : Nat → Prop} {U : State} {H H1 : Heap} (h : vx_Zq C n d A U H) (hq : ∀ a : Nat, a < H.size → ¬ A a → H1[a]? = H[a]?) : vx_Zq C n d A U H1 := ⟨va_Zq.kept h.1 hq, vx_L.kept h.2 hq⟩
theorem vx_Zq.narrow {C n d : String} {A B : Nat → Prop} {U : State} {H : Heap} (h : vx_Zq C n d A U H) (hAB : ∀ q, B q → A q) : vx_Zq C n d B U H := ⟨va_Zq.narrow h.1 hAB, vx_L.narrow h.2 hAB⟩
theorem vx_Zqof {args : Array Value} {s : State} {C n d : String} {A : Nat → Prop} (hl : (Cond.laysStatic C n d).before args s = true) (hini : (Cond.initialized C).before args s = true) (h : (Cond.isRef (.static C n d)).before args s = true) (hA : ∀ a : Nat, a < s.heap.size → ¬ A a) : vx_Zq C n d A s s.heap := by
  refine ⟨va_Zqof hl hini h hA, ?_⟩
  obtain ⟨c, k, i, f, a, cell, h1, h2, h3, h4, h5, h6, h7, h8, h9⟩ := Cond.laysStatic_spec hl
  exact ⟨c, k, i, f, a, cell, h1, h2, h3, h4, h5, h6, h7, h8, h9, hA a (Array.getElem?_eq_some_iff.mp h5).1⟩
theorem vx_isRef {C n d : String} {v : Value} {A : Nat → Prop} {s : State} {args : Array Value} (h : va_Z C n d v A s s.heap) (hv : v.isRef = true) : (Cond.isRef (.static C n d)).before args s = true := by
  obtain ⟨cf, kf, fi, f, a, cell, h1, h2, h3, h4, h5, h6, h7, -⟩ := h
  have he : (Term.static C n d).eval args s none [] s = some v := by
    simp [Term.eval, State.fieldNamed?, h1, h2, h4, h5, h6, h7]
  simp only [Cond.before, Cond.holds, Cond.value, he]
  cases v <;> simp_all [Value.isRef]
theorem vx_isRefq {C n d : String} {A : Nat → Prop} {s : State} {args : Array Value} (h : va_Zq C n d A s s.heap) : (Cond.isRef (.static C n d)).before args s = true := by
  rcases h with h | ⟨t, h⟩
  · exact vx_isRef h rfl
  · exact vx_isRef h rfl
/-- the same frame, seen from here: as if the method were called anew in this heap -/
theorem vx_rebase {T : State} (X : Stand p l e R s m args below meth c T locs cells slots) {R' : Room} (hf : R'.frames ≤ R.frames) (hl : R'.locals ≤ R.locals) (hc : cells + R'.cells ≤ R.cells) (hs : slots + R'.slots ≤ R.slots) :
    Stand p l e R' ((T.setVm s.vm).setFrames (.invoking m args :: below)) m args below meth c T [] 0 0 := by
  have htop : (T.setVm s.vm).topJava?.isSome := X.here.top
  have hF : ((T.setVm s.vm).setFrames (.invoking m args :: below)).frames = .invoking m args :: below := State.frames_setFrames _ (State.cur_lt_of_top htop)
  obtain ⟨g₀, hg0⟩ := Option.isSome_iff_exists.mp htop
  obtain ⟨r, hr⟩ := State.topJava?_eq_some.mp hg0
  have hl9 : e.platform.stackLimits (T.setVm s.vm).me = e.platform.stackLimits s.me := X.limits
  have hb9 : (T.setVm s.vm).me.stackBytes = s.me.stackBytes := X.bytes
  refine ⟨X.admits, X.cas, X.clock, hF, ?_, X.hears, X.method, X.code, X.here, X.tail, X.warmed, ?_, ?_, ?_⟩
  · have h := X.room
    have hU : ((T.setVm s.vm).setFrames (.invoking m args :: below)).localsInUse = s.localsInUse := by
      rw [State.localsInUse_invoking hF (meth := meth) (c := c) X.method X.code, State.localsInUse_invoking X.frames X.method X.code]
    simp only [State.hasRoom, Bool.and_eq_true, decide_eq_true_eq] at h ⊢
    obtain ⟨⟨⟨⟨h1, h2, h3, h4, h5, h6⟩, h7⟩, h8⟩, h9⟩ := h
    rw [X.frames, List.length_cons] at h2 h3
    have q1 := X.heapSize
    have q2 := X.used
    simp only [hF, hU, List.length_cons, State.stackLimits_setFrames, State.stackBytes_setFrames, hl9, hb9]
    refine ⟨⟨⟨⟨by omega, by omega, by omega, by omega, by omega, h6⟩, ?_⟩, ?_⟩, X.book⟩
    · show T.heap.size + R'.cells ≤ e.platform.maxCells
      omega
    · show T.slotsUsed + R'.slots ≤ e.platform.maxSlots
      omega
  · rw [State.stackLimits_setFrames]; rfl
  · rw [State.stackBytes_setFrames]; rfl
  · refine ⟨?_, Nat.le_refl _, Nat.le_refl _, ?_, ?_, fun a c9 h9 => ⟨c9, h9, rfl, rfl, fun _ _ => rfl⟩⟩
    · obtain ⟨t, ht, -⟩ := State.frames_cons hr
      show T.setVm s.vm = { ((T.setVm s.vm).setFrames (.invoking m args :: below)).setFrames (T.setVm s.vm).frames with heap := T.heap, slotsUsed := T.slotsUsed }
      rw [State.setFrames_setFrames, State.setFrames_self ht]
      rfl
    · show T.slotsUsed = T.slotsUsed + ((T.heap.toList.drop T.heap.size).map (·.slots.size)).sum
      rw [List.drop_eq_nil_of_le (Nat.le_of_eq Array.length_toList)]
      rfl
    · show ((T.heap.toList.drop T.heap.size).map (·.slots.size)).sum ≤ 0
      rw [List.drop_eq_nil_of_le (Nat.le_of_eq Array.length_toList)]
      exact Nat.le_refl _
/-- 'throw new E()': new; dup; invokespecial; athrow -/
theorem vx_throw0 {cc : ByteArray} {pc : Nat} (hexec : p.tables.exec = Jvm.exec) (hb : c.code = cc) (hl : l.stackTraces = false) {own cls : String} {names : List String} {ik ic mc ms : Nat} {A : Nat → Prop}
    (hown : s.vm.findClass own = some m.cls) (hcls : Bundle.fit cls = true) (hnames : ∀ n ∈ names, Bundle.fit n = true)
    (hk : (Cond.classLink own ik cls).before args s = true) (hini : (Cond.initialized cls).before args s = true) (hat : ∀ w ∈ vx_at0 own ic cls names, w.before args s = true)
    (hgood : ∀ w ∈ Cond.classLink own ik cls :: Cond.initialized cls :: vx_at0 own ic cls names, vx_ot w = true)
    (hU : vx_Zq Bundle.tN "UNASSIGNED_STACK" Bundle.steD A s s.heap) (hN : vx_Zq Bundle.tN "SUPPRESSED_SENTINEL" Bundle.listD A s s.heap) (hS : va_S A s.heap H locs) (hsize : ls.size = c.maxLocals)
    (d0 : decode cc pc = .ok (.new ik, 3)) (d3 : decode cc (pc + 3) = .ok (.dup, 1)) (d4 : decode cc (pc + 4) = .ok (.invokespecial ic, 3)) (d7 : decode cc (pc + 7) = .ok (.athrow, 1))
    (hout : ∀ x ∈ c.exceptionTable.toList, covers x (pc + 7) = false)
    (hRframes : names.length + 3 < R.frames) (hRlocals : (rest.map fun v => v.category).sum + (13 * (names.length + 1) + 42) ≤ R.locals) (hRcells : cells + 1 ≤ R.cells) (hRslots : slots + 6 ≤ R.slots) (hlocks : meth.locks = false)
    (hx : ∀ t : State, s.vm.Alike t.vm → H.size ≤ t.heap.size → (∀ q : Nat, q < H.size → t.heap[q]? = H[q]?) → XC cls s t)
    (hf : ∀ z ∈ locs, free z.base) (hc : cells + 1 ≤ mc) (hs : slots + 6 ≤ ms) :
    W p l e R s m args below meth c H locs cells slots (vx_MQ below Qc XC args s mc ms free) (F0 m pc ls rest) := by
  intro T hT X
  have htr : e.platform.stackTraces = false := (show e.platform.stackTraces = l.stackTraces by rw [X.admits.platform]).trans hl
  have Y := vx_rebase X (R' := { frames := R.frames, locals := R.locals, cells := 1, slots := 6 }) (Nat.le_refl _) (Nat.le_refl _) hRcells hRslots
  obtain ⟨s', hA⟩ : ∃ z, z = (T.setVm s.vm).setFrames (.invoking m args :: below) := ⟨_, rfl⟩
  rw [← hA] at Y
  have hvm : s'.vm = s.vm := by rw [hA]; rfl
  have hhp : s'.heap = H := by rw [hA]; exact hT
  have hW0 : s.WarmedH s'.vm := by rw [hvm]; exact State.WarmedH.refl s
  have hat' : ∀ w ∈ vx_at0 own ic cls names, w.before args s' = true := fun w hw => vx_ot_at hW0 hvm.symm (hgood w (List.mem_cons_of_mem _ (List.mem_cons_of_mem _ hw))) (hat w hw)
  have hk' : (Cond.classLink own ik cls).before args s' = true := vx_ot_at hW0 hvm.symm (hgood _ List.mem_cons_self) hk
  have hini' : (Cond.initialized cls).before args s' = true := vx_ot_at hW0 hvm.symm (hgood _ (List.mem_cons_of_mem _ List.mem_cons_self)) hini
  have hU' : vx_Zq Bundle.tN "UNASSIGNED_STACK" Bundle.steD A s' s'.heap := by rw [hhp]; exact vx_Zq.moved hW0.alike (hU.kept hS.2.1)
  have hN' : vx_Zq Bundle.tN "SUPPRESSED_SENTINEL" Bundle.listD A s' s'.heap := by rw [hhp]; exact vx_Zq.moved hW0.alike (hN.kept hS.2.1)
  have h : ∀ w ∈ Bundle.ownAtoms0 own ic cls names, w.before args s' = true := vx_own hat' (vx_isRefq hU'.1) (vx_isRefq hN'.1) hU'.2.word hN'.2.word
  have hown' : s'.vm.findClass own = some m.cls := by rw [hvm]; exact hown
  have hins : (Cond.instantiable cls 6).before args s' = true := h _ (by simp [Bundle.ownAtoms0])
  obtain ⟨vm₁, cX, kX, hfX, hkX, -, -, X₁, st1⟩ := Y.newCold hexec (own := own) (C := cls) (index := ik) (n := 6) hown' hk' hins hini'
    (g := F0 m pc ls rest) rfl (by rw [hb]; exact d0) (Nat.le_refl _) (Nat.le_refl _)
  generalize hT1 : (T.setVm vm₁).pushCell { cls := cX, slots := kX.instanceTypes.map defaultValue, vm := .none } = T1 at X₁ st1
  have hcat : (Value.ref T.heap.size).category = 1 := rfl
  have hcellA : T1.heap[T.heap.size]? = some (freshCell cX kX) := by rw [← hT1]; exact State.heap_pushCell_size _ _
  have d3' : decode c.code (pc + 3) = .ok (.dup, 1) := by rw [hb]; exact d3
  obtain ⟨U, hsteps, hrun, hend, hW, hsame, ce, hce, hO⟩ := X₁.ctorThrow0 hexec htr (own := own) (cls := cls) (names := names) (ic := ic) hown' hcls hnames h (fun x hx => nomatch hx) hfX hkX hcellA (by rw [hhp, hT]; exact Nat.le_refl _)
    (g := { method := m, pc := pc + 4, locals := ls, stack := .ref T.heap.size :: .ref T.heap.size :: rest, locked := none }) rfl hsize rfl rfl (rest := rest) rfl
    (by rw [hb]; exact d4) (by rw [hb]; exact d7) hout hRframes (by simp only [List.map_cons, List.sum_cons, hcat]; omega) hlocks
  obtain ⟨f1, f2⟩ := vx_frame hsame
  rw [hhp] at f1 f2
  have hWs : s.WarmedH U.vm := State.WarmedH.trans hW0 hW
  have hcl : s.vm.findClass cls = some ce.cls := by
    have h9 := hO.cls
    rw [hvm] at h9
    exact h9
  have hall : s.sameButNew ({ U with vm := s.vm } : State) locs mc ms := by
    subst hA
    obtain ⟨e1, e2⟩ := hsame
    rw [State.setFrames_setFrames] at e1
    have h2 : (T.setVm s.vm).sameButNew ({ U with vm := s.vm } : State) [] (0 + 1) (0 + 6) := ⟨e1, e2⟩
    have h3 := X.same.trans h2
    rw [List.append_nil] at h3
    exact h3.mono hc hs
  refine ⟨U, ?_, .threw T.heap.size, hrun, hend, Or.inr ⟨T.heap.size, rfl, cls, ce, locs, hx U hWs.alike f1 (fun q hq => f2 q hq (fun z hz => nomatch hz)), hce, hO.vm, hcl, hWs, hall, hf⟩⟩
  refine st1 _ ?_
  show Steps p.tables e below (T1.setTop { method := m, pc := pc + 3, locals := ls, stack := .ref T.heap.size :: rest, locked := none }) _
  jvm_step X₁.here [X₁.here.top, hexec, d3', Value.category]
  exact hsteps
/-- 'throw new E("text")': new; dup; ldc; invokespecial; athrow -/
theorem vx_throwS {cc : ByteArray} {pc : Nat} (hexec : p.tables.exec = Jvm.exec) (hb : c.code = cc) (hl : l.stackTraces = false) {own cls text : String} {names : List String} {ik is ic mc ms sa : Nat} {A : Nat → Prop}
    (hown : s.vm.findClass own = some m.cls) (hcls : Bundle.fit cls = true) (hnames : ∀ n ∈ names, Bundle.fit n = true)
    (hk : (Cond.classLink own ik cls).before args s = true) (hini : (Cond.initialized cls).before args s = true) (hstr : vk_R own is text sa s) (hat : ∀ w ∈ vx_atS own ic cls names, w.before args s = true)
    (hgood : ∀ w ∈ Cond.classLink own ik cls :: Cond.initialized cls :: vx_atS own ic cls names, vx_ot w = true)
    (hU : vx_Zq Bundle.tN "UNASSIGNED_STACK" Bundle.steD A s s.heap) (hN : vx_Zq Bundle.tN "SUPPRESSED_SENTINEL" Bundle.listD A s s.heap) (hS : va_S A s.heap H locs) (hsize : ls.size = c.maxLocals)
    (d0 : decode cc pc = .ok (.new ik, 3)) (d3 : decode cc (pc + 3) = .ok (.dup, 1)) (d4 : decode cc (pc + 4) = .ok (.ldc is, 2)) (d6 : decode cc (pc + 6) = .ok (.invokespecial ic, 3)) (d9 : decode cc (pc + 9) = .ok (.athrow, 1))
    (hout : ∀ x ∈ c.exceptionTable.toList, covers x (pc + 9) = false)
    (hRframes : names.length + 3 < R.frames) (hRlocals : (rest.map fun v => v.category).sum + (13 * (names.length + 1) + 43) ≤ R.locals) (hRcells : cells + 1 ≤ R.cells) (hRslots : slots + 6 ≤ R.slots) (hlocks : meth.locks = false)
    (hx : ∀ t : State, s.vm.Alike t.vm → H.size ≤ t.heap.size → (∀ q : Nat, q < H.size → t.heap[q]? = H[q]?) → XC cls s t)
    (hf : ∀ z ∈ locs, free z.base) (hc : cells + 1 ≤ mc) (hs : slots + 6 ≤ ms) :
    W p l e R s m args below meth c H locs cells slots (vx_MQ below Qc XC args s mc ms free) (F0 m pc ls rest) := by
  intro T hT X
  have htr : e.platform.stackTraces = false := (show e.platform.stackTraces = l.stackTraces by rw [X.admits.platform]).trans hl
  have Y := vx_rebase X (R' := { frames := R.frames, locals := R.locals, cells := 1, slots := 6 }) (Nat.le_refl _) (Nat.le_refl _) hRcells hRslots
  obtain ⟨s', hA⟩ : ∃ z, z = (T.setVm s.vm).setFrames (.invoking m args :: below) := ⟨_, rfl⟩
  rw [← hA] at Y
  have hvm : s'.vm = s.vm := by rw [hA]; rfl
  have hhp : s'.heap = H := by rw [hA]; exact hT
  have hW0 : s.WarmedH s'.vm := by rw [hvm]; exact State.WarmedH.refl s
  have hat' : ∀ w ∈ vx_atS own ic cls names, w.before args s' = true := fun w hw => vx_ot_at hW0 hvm.symm (hgood w (List.mem_cons_of_mem _ (List.mem_cons_of_mem _ hw))) (hat w hw)
  have hk' : (Cond.classLink own ik cls).before args s' = true := vx_ot_at hW0 hvm.symm (hgood _ List.mem_cons_self) hk
  have hini' : (Cond.initialized cls).before args s' = true := vx_ot_at hW0 hvm.symm (hgood _ (List.mem_cons_of_mem _ List.mem_cons_self)) hini
  have hU' : vx_Zq Bundle.tN "UNASSIGNED_STACK" Bundle.steD A s' s'.heap := by rw [hhp]; exact vx_Zq.moved hW0.alike (hU.kept hS.2.1)
  have hN' : vx_Zq Bundle.tN "SUPPRESSED_SENTINEL" Bundle.listD A s' s'.heap := by rw [hhp]; exact vx_Zq.moved hW0.alike (hN.kept hS.2.1)
  have h : ∀ w ∈ Bundle.ownAtoms own ic cls names, w.before args s' = true := vx_own hat' (vx_isRefq hU'.1) (vx_isRefq hN'.1) hU'.2.word hN'.2.word
  have hown' : s'.vm.findClass own = some m.cls := by rw [hvm]; exact hown
  have hins : (Cond.instantiable cls 6).before args s' = true := h _ (by simp [Bundle.ownAtoms])
  obtain ⟨vm₁, cX, kX, hfX, hkX, -, -, X₁, st1⟩ := Y.newCold hexec (own := own) (C := cls) (index := ik) (n := 6) hown' hk' hins hini'
    (g := F0 m pc ls rest) rfl (by rw [hb]; exact d0) (Nat.le_refl _) (Nat.le_refl _)
  generalize hT1 : (T.setVm vm₁).pushCell { cls := cX, slots := kX.instanceTypes.map defaultValue, vm := .none } = T1 at X₁ st1
  have hcat : (Value.ref T.heap.size).category = 1 := rfl
  have hcellA : T1.heap[T.heap.size]? = some (freshCell cX kX) := by rw [← hT1]; exact State.heap_pushCell_size _ _
  have d3' : decode c.code (pc + 3) = .ok (.dup, 1) := by rw [hb]; exact d3
  have d4' : decode c.code (pc + 4) = .ok (.ldc is, 2) := by rw [hb]; exact d4
  have hstr' : vk_R own is text sa s' := vk_R.warm hW0 hstr
  obtain ⟨U, hsteps, hrun, hend, hW, hsame, ce, hce, hO⟩ := X₁.ctorThrowS hexec htr (own := own) (cls := cls) (names := names) (ic := ic) hown' hcls hnames h (fun x hx => nomatch hx) hfX hkX hcellA (by rw [hhp, hT]; exact Nat.le_refl _) (msg := .ref sa) rfl
    (g := { method := m, pc := pc + 6, locals := ls, stack := .ref sa :: .ref T.heap.size :: .ref T.heap.size :: rest, locked := none }) rfl hsize rfl rfl (rest := rest) rfl
    (by rw [hb]; exact d6) (by rw [hb]; exact d9) hout hRframes (by simp only [List.map_cons, List.sum_cons, hcat]; omega) hlocks
  obtain ⟨f1, f2⟩ := vx_frame hsame
  rw [hhp] at f1 f2
  have hWs : s.WarmedH U.vm := State.WarmedH.trans hW0 hW
  have hcl : s.vm.findClass cls = some ce.cls := by
    have h9 := hO.cls
    rw [hvm] at h9
    exact h9
  have hall : s.sameButNew ({ U with vm := s.vm } : State) locs mc ms := by
    subst hA
    obtain ⟨e1, e2⟩ := hsame
    rw [State.setFrames_setFrames] at e1
    have h2 : (T.setVm s.vm).sameButNew ({ U with vm := s.vm } : State) [] (0 + 1) (0 + 6) := ⟨e1, e2⟩
    have h3 := X.same.trans h2
    rw [List.append_nil] at h3
    exact h3.mono hc hs
  refine ⟨U, ?_, .threw T.heap.size, hrun, hend, Or.inr ⟨T.heap.size, rfl, cls, ce, locs, hx U hWs.alike f1 (fun q hq => f2 q hq (fun z hz => nomatch hz)), hce, hO.vm, hcl, hWs, hall, hf⟩⟩
  refine st1 _ ?_
  show Steps p.tables e below (T1.setTop { method := m, pc := pc + 3, locals := ls, stack := .ref T.heap.size :: rest, locked := none }) _
  jvm_step X₁.here [X₁.here.top, hexec, d3', Value.category]
  exact X₁.ldcString hexec (own := own) (text := text) (index := is) (a := sa) hown' hstr'.1 hstr'.2
    (g := { method := m, pc := pc + 4, locals := ls, stack := .ref T.heap.size :: .ref T.heap.size :: rest, locked := none }) rfl d4' _ hsteps
/-- 'throw new E("text")', the text by a wide index -/
theorem vx_throwSW {cc : ByteArray} {pc : Nat} (hexec : p.tables.exec = Jvm.exec) (hb : c.code = cc) (hl : l.stackTraces = false) {own cls text : String} {names : List String} {ik is ic mc ms sa : Nat} {A : Nat → Prop}
    (hown : s.vm.findClass own = some m.cls) (hcls : Bundle.fit cls = true) (hnames : ∀ n ∈ names, Bundle.fit n = true)
    (hk : (Cond.classLink own ik cls).before args s = true) (hini : (Cond.initialized cls).before args s = true) (hstr : vk_R own is text sa s) (hat : ∀ w ∈ vx_atS own ic cls names, w.before args s = true)
    (hgood : ∀ w ∈ Cond.classLink own ik cls :: Cond.initialized cls :: vx_atS own ic cls names, vx_ot w = true)
    (hU : vx_Zq Bundle.tN "UNASSIGNED_STACK" Bundle.steD A s s.heap) (hN : vx_Zq Bundle.tN "SUPPRESSED_SENTINEL" Bundle.listD A s s.heap) (hS : va_S A s.heap H locs) (hsize : ls.size = c.maxLocals)
    (d0 : decode cc pc = .ok (.new ik, 3)) (d3 : decode cc (pc + 3) = .ok (.dup, 1)) (d4 : decode cc (pc + 4) = .ok (.ldc_w is, 3)) (d7 : decode cc (pc + 7) = .ok (.invokespecial ic, 3)) (d10 : decode cc (pc + 10) = .ok (.athrow, 1))
    (hout : ∀ x ∈ c.exceptionTable.toList, covers x (pc + 10) = false)
    (hRframes : names.length + 3 < R.frames) (hRlocals : (rest.map fun v => v.category).sum + (13 * (names.length + 1) + 43) ≤ R.locals) (hRcells : cells + 1 ≤ R.cells) (hRslots : slots + 6 ≤ R.slots) (hlocks : meth.locks = false)
    (hx : ∀ t : State, s.vm.Alike t.vm → H.size ≤ t.heap.size → (∀ q : Nat, q < H.size → t.heap[q]? = H[q]?) → XC cls s t)
    (hf : ∀ z ∈ locs, free z.base) (hc : cells + 1 ≤ mc) (hs : slots + 6 ≤ ms) :
    W p l e R s m args below meth c H locs cells slots (vx_MQ below Qc XC args s mc ms free) (F0 m pc ls rest) := by
  intro T hT X
  have htr : e.platform.stackTraces = false := (show e.platform.stackTraces = l.stackTraces by rw [X.admits.platform]).trans hl
  have Y := vx_rebase X (R' := { frames := R.frames, locals := R.locals, cells := 1, slots := 6 }) (Nat.le_refl _) (Nat.le_refl _) hRcells hRslots
  obtain ⟨s', hA⟩ : ∃ z, z = (T.setVm s.vm).setFrames (.invoking m args :: below) := ⟨_, rfl⟩
  rw [← hA] at Y
  have hvm : s'.vm = s.vm := by rw [hA]; rfl
  have hhp : s'.heap = H := by rw [hA]; exact hT
  have hW0 : s.WarmedH s'.vm := by rw [hvm]; exact State.WarmedH.refl s
  have hat' : ∀ w ∈ vx_atS own ic cls names, w.before args s' = true := fun w hw => vx_ot_at hW0 hvm.symm (hgood w (List.mem_cons_of_mem _ (List.mem_cons_of_mem _ hw))) (hat w hw)
  have hk' : (Cond.classLink own ik cls).before args s' = true := vx_ot_at hW0 hvm.symm (hgood _ List.mem_cons_self) hk
  have hini' : (Cond.initialized cls).before args s' = true := vx_ot_at hW0 hvm.symm (hgood _ (List.mem_cons_of_mem _ List.mem_cons_self)) hini
  have hU' : vx_Zq Bundle.tN "UNASSIGNED_STACK" Bundle.steD A s' s'.heap := by rw [hhp]; exact vx_Zq.moved hW0.alike (hU.kept hS.2.1)
  have hN' : vx_Zq Bundle.tN "SUPPRESSED_SENTINEL" Bundle.listD A s' s'.heap := by rw [hhp]; exact vx_Zq.moved hW0.alike (hN.kept hS.2.1)
  have h : ∀ w ∈ Bundle.ownAtoms own ic cls names, w.before args s' = true := vx_own hat' (vx_isRefq hU'.1) (vx_isRefq hN'.1) hU'.2.word hN'.2.word
  have hown' : s'.vm.findClass own = some m.cls := by rw [hvm]; exact hown
  have hins : (Cond.instantiable cls 6).before args s' = true := h _ (by simp [Bundle.ownAtoms])
  obtain ⟨vm₁, cX, kX, hfX, hkX, -, -, X₁, st1⟩ := Y.newCold hexec (own := own) (C := cls) (index := ik) (n := 6) hown' hk' hins hini'
    (g := F0 m pc ls rest) rfl (by rw [hb]; exact d0) (Nat.le_refl _) (Nat.le_refl _)
  generalize hT1 : (T.setVm vm₁).pushCell { cls := cX, slots := kX.instanceTypes.map defaultValue, vm := .none } = T1 at X₁ st1
  have hcat : (Value.ref T.heap.size).category = 1 := rfl
  have hcellA : T1.heap[T.heap.size]? = some (freshCell cX kX) := by rw [← hT1]; exact State.heap_pushCell_size _ _
  have d3' : decode c.code (pc + 3) = .ok (.dup, 1) := by rw [hb]; exact d3
  have d4' : decode c.code (pc + 4) = .ok (.ldc_w is, 3) := by rw [hb]; exact d4
  have hstr' : vk_R own is text sa s' := vk_R.warm hW0 hstr
  obtain ⟨U, hsteps, hrun, hend, hW, hsame, ce, hce, hO⟩ := X₁.ctorThrowS hexec htr (own := own) (cls := cls) (names := names) (ic := ic) hown' hcls hnames h (fun x hx => nomatch hx) hfX hkX hcellA (by rw [hhp, hT]; exact Nat.le_refl _) (msg := .ref sa) rfl
    (g := { method := m, pc := pc + 7, locals := ls, stack := .ref sa :: .ref T.heap.size :: .ref T.heap.size :: rest, locked := none }) rfl hsize rfl rfl (rest := rest) rfl
    (by rw [hb]; exact d7) (by rw [hb]; exact d10) hout hRframes (by simp only [List.map_cons, List.sum_cons, hcat]; omega) hlocks
  obtain ⟨f1, f2⟩ := vx_frame hsame
  rw [hhp] at f1 f2
  have hWs : s.WarmedH U.vm := State.WarmedH.trans hW0 hW
  have hcl : s.vm.findClass cls = some ce.cls := by
    have h9 := hO.cls
    rw [hvm] at h9
    exact h9
  have hall : s.sameButNew ({ U with vm := s.vm } : State) locs mc ms := by
    subst hA
    obtain ⟨e1, e2⟩ := hsame
    rw [State.setFrames_setFrames] at e1
    have h2 : (T.setVm s.vm).sameButNew ({ U with vm := s.vm } : State) [] (0 + 1) (0 + 6) := ⟨e1, e2⟩
    have h3 := X.same.trans h2
    rw [List.append_nil] at h3
    exact h3.mono hc hs
  refine ⟨U, ?_, .threw T.heap.size, hrun, hend, Or.inr ⟨T.heap.size, rfl, cls, ce, locs, hx U hWs.alike f1 (fun q hq => f2 q hq (fun z hz => nomatch hz)), hce, hO.vm, hcl, hWs, hall, hf⟩⟩
  refine st1 _ ?_
  show Steps p.tables e below (T1.setTop { method := m, pc := pc + 3, locals := ls, stack := .ref T.heap.size :: rest, locked := none }) _
  jvm_step X₁.here [X₁.here.top, hexec, d3', Value.category]
  exact X₁.ldcStringW hexec (own := own) (text := text) (index := is) (a := sa) hown' hstr'.1 hstr'.2
    (g := { method := m, pc := pc + 4, locals := ls, stack := .ref T.heap.size :: .ref T.heap.size :: rest, locked := none }) rfl d4' _ hsteps
end Ends
section Bodies
variable {l : Launch}
theorem vx_ofW {y : MethodName} {ws ws' : List Cond} {rm : Room} {Pc : Array Value → State → Prop} {Qc : Array Value → State → Outcome → State → Prop} {XC : String → State → State → Prop} {mc ms : Nat} {free : Addr → Prop} {cc : ByteArray} {maxL : Nat} {ret : Option FieldType}
    (hy : plainName y.cls = true) (hw : ws = Cond.code y cc maxL ret :: ws')
    (body : ∀ p e s m args below meth c s₁, BodyLoose p l y (headSpec ws rm) cc maxL ret e s m args below meth c s₁ → c.maxLocals = maxL → (∀ x ∈ c.exceptionTable.toList, False) → Pc args s →
      W p l e (headSpec ws rm).room s m args below meth c s.heap [] 0 0 (vx_MQ below Qc XC args s mc ms free) (entryFrame m args maxL)) : vx_Met l y ws rm Pc Qc XC mc ms free := by
  refine MetFree.of_bodyS (code := cc) (maxLocals := maxL) (ret := ret) hy ?_ ?_
  · intro args s m h hn
    obtain ⟨meth, c, h1, h2, h3, h4, h5, h6, -, -⟩ := Cond.code_spec hn (atoms_spec (ws := ws) h _ (by rw [hw]; exact List.mem_cons_self))
    exact ⟨meth, c, h1, h2, h3, h4, h5, h6⟩
  · intro p e s m args below meth c s₁ B hml hP _
    have hh0 : s₁.heap = s.heap := by rw [B.state]; rfl
    have ht : ∀ x ∈ c.exceptionTable.toList, False := by
      obtain ⟨meth9, c9, h1, h2, -, -, -, -, h7, -⟩ := Cond.code_spec B.named (atoms_spec (ws := ws) B.pre _ (by rw [hw]; exact List.mem_cons_self))
      cases Option.some.inj (h1.symm.trans B.method)
      cases Option.some.inj (h2.symm.trans (Stand.of_body B).code)
      intro x hx
      rw [Array.isEmpty_iff.mp h7] at hx
      cases hx
    obtain ⟨t, a1, o, b1, b2, b3⟩ := body p e s m args below meth c s₁ B hml ht hP s₁ hh0 (Stand.of_body B)
    exact ⟨t, o, a1, b1, b2, b3⟩
/-- the table of a body with handlers -/
theorem vx_table {p : Program} {x y : MethodName} {S : Spec} {cc bytes : ByteArray} {maxL maxL' : Nat} {ret ret' : Option FieldType} {e : Env} {s s₁ : State} {m : MethodId} {args : Array Value} {below : List Frame} {meth : Method} {c : Code} {hh : List (Nat × Nat × Nat × Nat)}
    (B : BodyLoose p l y S cc maxL ret e s m args below meth c s₁) (h : (Cond.codeWith y bytes maxL' ret' hh).before args s = true) : c.exceptionTable.toList = tableOf hh := by
  obtain ⟨m9, meth9, c9, hn9, h1, h2, -, -, h6, -⟩ := Cond.codeWith_spec h
  cases Option.some.inj (hn9.symm.trans B.named)
  cases Option.some.inj (h1.symm.trans B.method)
  cases Option.some.inj (h2.symm.trans (Stand.of_body B).code)
  rw [← h6, table_eq]
end Bodies
end VXA
/-! ===== END ===== -/
/-! ===== BEGIN a static call of a method with an exception table ===== -/
section VXS
variable {p : Program} {l : Launch} {e : Env} {R : Room} {s : State} {m : MethodId} {args : Array Value} {below : List Frame} {meth : Method} {c : Code} {T : State} {H : Heap} {locs : List Loc} {cells slots : Nat}
abbrev vx_CSW (R : Room) (s : State) (args : Array Value) (own : String) (index : Nat) (y : MethodName) (bytes : ByteArray) (maxL : Nat) (ret : Option FieldType) (hh : List (Nat × Nat × Nat × Nat)) (ws : List Cond) (rm : Room) (mc ms n : Nat) : Prop :=
  (rm.cells = mc ∧ rm.slots = ms ∧ rm.frames + 1 ≤ R.frames ∧ 8 + (maxL + 11) + rm.locals ≤ R.locals ∧ (∀ w ∈ ws, ∀ (a' : Array Value) (U : State), s.WarmedH U.vm → w.before a' U = true) ∧ Cond.codeWith y bytes maxL ret hh ∈ ws) ∧
  (Cond.codeWith y bytes maxL ret hh).before args s = true ∧ (Cond.initialized y.cls).before args s = true ∧ (y.cls ≠ "java/lang/invoke/MethodHandle" ∧ y.cls ≠ "java/lang/invoke/VarHandle") ∧
  (∀ sig, parseMethodDescriptor y.desc = some sig → n = sig.parameters.length) ∧ (Cond.methodLink own index y).before args s = true ∧ (Cond.static y).before args s = true
theorem vx_cwSW {own : String} {index maxL mc ms : Nat} {y : MethodName} {bytes : ByteArray} {ret : Option FieldType} {hh : List (Nat × Nat × Nat × Nat)} {Ts ws ws' : List Cond} {rm : Room} (n : Nat) (ht : ∀ w ∈ Ts, w.before args s = true) (hT : GoodIn Ts (va_wsS own index y ws)) (hw : ws = Cond.codeWith y bytes maxL ret hh :: ws') (hrc : rm.cells = mc) (hrs : rm.slots = ms)
    (hd : y.cls ≠ "java/lang/invoke/MethodHandle" ∧ y.cls ≠ "java/lang/invoke/VarHandle" ∧ (parseMethodDescriptor y.desc).map (fun d => d.parameters.length) = some n) (hR : rm.frames + 1 ≤ R.frames ∧ 8 + (maxL + 11) + rm.locals ≤ R.locals) :
    vx_CSW R s args own index y bytes maxL ret hh ws rm mc ms n := by
  have ok : ∀ w ∈ va_wsS own index y ws, w.before args s = true := fun w h => ht w (hT w h).1
  have hG : GoodIn Ts ws := fun w h => hT w (by unfold va_wsS; exact List.mem_append_right _ h)
  have hc : Cond.codeWith y bytes maxL ret hh ∈ ws := by rw [hw]; exact List.mem_cons_self
  refine ⟨⟨hrc, hrs, hR.1, hR.2, pay_in ht hG, hc⟩, ht _ (hG _ hc).1, ok _ (by simp [va_wsS]), ⟨hd.1, hd.2.1⟩, fun sig h => ?_, ok _ (by simp [va_wsS]), ok _ (by simp [va_wsS])⟩
  have h2 := hd.2.2
  rw [h] at h2
  exact (Option.some.inj h2).symm
theorem vx_callSW (X : Stand p l e R s m args below meth c T locs cells slots) (hexec : p.tables.exec = Jvm.exec) {own : String} {index : Nat} {y : MethodName} {bytes : ByteArray} {maxL : Nat} {ret : Option FieldType} {hh : List (Nat × Nat × Nat × Nat)}
    (hown : s.vm.findClass own = some m.cls) (hlink : (Cond.methodLink own index y).before args s = true) (hstat : (Cond.static y).before args s = true) (hinit : (Cond.initialized y.cls).before args s = true)
    (hcode : (Cond.codeWith y bytes maxL ret hh).before args s = true) (hy : y.cls ≠ "java/lang/invoke/MethodHandle" ∧ y.cls ≠ "java/lang/invoke/VarHandle")
    {W9 : Nat} {Pre : Pt → Array Value → Prop} {Post : Pt → Array Value → Option Value → Pt → Prop} (hK : Back l R p e below s args y 3 W9 Pre Post)
    {g : JFrame} (hg : g.method = m) (hsize : g.locals.size = c.maxLocals) {argsL rest : List Value} (hlen : ∀ sig, parseMethodDescriptor y.desc = some sig → argsL.length = sig.parameters.length)
    (hstack : g.stack = argsL.reverse ++ rest) (hW : 2 * g.monitorRoom + (rest.map fun v => v.category).sum ≤ W9) (hdg : decode c.code g.pc = .ok (.invokestatic index, 3))
    (hpre : ∀ vm₁, s.WarmedH vm₁ → Pre ⟨T.setVm vm₁, locs, cells, slots⟩ argsL.toArray) :
    ∃ (v : Option Value) (vm₁ : Vm) (B : Pt), s.WarmedH vm₁ ∧ Stand p l e R s m args below meth c B.U B.locs B.cells B.slots ∧ Post ⟨T.setVm vm₁, locs, cells, slots⟩ argsL.toArray v B ∧
      ∀ target, Steps p.tables e below (B.U.setTop { g with pc := g.pc + 3, stack := v.toList ++ rest }) target → Steps p.tables e below (T.setTop g) target := by
  obtain ⟨mk, methM, cM, hnamed, hmethM, -, -, -, -, -, -, hsigM⟩ := Cond.codeWith_spec hcode
  have hstatic : methM.isStatic = true := Cond.static_spec hnamed hmethM hstat
  obtain ⟨kP, hkP, -⟩ := className_of_methodNamed hnamed
  have hinitP : kP.init = .initialized := Cond.initialized_spec (findClass_of_methodNamed hnamed) hkP hinit
  obtain ⟨vm₁, X₁, hstep₁⟩ := X.invokestatic hexec hown hlink hnamed hmethM hstatic hkP hinitP hy (g := g) hg (argsL := argsL) (rest := rest) (hlen _ hsigM) hstack hdg
  obtain ⟨v, B, X', hpost, hsteps⟩ := hK m meth c ⟨T.setVm vm₁, locs, cells, slots⟩ { g with stack := rest } (.invokestatic index) mk argsL.toArray X₁ hg hsize hdg hW (X₁.named hnamed) (hpre vm₁ X₁.warmed)
  exact ⟨v, vm₁, B, X₁.warmed, X', hpost, fun target h => hstep₁ _ fun acts => by rw [doInvoke_state]; exact hsteps.trans h⟩
theorem vx_runSW {y : MethodName} {bytes cc : ByteArray} {maxL nL mc ms n index : Nat} {ret : Option FieldType} {hh : List (Nat × Nat × Nat × Nat)} {ws : List Cond} {rm : Room} {Pc : Array Value → State → Prop} {Qc : Array Value → State → Outcome → State → Prop} {free : Addr → Prop} {Ts : List Cond} {own : String} {As rest : List Value} {g : JFrame}
    (S : CallFix p m c cc nL s args Ts own) (hM : Met l y ws rm Pc Qc mc ms free) (cw : vx_CSW R s args own index y bytes maxL ret hh ws rm mc ms n) (hp : PreS s H Pc As)
    (hg : g.method = m) (hn : As.length = n) (hsize : g.locals.size = nL) (hstack : g.stack = As.reverse ++ rest) (hW : 2 * g.monitorRoom + (rest.map fun v => v.category).sum ≤ 8) (hdg : decode cc g.pc = .ok (.invokestatic index, 3)) (hf : cells + mc ≤ R.cells ∧ slots + ms ≤ R.slots) :
    va_Run p l e R s m args below meth c H locs cells slots mc ms g rest (Qc As.toArray) (free) := by
  obtain ⟨⟨hrc, hrs, hfr, hlo, hws, hcw⟩, hcode, hini, hy, hlen, hl, hstt⟩ := cw
  have hK : Back l R p e below s args y 3 8 (PreOf R mc ms Pc) (PostOf Qc mc ms free) := va_backW (hh := hh) (bytes := bytes) (maxL := maxL) (ret := ret) hM hp.1 hrc hrs hfr hlo hws hcw (fun a' U hW => word_at hW (Or.inl (by first | rfl | simp [Cond.onTables, Cond.keeps, Cond.steady])) hini)
  obtain ⟨hx, hb, hml, ho, -⟩ := S
  intro T hT X
  obtain ⟨v, vm₁, ⟨U', l2, c2, s2⟩, hW₁, X', ⟨g', mk, t, L, e1, e2, hq, h1, hL, h2, h3⟩, st⟩ := vx_callSW X hx (hh := hh) (bytes := bytes) (maxL := maxL) (ret := ret) ho hl hstt hini hcode hy hK hg (hsize.trans hml.symm) (argsL := As) (rest := rest) (fun sig h => hn.trans (hlen sig h)) hstack hW (by rw [hb]; exact hdg)
    (fun vm₁ hW₁ => ⟨hf.1, hf.2, hp.2 (T.setVm vm₁) hT hW₁⟩)
  dsimp only [Pt.U, Pt.locs, Pt.cells, Pt.slots] at X' e1 e2 h1 h2 h3 st
  subst h1; subst h2; subst h3
  exact ⟨v, (T.setVm vm₁).calling g' mk As.toArray, t, U', L, hT, X', hL, e1, e2, hq, st⟩
/-- not caught here, past rows that name other classes: it goes on to the caller -/
theorem vx_outP {p : Program} {l : Launch} {e : Env} {R : Room} {s : State} {m : MethodId} {args : Array Value} {below : List Frame} {meth : Method} {c : Code} {H : Heap} {locs : List Loc} {cells slots : Nat} {free : Addr → Prop} {ls : Array Slot} {rest : List Value} {Qc : Array Value → State → Outcome → State → Prop} {XC : String → State → State → Prop}
    {pc : Nat} {own E : String} {ce : Cell} {q : Addr} {mc ms : Nat} (hown : s.vm.findClass own = some m.cls) (hlocks : meth.locks = false)
    (hpass : ∀ z ∈ c.exceptionTable.toList, covers z pc = false ∨ (z.catchType ≠ 0 ∧ ∃ nm : String, (Cond.classLink own z.catchType nm).before args s = true ∧ va_Nc E nm s)) (hcell : H[q]? = some ce) (hv : ce.vm = .none) (hcl : s.vm.findClass E = some ce.cls)
    (hx : ∀ t : State, t.heap = H → s.vm.Alike t.vm → XC E s t) (hf : ∀ z ∈ locs, free z.base) (hc : cells ≤ mc) (hs : slots ≤ ms) :
    vx_W p l e R s m args below meth c H locs cells slots (vx_MQ below Qc XC args s mc ms free) (F0 m pc ls rest) q := by
  intro T hT X
  have hpl : e.platform.magicAccessors = ({} : Platform).magicAccessors := by rw [X.admits.platform]
  obtain ⟨vm', hW', X', st⟩ := X.outThrough hlocks q (g := F0 m pc ls rest) rfl rfl rfl (cell := ce) (by rw [hT]; exact hcell) (by rw [hv]; rfl)
    (by obtain ⟨k9, h9, -⟩ := Vm.findClass_spec hcl; exact ⟨k9, h9⟩) (fun z hz => by
      rcases hpass z hz with h | ⟨hz0, nm, hl1, hn1⟩
      · exact Or.inl h
      · obtain ⟨c6, hc6, hcl6⟩ := Cond.classLink_spec hown hl1 e.platform hpl
        obtain ⟨a8, b8, h1, h2, h3⟩ := hn1
        cases Option.some.inj (h1.symm.trans hcl)
        cases Option.some.inj (h2.symm.trans hc6)
        exact Or.inr ⟨hz0, _, hcl6, h3⟩)
  obtain ⟨g₀, hfr⟩ := X'.frames_eq
  have hcell9 : ((T.setVm vm').setFrames (.throwing q :: below)).heap[q]? = some ce := by
    show T.heap[q]? = some ce
    rw [hT]; exact hcell
  have hend : Ended ((T.setVm vm').setFrames (.throwing q :: below)) below (.threw q) := State.frames_setFrames _ (State.cur_lt_of_frames hfr)
  refine ⟨(T.setVm vm').setFrames (.throwing q :: below), ?_, .threw q, X'.here.running, hend, Or.inr ⟨q, rfl, E, ce, locs, hx _ hT (X'.ends _).1.alike, hcell9, hv, hcl, (X'.ends _).1, (X'.ends _).2.mono hc hs, hf⟩⟩
  rw [X.pushThrowing_eq]
  exact st
/-- a thing of a world lies in the heap -/
theorem vx_lt {D : va_G} {cl : List vw_C} {ws : va_W} {H1 : Heap} (h : va_P D cl ws H1) {k : Nat} {q : Nat × va_E} (hk : ws[k]? = some q) : q.1 < H1.size := (h k q hk).lt
end VXS
/-! ===== END ===== -/
/-! ===== BEGIN methods with a table of their own: called by a name, returning or throwing ===== -/
section VXH
/-! vx_backW, vx_callVX, vx_callSX, vx_callVW, vx_runVW, vx_runVX, vx_runSX, vx_ofWH follow the same proofs as their sisters above (Free/Laws.lean, Shelf42/LK1.lean); vx_outP calls Shelf42/NT130.lean (outThrough). -/
section
variable {l : Launch} {R : Room} {p : Program} {e : Env} {below : List Frame} {s : State} {sargs : Array Value} {y : MethodName} {len W9 : Nat}
theorem vx_backW {ws : List Cond} {rm : Room} {Pc : Array Value → State → Prop} {Qc : Array Value → State → Outcome → State → Prop} {XC : String → State → State → Prop} {mc ms : Nat} {free : Addr → Prop} {bytes : ByteArray} {maxL : Nat} {ret : Option FieldType} {hh : List (Nat × Nat × Nat × Nat)}
    (hM : vx_Met l y ws rm Pc Qc XC mc ms free) (hblind : FrameBlind Pc) (hrc : rm.cells = mc) (hrs : rm.slots = ms)
    (hframes : rm.frames + 1 ≤ R.frames) (hlocals : W9 + (maxL + 11) + rm.locals ≤ R.locals)
    (hws : ∀ w ∈ ws, ∀ a' U, s.WarmedH U.vm → w.before a' U = true) (hcode : Cond.codeWith y bytes maxL ret hh ∈ ws) (hinit : ∀ a' U, s.WarmedH U.vm → (Cond.initialized y.cls).before a' U = true) :
    vx_Back l R p e below s sargs y len W9 (PreOf R mc ms Pc) (PostOf Qc mc ms free) (vx_Post XC mc ms free) := by
  intro m meth c A g ig mk a X hg hsize hdg hW hn hp
  have h1 : (headSpec ws rm).pre.before a A.U = true := atoms_intro fun w hw => hws w hw _ _ X.warmed
  have h2 : (Cond.codeWith y bytes maxL ret hh).before a A.U = true := hws _ hcode _ _ X.warmed
  have h3 : (Cond.initialized y.cls).before a A.U = true := hinit _ _ X.warmed
  have h4 : A.cells + (headSpec ws rm).room.cells ≤ R.cells := by rw [show (headSpec ws rm).room.cells = mc from hrc]; exact hp.1
  have h5 : A.slots + (headSpec ws rm).room.slots ≤ R.slots := by rw [show (headSpec ws rm).room.slots = ms from hrs]; exact hp.2.1
  have hPc : Pc a (A.U.calling g mk a) := hblind _ _ _ _ hp.2.2
  obtain ⟨U, Ls, c0, s0⟩ := A
  dsimp only [Pt.U, Pt.locs, Pt.cells, Pt.slots] at h1 h2 h3 h4 h5 X hn hPc ⊢
  obtain ⟨m9, methY, cY, hn9, hmY, hcY, -, hlY, -⟩ := Cond.codeWith_spec h2
  cases Option.some.inj (hn9.symm.trans hn)
  obtain ⟨kY, hkY, -⟩ := className_of_methodNamed hn
  have hinitY : kY.init = .initialized := Cond.initialized_spec (findClass_of_methodNamed hn) hkY h3
  have h : At U g.method c below := by rw [hg]; exact X.here
  have hlocals9 : W9 + (maxL + 11) + (headSpec ws rm).room.locals ≤ R.locals := hlocals
  have happ : (headSpec ws rm).appliesLoose y e.platform (U.calling g mk a) = true :=
    Spec.appliesLoose_calling (g := g) h hdg hn hkY hinitY
      (X.room_calling (g := g) (R' := (headSpec ws rm).room) hsize hmY hcY hframes (by rw [hlY]; omega) h4 h5) h1
  obtain ⟨mid, hmid⟩ := h.above
  have hfr : (U.setTop g).frames = (.java g :: mid) ++ below := by rw [State.frames_setTop' g h.top, hmid]; rfl
  obtain ⟨o, s₂, hsteps, -, hend, hq⟩ := Steps.callFree hM p X.admits X.cas X.clock (acts := []) hfr happ hPc trivial
  have hq' : vx_Q Qc XC mc ms free a (U.calling g mk a) o s₂ := hq
  rw [State.frames_setTop' g h.top] at hend
  obtain ⟨g₀, hg0⟩ := Option.isSome_iff_exists.mp h.top
  obtain ⟨r, hr⟩ := State.topJava?_eq_some.mp hg0
  have hr' : (({ U with heap := s₂.heap, slotsUsed := s₂.slotsUsed } : State).setVm s₂.vm).frames = .java g₀ :: r := hr
  rcases hq' with ⟨hqc, L, hfe, hL⟩ | ⟨q, rfl, E, ce, L, hx, hce, hcv, hcl, hW₂, hsm, hL⟩
  · obtain ⟨⟨v, rfl⟩, hW₂, e2, q2, q3, q4, q5, q6⟩ := id hfe
    have e3 : s₂ = ({ (U.calling g mk a).setFrames s₂.frames with heap := s₂.heap, slotsUsed := s₂.slotsUsed } : State).setVm s₂.vm := by
      have : s₂ = ({ s₂ with vm := (U.calling g mk a).vm } : State).setVm s₂.vm := rfl
      rw [e2] at this
      exact this
    obtain ⟨c₂, i₂, len₂, hc₂, hd₂, hf₂⟩ := hend
    have hW' : U.WarmedH s₂.vm := hW₂
    have hcc : c₂ = c := by
      have h1 : s₂.code? g.method = U.code? g.method := by
        rw [State.code?_eq, State.code?_eq, hW'.alike.method?]
      exact Option.some.inj (hc₂.symm.trans (h1.trans h.code))
    subst hcc
    have hlen : len₂ = len := by rw [hdg] at hd₂; cases hd₂; rfl
    subst hlen
    have hs₂ : s₂ = (({ U with heap := s₂.heap, slotsUsed := s₂.slotsUsed } : State).setVm s₂.vm).setTop { g with pc := g.pc + len₂, stack := v.toList ++ g.stack } := by
      refine e3.trans ?_
      rw [hf₂, State.calling_eq h.top, State.setFrames_setFrames, State.setTop_of_frames _ hr', hr]
      rfl
    have hsame : U.sameButNew ({ U with heap := s₂.heap, slotsUsed := s₂.slotsUsed } : State) L mc ms := by
      refine ⟨?_, q2, q3, q4, q5, q6⟩
      obtain ⟨t, ht, -⟩ := State.frames_cons hr
      show ({ U with heap := s₂.heap, slotsUsed := s₂.slotsUsed } : State) = { U.setFrames U.frames with heap := s₂.heap, slotsUsed := s₂.slotsUsed }
      rw [State.setFrames_self ht]
    subst hg
    refine Or.inl ⟨v, ⟨(({ U with heap := s₂.heap, slotsUsed := s₂.slotsUsed } : State).setVm s₂.vm), Ls ++ L, c0 + mc, s0 + ms⟩,
      ⟨X.admits, X.cas, X.clock, X.frames, X.room, X.hears, X.method, X.code, (X.here.setHeapUsed s₂.heap s₂.slotsUsed).setVm hW'.alike, X.tail, State.WarmedH.trans X.warmed hW', X.limits, X.bytes, X.same.trans (hsame.setVm s.vm)⟩,
      ⟨g, mk, s₂, L, rfl, rfl, hqc, rfl, hL, rfl, rfl⟩, ?_⟩
    show Steps p.tables e below _ ((({ U with heap := s₂.heap, slotsUsed := s₂.slotsUsed } : State).setVm s₂.vm).setTop { g with pc := g.pc + len₂, stack := v.toList ++ g.stack })
    rw [← hs₂]
    exact hsteps
  · obtain ⟨e2, q2, q3, q4, q5, q6⟩ := id hsm
    have e3 : s₂ = ({ (U.calling g mk a).setFrames s₂.frames with heap := s₂.heap, slotsUsed := s₂.slotsUsed } : State).setVm s₂.vm := by
      have : s₂ = ({ s₂ with vm := (U.calling g mk a).vm } : State).setVm s₂.vm := rfl
      rw [e2] at this
      exact this
    have hf₂ : s₂.frames = .throwing q :: .java g :: U.frames.tail := hend
    have hW' : U.WarmedH s₂.vm := hW₂
    have hs₂ : s₂ = ((({ U with heap := s₂.heap, slotsUsed := s₂.slotsUsed } : State).setVm s₂.vm).setTop g).pushFrame (.throwing q) := by
      refine e3.trans ?_
      rw [hf₂, State.calling_eq h.top, State.setFrames_setFrames, State.pushFrame, State.frames_setTop _ hr', State.setTop_of_frames _ hr', State.setFrames_setFrames, hr]
      rfl
    have hsame : U.sameButNew ({ U with heap := s₂.heap, slotsUsed := s₂.slotsUsed } : State) L mc ms := by
      refine ⟨?_, q2, q3, q4, q5, q6⟩
      obtain ⟨t, ht, -⟩ := State.frames_cons hr
      show ({ U with heap := s₂.heap, slotsUsed := s₂.slotsUsed } : State) = { U.setFrames U.frames with heap := s₂.heap, slotsUsed := s₂.slotsUsed }
      rw [State.setFrames_self ht]
    subst hg
    refine Or.inr ⟨q, ⟨(({ U with heap := s₂.heap, slotsUsed := s₂.slotsUsed } : State).setVm s₂.vm), Ls ++ L, c0 + mc, s0 + ms⟩,
      ⟨X.admits, X.cas, X.clock, X.frames, X.room, X.hears, X.method, X.code, (X.here.setHeapUsed s₂.heap s₂.slotsUsed).setVm hW'.alike, X.tail, State.WarmedH.trans X.warmed hW', X.limits, X.bytes, X.same.trans (hsame.setVm s.vm)⟩,
      ⟨g, mk, s₂, L, E, ce, rfl, rfl, hx, hce, hcv, hcl, rfl, hL, rfl, rfl⟩, ?_⟩
    show Steps p.tables e below _ (((({ U with heap := s₂.heap, slotsUsed := s₂.slotsUsed } : State).setVm s₂.vm).setTop g).pushFrame (.throwing q))
    rw [← hs₂]
    exact hsteps
end
variable {p : Program} {l : Launch} {e : Env} {R : Room} {s : State} {m : MethodId} {args : Array Value} {below : List Frame} {meth : Method} {c : Code} {T : State} {H : Heap} {locs : List Loc} {cells slots : Nat}
theorem vx_callVX (X : Stand p l e R s m args below meth c T locs cells slots) (hexec : p.tables.exec = Jvm.exec) {own C : String} {index : Nat} {y : MethodName} {bytes : ByteArray} {maxL : Nat} {ret : Option FieldType} {hh : List (Nat × Nat × Nat × Nat)}
    (hown : s.vm.findClass own = some m.cls) (hlink : (Cond.methodLink own index y).before args s = true) (hinst : (Cond.instanceMethod y).before args s = true) (hsel : (Cond.selects C y y).before args s = true)
    (hcode : (Cond.codeWith y bytes maxL ret hh).before args s = true) (hy : y.cls ≠ "java/lang/invoke/MethodHandle" ∧ y.cls ≠ "java/lang/invoke/VarHandle")
    {W9 : Nat} {Pre : Pt → Array Value → Prop} {Post : Pt → Array Value → Option Value → Pt → Prop} {PostX : Pt → Array Value → Addr → Pt → Prop} (hK : vx_Back l R p e below s args y 3 W9 Pre Post PostX)
    {b : Addr} {cellB : Cell} (hcell : T.heap[b]? = some cellB) (hobj : cellB.vm.isStatics = false) (hcls : s.vm.findClass C = some cellB.cls)
    {g : JFrame} (hg : g.method = m) (hsize : g.locals.size = c.maxLocals) {argsL rest : List Value} (hlen : ∀ sig, parseMethodDescriptor y.desc = some sig → argsL.length = sig.parameters.length)
    (hstack : g.stack = argsL.reverse ++ .ref b :: rest) (hW : 2 * g.monitorRoom + (rest.map fun v => v.category).sum ≤ W9) (hdg : decode c.code g.pc = .ok (.invokevirtual index, 3))
    (hpre : ∀ vm₁, s.WarmedH vm₁ → Pre ⟨T.setVm vm₁, locs, cells, slots⟩ (Value.ref b :: argsL).toArray) :
    (∃ (v : Option Value) (vm₁ : Vm) (B : Pt), s.WarmedH vm₁ ∧ Stand p l e R s m args below meth c B.U B.locs B.cells B.slots ∧ Post ⟨T.setVm vm₁, locs, cells, slots⟩ (Value.ref b :: argsL).toArray v B ∧
      ∀ target, Steps p.tables e below (B.U.setTop { g with pc := g.pc + 3, stack := v.toList ++ rest }) target → Steps p.tables e below (T.setTop g) target) ∨
    (∃ (q : Addr) (vm₁ : Vm) (B : Pt), s.WarmedH vm₁ ∧ Stand p l e R s m args below meth c B.U B.locs B.cells B.slots ∧ PostX ⟨T.setVm vm₁, locs, cells, slots⟩ (Value.ref b :: argsL).toArray q B ∧
      Steps p.tables e below (T.setTop g) ((B.U.setTop { g with stack := rest }).pushFrame (.throwing q))) := by
  obtain ⟨mk, methM, hnamed, hmethM, hstM, habM⟩ := Cond.instanceMethod_spec hinst
  obtain ⟨m8, methM', cM, hn8, hmethM', -, -, -, -, -, -, hsigM⟩ := Cond.codeWith_spec hcode
  cases Option.some.inj (hn8.symm.trans hnamed)
  cases hmethM.symm.trans hmethM'
  obtain ⟨c2, r2, m2, q1, q2, q3, q4, kP, hkP, hkPi⟩ := Cond.selects_spec hsel
  cases hcls.symm.trans q1
  cases (State.methodFound?_of_named hnamed hy).symm.trans q2
  cases hnamed.symm.trans q3
  have hselP : selectMethod e.platform s.vm cellB.cls mk = .method mk := by rw [Launch.admits_selectMethod X.admits]; exact q4
  obtain ⟨vm₁, X₁, hstep₁⟩ := X.invokevirtual hexec hown hlink hnamed hmethM hstM hkP hkPi hy (a := b) (cell := cellB) hcell
    (fun z h => by rw [h] at hobj; cases hobj) hselP hmethM habM hkP hkPi (g := g) hg (argsL := argsL) (rest := rest) (hlen _ hsigM) hstack hdg
  rcases hK m meth c ⟨T.setVm vm₁, locs, cells, slots⟩ { g with stack := rest } (.invokevirtual index) mk (Value.ref b :: argsL).toArray X₁ hg hsize hdg hW (X₁.named hnamed) (hpre vm₁ X₁.warmed) with ⟨v, B, X', hpost, hsteps⟩ | ⟨q, B, X', hpost, hsteps⟩
  · exact Or.inl ⟨v, vm₁, B, X₁.warmed, X', hpost, fun target h => hstep₁ _ fun acts => by rw [doInvoke_state]; exact hsteps.trans h⟩
  · exact Or.inr ⟨q, vm₁, B, X₁.warmed, X', hpost, hstep₁ _ fun acts => by rw [doInvoke_state]; exact hsteps⟩
theorem vx_callSX (X : Stand p l e R s m args below meth c T locs cells slots) (hexec : p.tables.exec = Jvm.exec) {own : String} {index : Nat} {y : MethodName} {bytes : ByteArray} {maxL : Nat} {ret : Option FieldType} {hh : List (Nat × Nat × Nat × Nat)}
    (hown : s.vm.findClass own = some m.cls) (hlink : (Cond.methodLink own index y).before args s = true) (hstat : (Cond.static y).before args s = true) (hinit : (Cond.initialized y.cls).before args s = true)
    (hcode : (Cond.codeWith y bytes maxL ret hh).before args s = true) (hy : y.cls ≠ "java/lang/invoke/MethodHandle" ∧ y.cls ≠ "java/lang/invoke/VarHandle")
    {W9 : Nat} {Pre : Pt → Array Value → Prop} {Post : Pt → Array Value → Option Value → Pt → Prop} {PostX : Pt → Array Value → Addr → Pt → Prop} (hK : vx_Back l R p e below s args y 3 W9 Pre Post PostX)
    {g : JFrame} (hg : g.method = m) (hsize : g.locals.size = c.maxLocals) {argsL rest : List Value} (hlen : ∀ sig, parseMethodDescriptor y.desc = some sig → argsL.length = sig.parameters.length)
    (hstack : g.stack = argsL.reverse ++ rest) (hW : 2 * g.monitorRoom + (rest.map fun v => v.category).sum ≤ W9) (hdg : decode c.code g.pc = .ok (.invokestatic index, 3))
    (hpre : ∀ vm₁, s.WarmedH vm₁ → Pre ⟨T.setVm vm₁, locs, cells, slots⟩ argsL.toArray) :
    (∃ (v : Option Value) (vm₁ : Vm) (B : Pt), s.WarmedH vm₁ ∧ Stand p l e R s m args below meth c B.U B.locs B.cells B.slots ∧ Post ⟨T.setVm vm₁, locs, cells, slots⟩ argsL.toArray v B ∧
      ∀ target, Steps p.tables e below (B.U.setTop { g with pc := g.pc + 3, stack := v.toList ++ rest }) target → Steps p.tables e below (T.setTop g) target) ∨
    (∃ (q : Addr) (vm₁ : Vm) (B : Pt), s.WarmedH vm₁ ∧ Stand p l e R s m args below meth c B.U B.locs B.cells B.slots ∧ PostX ⟨T.setVm vm₁, locs, cells, slots⟩ argsL.toArray q B ∧
      Steps p.tables e below (T.setTop g) ((B.U.setTop { g with stack := rest }).pushFrame (.throwing q))) := by
  obtain ⟨mk, methM, cM, hnamed, hmethM, -, -, -, -, -, -, hsigM⟩ := Cond.codeWith_spec hcode
  have hstatic : methM.isStatic = true := Cond.static_spec hnamed hmethM hstat
  obtain ⟨kP, hkP, -⟩ := className_of_methodNamed hnamed
  have hinitP : kP.init = .initialized := Cond.initialized_spec (findClass_of_methodNamed hnamed) hkP hinit
  obtain ⟨vm₁, X₁, hstep₁⟩ := X.invokestatic hexec hown hlink hnamed hmethM hstatic hkP hinitP hy (g := g) hg (argsL := argsL) (rest := rest) (hlen _ hsigM) hstack hdg
  rcases hK m meth c ⟨T.setVm vm₁, locs, cells, slots⟩ { g with stack := rest } (.invokestatic index) mk argsL.toArray X₁ hg hsize hdg hW (X₁.named hnamed) (hpre vm₁ X₁.warmed) with ⟨v, B, X', hpost, hsteps⟩ | ⟨q, B, X', hpost, hsteps⟩
  · exact Or.inl ⟨v, vm₁, B, X₁.warmed, X', hpost, fun target h => hstep₁ _ fun acts => by rw [doInvoke_state]; exact hsteps.trans h⟩
  · exact Or.inr ⟨q, vm₁, B, X₁.warmed, X', hpost, hstep₁ _ fun acts => by rw [doInvoke_state]; exact hsteps⟩
theorem vx_callVW (X : Stand p l e R s m args below meth c T locs cells slots) (hexec : p.tables.exec = Jvm.exec) {own C : String} {index : Nat} {y : MethodName} {bytes : ByteArray} {maxL : Nat} {ret : Option FieldType} {hh : List (Nat × Nat × Nat × Nat)}
    (hown : s.vm.findClass own = some m.cls) (hlink : (Cond.methodLink own index y).before args s = true) (hinst : (Cond.instanceMethod y).before args s = true) (hsel : (Cond.selects C y y).before args s = true)
    (hcode : (Cond.codeWith y bytes maxL ret hh).before args s = true) (hy : y.cls ≠ "java/lang/invoke/MethodHandle" ∧ y.cls ≠ "java/lang/invoke/VarHandle")
    {W9 : Nat} {Pre : Pt → Array Value → Prop} {Post : Pt → Array Value → Option Value → Pt → Prop} (hK : Back l R p e below s args y 3 W9 Pre Post)
    {b : Addr} {cellB : Cell} (hcell : T.heap[b]? = some cellB) (hobj : cellB.vm.isStatics = false) (hcls : s.vm.findClass C = some cellB.cls)
    {g : JFrame} (hg : g.method = m) (hsize : g.locals.size = c.maxLocals) {argsL rest : List Value} (hlen : ∀ sig, parseMethodDescriptor y.desc = some sig → argsL.length = sig.parameters.length)
    (hstack : g.stack = argsL.reverse ++ .ref b :: rest) (hW : 2 * g.monitorRoom + (rest.map fun v => v.category).sum ≤ W9) (hdg : decode c.code g.pc = .ok (.invokevirtual index, 3))
    (hpre : ∀ vm₁, s.WarmedH vm₁ → Pre ⟨T.setVm vm₁, locs, cells, slots⟩ (Value.ref b :: argsL).toArray) :
    ∃ (v : Option Value) (vm₁ : Vm) (B : Pt), s.WarmedH vm₁ ∧ Stand p l e R s m args below meth c B.U B.locs B.cells B.slots ∧ Post ⟨T.setVm vm₁, locs, cells, slots⟩ (Value.ref b :: argsL).toArray v B ∧
      ∀ target, Steps p.tables e below (B.U.setTop { g with pc := g.pc + 3, stack := v.toList ++ rest }) target → Steps p.tables e below (T.setTop g) target := by
  obtain ⟨mk, methM, hnamed, hmethM, hstM, habM⟩ := Cond.instanceMethod_spec hinst
  obtain ⟨m8, methM', cM, hn8, hmethM', -, -, -, -, -, -, hsigM⟩ := Cond.codeWith_spec hcode
  cases Option.some.inj (hn8.symm.trans hnamed)
  cases hmethM.symm.trans hmethM'
  obtain ⟨c2, r2, m2, q1, q2, q3, q4, kP, hkP, hkPi⟩ := Cond.selects_spec hsel
  cases hcls.symm.trans q1
  cases (State.methodFound?_of_named hnamed hy).symm.trans q2
  cases hnamed.symm.trans q3
  have hselP : selectMethod e.platform s.vm cellB.cls mk = .method mk := by rw [Launch.admits_selectMethod X.admits]; exact q4
  obtain ⟨vm₁, X₁, hstep₁⟩ := X.invokevirtual hexec hown hlink hnamed hmethM hstM hkP hkPi hy (a := b) (cell := cellB) hcell
    (fun z h => by rw [h] at hobj; cases hobj) hselP hmethM habM hkP hkPi (g := g) hg (argsL := argsL) (rest := rest) (hlen _ hsigM) hstack hdg
  obtain ⟨v, B, X', hpost, hsteps⟩ := hK m meth c ⟨T.setVm vm₁, locs, cells, slots⟩ { g with stack := rest } (.invokevirtual index) mk (Value.ref b :: argsL).toArray X₁ hg hsize hdg hW (X₁.named hnamed) (hpre vm₁ X₁.warmed)
  exact ⟨v, vm₁, B, X₁.warmed, X', hpost, fun target h => hstep₁ _ fun acts => by rw [doInvoke_state]; exact hsteps.trans h⟩
abbrev vx_CVW (R : Room) (s : State) (args : Array Value) (own C : String) (index : Nat) (y : MethodName) (bytes : ByteArray) (maxL : Nat) (ret : Option FieldType) (hh : List (Nat × Nat × Nat × Nat)) (ws : List Cond) (rm : Room) (mc ms n : Nat) : Prop :=
  (rm.cells = mc ∧ rm.slots = ms ∧ rm.frames + 1 ≤ R.frames ∧ 8 + (maxL + 11) + rm.locals ≤ R.locals ∧ (∀ w ∈ ws, ∀ (a' : Array Value) (U : State), s.WarmedH U.vm → w.before a' U = true) ∧ Cond.codeWith y bytes maxL ret hh ∈ ws) ∧
  (Cond.codeWith y bytes maxL ret hh).before args s = true ∧ (Cond.initialized y.cls).before args s = true ∧ (y.cls ≠ "java/lang/invoke/MethodHandle" ∧ y.cls ≠ "java/lang/invoke/VarHandle") ∧
  (∀ sig, parseMethodDescriptor y.desc = some sig → n = sig.parameters.length) ∧ (Cond.methodLink own index y).before args s = true ∧ (Cond.instanceMethod y).before args s = true ∧ (Cond.selects C y y).before args s = true
theorem vx_cwVW {own C : String} {index maxL mc ms : Nat} {y : MethodName} {bytes : ByteArray} {ret : Option FieldType} {hh : List (Nat × Nat × Nat × Nat)} {Ts ws ws' : List Cond} {rm : Room} (n : Nat) (ht : ∀ w ∈ Ts, w.before args s = true) (hT : GoodIn Ts (wsV own index C y ws)) (hw : ws = Cond.codeWith y bytes maxL ret hh :: ws') (hrc : rm.cells = mc) (hrs : rm.slots = ms)
    (hd : y.cls = C ∧ y.cls ≠ "java/lang/invoke/MethodHandle" ∧ y.cls ≠ "java/lang/invoke/VarHandle" ∧ (parseMethodDescriptor y.desc).map (fun d => d.parameters.length) = some n) (hR : rm.frames + 1 ≤ R.frames ∧ 8 + (maxL + 11) + rm.locals ≤ R.locals) :
    vx_CVW R s args own C index y bytes maxL ret hh ws rm mc ms n := by
  obtain ⟨hC, hd⟩ := hd
  subst hC
  have ok : ∀ w ∈ wsV own index y.cls y ws, w.before args s = true := fun w h => ht w (hT w h).1
  have hG : GoodIn Ts ws := fun w h => hT w (by unfold wsV; exact List.mem_append_right _ h)
  have hc : Cond.codeWith y bytes maxL ret hh ∈ ws := by rw [hw]; exact List.mem_cons_self
  refine ⟨⟨hrc, hrs, hR.1, hR.2, pay_in ht hG, hc⟩, ht _ (hG _ hc).1, ok _ (by simp [wsV]), ⟨hd.1, hd.2.1⟩, fun sig h => ?_, ok _ (by simp [wsV]), ok _ (by simp [wsV]), ok _ (by simp [wsV])⟩
  have h2 := hd.2.2
  rw [h] at h2
  exact (Option.some.inj h2).symm
theorem vx_runVW {y : MethodName} {bytes cc : ByteArray} {maxL nL mc ms n index : Nat} {ret : Option FieldType} {hh : List (Nat × Nat × Nat × Nat)} {ws : List Cond} {rm : Room} {Pc : Array Value → State → Prop} {Qc : Array Value → State → Outcome → State → Prop} {free : Addr → Prop} {Ts : List Cond} {own C : String} {b : Addr} {As rest : List Value} {g : JFrame}
    (S : CallFix p m c cc nL s args Ts own) (hM : Met l y ws rm Pc Qc mc ms free) (cw : vx_CVW R s args own C index y bytes maxL ret hh ws rm mc ms n) (hp : PreV s H C b Pc As)
    (hg : g.method = m) (hn : As.length = n) (hsize : g.locals.size = nL) (hstack : g.stack = As.reverse ++ .ref b :: rest) (hW : 2 * g.monitorRoom + (rest.map fun v => v.category).sum ≤ 8) (hdg : decode cc g.pc = .ok (.invokevirtual index, 3)) (hf : cells + mc ≤ R.cells ∧ slots + ms ≤ R.slots) :
    va_Run p l e R s m args below meth c H locs cells slots mc ms g rest (Qc (Value.ref b :: As).toArray) free := by
  obtain ⟨⟨hrc, hrs, hfr, hlo, hws, hcw⟩, hcode, hini, hy, hlen, hl, hin, hse⟩ := cw
  have hK : Back l R p e below s args y 3 8 (PreOf R mc ms Pc) (PostOf Qc mc ms free) := va_backW (hh := hh) (bytes := bytes) (maxL := maxL) (ret := ret) hM hp.1 hrc hrs hfr hlo hws hcw (fun a' U hW => word_at hW (Or.inl (by first | rfl | simp [Cond.onTables, Cond.keeps, Cond.steady])) hini)
  obtain ⟨hx, hb, hml, ho, -⟩ := S
  obtain ⟨-, ⟨cellB, hcB, hoB, hclB⟩, hPc⟩ := hp
  intro T hT X
  obtain ⟨v, vm₁, ⟨U', l2, c2, s2⟩, hW₁, X', ⟨g', mk, t, L, e1, e2, hq, h1, hL, h2, h3⟩, st⟩ := vx_callVW X hx (C := C) (hh := hh) (bytes := bytes) (maxL := maxL) (ret := ret) ho hl hin hse hcode hy hK (by rw [hT]; exact hcB) hoB hclB hg (hsize.trans hml.symm) (argsL := As) (rest := rest) (fun sig h => hn.trans (hlen sig h)) hstack hW (by rw [hb]; exact hdg)
    (fun vm₁ hW₁ => ⟨hf.1, hf.2, hPc (T.setVm vm₁) hT hW₁⟩)
  dsimp only [Pt.U, Pt.locs, Pt.cells, Pt.slots] at X' e1 e2 h1 h2 h3 st
  subst h1; subst h2; subst h3
  exact ⟨v, (T.setVm vm₁).calling g' mk (Value.ref b :: As).toArray, t, U', L, hT, X', hL, e1, e2, hq, st⟩
section
variable {y : MethodName} {bytes cc : ByteArray} {maxL nL mc ms n index : Nat} {ret : Option FieldType} {ws : List Cond} {rm : Room} {Pc : Array Value → State → Prop} {Qc : Array Value → State → Outcome → State → Prop} {XC : String → State → State → Prop} {free : Addr → Prop} {Ts : List Cond} {own C : String} {b : Addr} {As rest : List Value} {g : JFrame}
theorem vx_runVX {hh : List (Nat × Nat × Nat × Nat)} (S : CallFix p m c cc nL s args Ts own) (hM : vx_Met l y ws rm Pc Qc XC mc ms free) (cw : vx_CVW R s args own C index y bytes maxL ret hh ws rm mc ms n) (hp : PreV s H C b Pc As)
    (hg : g.method = m) (hn : As.length = n) (hsize : g.locals.size = nL) (hstack : g.stack = As.reverse ++ .ref b :: rest) (hW : 2 * g.monitorRoom + (rest.map fun v => v.category).sum ≤ 8) (hdg : decode cc g.pc = .ok (.invokevirtual index, 3)) (hf : cells + mc ≤ R.cells ∧ slots + ms ≤ R.slots) :
    vx_Run p l e R s m args below meth c H locs cells slots mc ms g rest (Qc (Value.ref b :: As).toArray) XC free := by
  obtain ⟨⟨hrc, hrs, hfr, hlo, hws, hcw⟩, hcode, hini, hy, hlen, hl, hin, hse⟩ := cw
  have hK : vx_Back l R p e below s args y 3 8 (PreOf R mc ms Pc) (PostOf Qc mc ms free) (vx_Post XC mc ms free) := vx_backW (hh := hh) (bytes := bytes) (maxL := maxL) (ret := ret) hM hp.1 hrc hrs hfr hlo hws hcw (fun a' U hW => word_at hW (Or.inl (by first | rfl | simp [Cond.onTables, Cond.keeps, Cond.steady])) hini)
  obtain ⟨hx, hb, hml, ho, -⟩ := S
  obtain ⟨-, ⟨cellB, hcB, hoB, hclB⟩, hPc⟩ := hp
  intro T hT X
  rcases vx_callVX X hx (C := C) (hh := hh) (bytes := bytes) (maxL := maxL) (ret := ret) ho hl hin hse hcode hy hK (by rw [hT]; exact hcB) hoB hclB hg (hsize.trans hml.symm) (argsL := As) (rest := rest) (fun sig h => hn.trans (hlen sig h)) hstack hW (by rw [hb]; exact hdg)
    (fun vm₁ hW₁ => ⟨hf.1, hf.2, hPc (T.setVm vm₁) hT hW₁⟩) with ⟨v, vm₁, ⟨U', l2, c2, s2⟩, hW₁, X', ⟨g', mk, t, L, e1, e2, hq, h1, hL, h2, h3⟩, st⟩ | ⟨q, vm₁, ⟨U', l2, c2, s2⟩, hW₁, X', ⟨g', mk, t, L, E, ce, e1, e2, hq, hce, hcv, hcl, h1, hL, h2, h3⟩, st⟩
  · dsimp only [Pt.U, Pt.locs, Pt.cells, Pt.slots] at X' e1 e2 h1 h2 h3 st
    subst h1; subst h2; subst h3
    exact Or.inl ⟨v, (T.setVm vm₁).calling g' mk (Value.ref b :: As).toArray, t, U', L, hT, X', hL, e1, e2, hq, st⟩
  · dsimp only [Pt.U, Pt.locs, Pt.cells, Pt.slots] at X' e1 e2 h1 h2 h3 st hcl
    subst h1; subst h2; subst h3
    exact Or.inr ⟨q, (T.setVm vm₁).calling g' mk (Value.ref b :: As).toArray, t, U', L, E, ce, hT, X', hL, e1, e2, hq, hce, hcv, vx_cls hW₁ hcl, st⟩
theorem vx_runSX {hh : List (Nat × Nat × Nat × Nat)} (S : CallFix p m c cc nL s args Ts own) (hM : vx_Met l y ws rm Pc Qc XC mc ms free) (cw : vx_CSW R s args own index y bytes maxL ret hh ws rm mc ms n) (hp : PreS s H Pc As)
    (hg : g.method = m) (hn : As.length = n) (hsize : g.locals.size = nL) (hstack : g.stack = As.reverse ++ rest) (hW : 2 * g.monitorRoom + (rest.map fun v => v.category).sum ≤ 8) (hdg : decode cc g.pc = .ok (.invokestatic index, 3)) (hf : cells + mc ≤ R.cells ∧ slots + ms ≤ R.slots) :
    vx_Run p l e R s m args below meth c H locs cells slots mc ms g rest (Qc As.toArray) XC free := by
  obtain ⟨⟨hrc, hrs, hfr, hlo, hws, hcw⟩, hcode, hini, hy, hlen, hl, hstt⟩ := cw
  have hK : vx_Back l R p e below s args y 3 8 (PreOf R mc ms Pc) (PostOf Qc mc ms free) (vx_Post XC mc ms free) := vx_backW (hh := hh) (bytes := bytes) (maxL := maxL) (ret := ret) hM hp.1 hrc hrs hfr hlo hws hcw (fun a' U hW => word_at hW (Or.inl (by first | rfl | simp [Cond.onTables, Cond.keeps, Cond.steady])) hini)
  obtain ⟨hx, hb, hml, ho, -⟩ := S
  intro T hT X
  rcases vx_callSX X hx (hh := hh) (bytes := bytes) (maxL := maxL) (ret := ret) ho hl hstt hini hcode hy hK hg (hsize.trans hml.symm) (argsL := As) (rest := rest) (fun sig h => hn.trans (hlen sig h)) hstack hW (by rw [hb]; exact hdg)
    (fun vm₁ hW₁ => ⟨hf.1, hf.2, hp.2 (T.setVm vm₁) hT hW₁⟩) with ⟨v, vm₁, ⟨U', l2, c2, s2⟩, hW₁, X', ⟨g', mk, t, L, e1, e2, hq, h1, hL, h2, h3⟩, st⟩ | ⟨q, vm₁, ⟨U', l2, c2, s2⟩, hW₁, X', ⟨g', mk, t, L, E, ce, e1, e2, hq, hce, hcv, hcl, h1, hL, h2, h3⟩, st⟩
  · dsimp only [Pt.U, Pt.locs, Pt.cells, Pt.slots] at X' e1 e2 h1 h2 h3 st
    subst h1; subst h2; subst h3
    exact Or.inl ⟨v, (T.setVm vm₁).calling g' mk As.toArray, t, U', L, hT, X', hL, e1, e2, hq, st⟩
  · dsimp only [Pt.U, Pt.locs, Pt.cells, Pt.slots] at X' e1 e2 h1 h2 h3 st hcl
    subst h1; subst h2; subst h3
    exact Or.inr ⟨q, (T.setVm vm₁).calling g' mk As.toArray, t, U', L, E, ce, hT, X', hL, e1, e2, hq, hce, hcv, vx_cls hW₁ hcl, st⟩
end
end VXH
theorem vx_ofWH {l : Launch} {y : MethodName} {ws ws' : List Cond} {rm : Room} {Pc : Array Value → State → Prop} {Qc : Array Value → State → Outcome → State → Prop} {XC : String → State → State → Prop} {mc ms : Nat} {free : Addr → Prop} {cc : ByteArray} {maxL : Nat} {ret : Option FieldType} {hh : List (Nat × Nat × Nat × Nat)}
    (hy : plainName y.cls = true) (hw : ws = Cond.codeWith y cc maxL ret hh :: ws')
    (body : ∀ p e s m args below meth c s₁, BodyLoose p l y (headSpec ws rm) cc maxL ret e s m args below meth c s₁ → c.maxLocals = maxL → Pc args s →
      W p l e (headSpec ws rm).room s m args below meth c s.heap [] 0 0 (vx_MQ below Qc XC args s mc ms free) (entryFrame m args maxL)) : vx_Met l y ws rm Pc Qc XC mc ms free := by
  refine MetFree.of_bodyS (code := cc) (maxLocals := maxL) (ret := ret) hy ?_ ?_
  · intro args s m h hn
    obtain ⟨m9, meth, c, hn9, h1, h2, h3, h4, -, h5, h6, -⟩ := Cond.codeWith_spec (atoms_spec (ws := ws) h _ (by rw [hw]; exact List.mem_cons_self))
    cases hn.symm.trans hn9
    exact ⟨meth, c, h1, h2, h3, h4, h5, h6⟩
  · intro p e s m args below meth c s₁ B hml hP _
    have hh0 : s₁.heap = s.heap := by rw [B.state]; rfl
    obtain ⟨t, a1, o, b1, b2, b3⟩ := body p e s m args below meth c s₁ B hml hP s₁ hh0 (Stand.of_body B)
    exact ⟨t, o, a1, b1, b2, b3⟩
/-! ===== END ===== -/
end
section
/-! ===== BEGIN printed: names, fields, word lists, decode rows ===== -/
def RX0 : String := "LogSpooler$Forwarder"
def TX0 : u_T := fun k => match k with
  | 0 => ("LogSpooler$Forwarder", "row", "[I", true)
  | 1 => ("LogSpooler$Forwarder", "end", "I", false)
  | 2 => ("LogSpooler$Forwarder", "firstQueued", "I", false)
  | 3 => ("LogSpooler$Forwarder", "acknowledgedOnes", "I", false)
  | 4 => ("LogSpooler$Forwarder", "lostOnes", "I", false)
  | _ => ("LogSpooler$Forwarder", "isConnected", "Z", false)
def tyX0 : Nat → FieldType := fun k => match k with
  | 0 => .array .int
  | 1 => .int
  | 2 => .int
  | 3 => .int
  | 4 => .int
  | _ => .boolean
abbrev wsX00 : List Cond := u_ws RX0 TX0 6
theorem nmX0 : ∀ a, a < 6 → ∀ b, b < 6 → a ≠ b → (TX0 a).2.1 ≠ (TX0 b).2.1 := by decide +kernel
theorem tyX0_ok : ∀ k, k < 6 → parseFieldDescriptor (TX0 k).2.2.1 = some (tyX0 k) := by decide +kernel
abbrev cX0_init : ByteArray := prog_2_method_1_code
def yX0_init : MethodName := ⟨RX0, "<init>", "()V"⟩
abbrev cX0_waiting : ByteArray := prog_2_method_2_code
def yX0_waiting : MethodName := ⟨RX0, "waiting", "()I"⟩
abbrev cX0_flying : ByteArray := prog_2_method_3_code
def yX0_flying : MethodName := ⟨RX0, "flying", "()I"⟩
abbrev cX0_take : ByteArray := prog_2_method_4_code
def yX0_take : MethodName := ⟨RX0, "take", "(I)V"⟩
abbrev cX0_canSend : ByteArray := prog_2_method_5_code
def yX0_canSend : MethodName := ⟨RX0, "canSend", "()Z"⟩
abbrev cX0_sendFirst : ByteArray := prog_2_method_6_code
def yX0_sendFirst : MethodName := ⟨RX0, "sendFirst", "()I"⟩
abbrev cX0_acknowledgeFirst : ByteArray := prog_2_method_7_code
def yX0_acknowledgeFirst : MethodName := ⟨RX0, "acknowledgeFirst", "()I"⟩
abbrev cX0_loseConnection : ByteArray := prog_2_method_8_code
def yX0_loseConnection : MethodName := ⟨RX0, "loseConnection", "()V"⟩
abbrev cX0_lineAt : ByteArray := prog_2_method_9_code
def yX0_lineAt : MethodName := ⟨RX0, "lineAt", "(I)I"⟩
def RX1 : String := "LogSpooler$Ledger"
def TX1 : u_T := fun k => match k with
  | 0 => ("LogSpooler$Ledger", "fates", "[I", true)
  | 1 => ("LogSpooler$Ledger", "targetSets", "[I", true)
  | _ => ("LogSpooler$Ledger", "entries", "I", false)
def tyX1 : Nat → FieldType := fun k => match k with
  | 0 => .array .int
  | 1 => .array .int
  | _ => .int
abbrev wsX10 : List Cond := u_ws RX1 TX1 3
theorem nmX1 : ∀ a, a < 3 → ∀ b, b < 3 → a ≠ b → (TX1 a).2.1 ≠ (TX1 b).2.1 := by decide +kernel
theorem tyX1_ok : ∀ k, k < 3 → parseFieldDescriptor (TX1 k).2.2.1 = some (tyX1 k) := by decide +kernel
abbrev cX1_init : ByteArray := prog_3_method_1_code
def yX1_init : MethodName := ⟨RX1, "<init>", "()V"⟩
abbrev cX1_isFull : ByteArray := prog_3_method_2_code
def yX1_isFull : MethodName := ⟨RX1, "isFull", "()Z"⟩
abbrev cX1_has : ByteArray := prog_3_method_3_code
def yX1_has : MethodName := ⟨RX1, "has", "(I)Z"⟩
abbrev cX1_enter : ByteArray := prog_3_method_4_code
def yX1_enter : MethodName := ⟨RX1, "enter", "(II)I"⟩
abbrev cX1_fateAt : ByteArray := prog_3_method_5_code
def yX1_fateAt : MethodName := ⟨RX1, "fateAt", "(I)I"⟩
abbrev cX1_targetsAt : ByteArray := prog_3_method_6_code
def yX1_targetsAt : MethodName := ⟨RX1, "targetsAt", "(I)I"⟩
abbrev cX1_entriesWith : ByteArray := prog_3_method_7_code
def yX1_entriesWith : MethodName := ⟨RX1, "entriesWith", "(I)I"⟩
def RX2 : String := "LogSpooler$LogFile"
def TX2 : u_T := fun k => match k with
  | 0 => ("LogSpooler$LogFile", "row", "[I", true)
  | 1 => ("LogSpooler$LogFile", "starts", "[I", true)
  | 2 => ("LogSpooler$LogFile", "end", "I", false)
  | 3 => ("LogSpooler$LogFile", "greatestSize", "I", false)
  | 4 => ("LogSpooler$LogFile", "age", "I", false)
  | 5 => ("LogSpooler$LogFile", "kept", "I", false)
  | 6 => ("LogSpooler$LogFile", "firstCame", "I", false)
  | 7 => ("LogSpooler$LogFile", "sumOfLengths", "I", false)
  | 8 => ("LogSpooler$LogFile", "olderOnes", "I", false)
  | _ => ("LogSpooler$LogFile", "rotations", "I", false)
def tyX2 : Nat → FieldType := fun k => match k with
  | 0 => .array .int
  | 1 => .array .int
  | 2 => .int
  | 3 => .int
  | 4 => .int
  | 5 => .int
  | 6 => .int
  | 7 => .int
  | 8 => .int
  | _ => .int
abbrev wsX20 : List Cond := u_ws RX2 TX2 10
theorem nmX2 : ∀ a, a < 10 → ∀ b, b < 10 → a ≠ b → (TX2 a).2.1 ≠ (TX2 b).2.1 := by decide +kernel
theorem tyX2_ok : ∀ k, k < 10 → parseFieldDescriptor (TX2 k).2.2.1 = some (tyX2 k) := by decide +kernel
abbrev cX2_init : ByteArray := prog_4_method_1_code
def yX2_init : MethodName := ⟨RX2, "<init>", "()V"⟩
abbrev cX2_limit : ByteArray := prog_4_method_2_code
def yX2_limit : MethodName := ⟨RX2, "limit", "(III)V"⟩
abbrev cX2_isEmpty : ByteArray := prog_4_method_3_code
def yX2_isEmpty : MethodName := ⟨RX2, "isEmpty", "()Z"⟩
abbrev cX2_isAged : ByteArray := prog_4_method_4_code
def yX2_isAged : MethodName := ⟨RX2, "isAged", "(I)Z"⟩
abbrev cX2_add : ByteArray := prog_4_method_5_code
def yX2_add : MethodName := ⟨RX2, "add", "(III)V"⟩
abbrev cX2_turnOver : ByteArray := prog_4_method_6_code
def yX2_turnOver : MethodName := ⟨RX2, "turnOver", "()V"⟩
abbrev cX2_has : ByteArray := prog_4_method_7_code
def yX2_has : MethodName := ⟨RX2, "has", "(I)Z"⟩
abbrev cX2_linesOf : ByteArray := prog_4_method_8_code
def yX2_linesOf : MethodName := ⟨RX2, "linesOf", "(I)I"⟩
abbrev cX2_lineAt : ByteArray := prog_4_method_9_code
def yX2_lineAt : MethodName := ⟨RX2, "lineAt", "(II)I"⟩
abbrev cX2_startOf : ByteArray := prog_4_method_10_code
def yX2_startOf : MethodName := ⟨RX2, "startOf", "(I)I"⟩
def RX3 : String := "LogSpooler$Rule"
def TX3 : u_T := fun k => match k with
  | 0 => ("LogSpooler$Rule", "isSet", "Z", false)
  | 1 => ("LogSpooler$Rule", "facilities", "I", false)
  | 2 => ("LogSpooler$Rule", "severity", "I", false)
  | 3 => ("LogSpooler$Rule", "sender", "I", false)
  | _ => ("LogSpooler$Rule", "target", "I", false)
def tyX3 : Nat → FieldType := fun k => match k with
  | 0 => .boolean
  | 1 => .int
  | 2 => .int
  | 3 => .int
  | _ => .int
abbrev wsX30 : List Cond := u_ws RX3 TX3 5
theorem nmX3 : ∀ a, a < 5 → ∀ b, b < 5 → a ≠ b → (TX3 a).2.1 ≠ (TX3 b).2.1 := by decide +kernel
theorem tyX3_ok : ∀ k, k < 5 → parseFieldDescriptor (TX3 k).2.2.1 = some (tyX3 k) := by decide +kernel
abbrev cX3_init : ByteArray := prog_5_method_1_code
def yX3_init : MethodName := ⟨RX3, "<init>", "()V"⟩
abbrev cX3_put : ByteArray := prog_5_method_2_code
def yX3_put : MethodName := ⟨RX3, "put", "(IIII)V"⟩
abbrev cX3_fits : ByteArray := prog_5_method_3_code
def yX3_fits : MethodName := ⟨RX3, "fits", "(III)Z"⟩
def RX4 : String := "LogSpooler$Sender"
def TX4 : u_T := fun k => match k with
  | 0 => ("LogSpooler$Sender", "number", "I", true)
  | 1 => ("LogSpooler$Sender", "tokensLeft", "I", false)
  | 2 => ("LogSpooler$Sender", "untoldRepeats", "I", false)
  | 3 => ("LogSpooler$Sender", "firstRepeat", "I", false)
  | 4 => ("LogSpooler$Sender", "untoldDrops", "I", false)
  | 5 => ("LogSpooler$Sender", "lastFacility", "I", false)
  | 6 => ("LogSpooler$Sender", "lastSeverity", "I", false)
  | 7 => ("LogSpooler$Sender", "lastText", "I", false)
  | _ => ("LogSpooler$Sender", "lastLength", "I", false)
def tyX4 : Nat → FieldType := fun k => match k with
  | 0 => .int
  | 1 => .int
  | 2 => .int
  | 3 => .int
  | 4 => .int
  | 5 => .int
  | 6 => .int
  | 7 => .int
  | _ => .int
abbrev wsX40 : List Cond := u_ws RX4 TX4 9
theorem nmX4 : ∀ a, a < 9 → ∀ b, b < 9 → a ≠ b → (TX4 a).2.1 ≠ (TX4 b).2.1 := by decide +kernel
theorem tyX4_ok : ∀ k, k < 9 → parseFieldDescriptor (TX4 k).2.2.1 = some (tyX4 k) := by decide +kernel
abbrev cX4_init : ByteArray := prog_6_method_1_code
def yX4_init : MethodName := ⟨RX4, "<init>", "(II)V"⟩
abbrev cX4_capTokens : ByteArray := prog_6_method_2_code
def yX4_capTokens : MethodName := ⟨RX4, "capTokens", "(I)V"⟩
abbrev cX4_gainToken : ByteArray := prog_6_method_3_code
def yX4_gainToken : MethodName := ⟨RX4, "gainToken", "(I)V"⟩
abbrev cX4_lastIs : ByteArray := prog_6_method_4_code
def yX4_lastIs : MethodName := ⟨RX4, "lastIs", "(IIII)Z"⟩
abbrev cX4_setLast : ByteArray := prog_6_method_5_code
def yX4_setLast : MethodName := ⟨RX4, "setLast", "(IIII)V"⟩
abbrev cX4_countRepeat : ByteArray := prog_6_method_6_code
def yX4_countRepeat : MethodName := ⟨RX4, "countRepeat", "(I)V"⟩
def RX5 : String := "LogSpooler"
def TX5 : u_T := fun k => match k with
  | 0 => ("LogSpooler", "senders", "[LLogSpooler$Sender;", true)
  | 1 => ("LogSpooler", "rules", "[LLogSpooler$Rule;", true)
  | 2 => ("LogSpooler", "files", "[LLogSpooler$LogFile;", true)
  | 3 => ("LogSpooler", "forwarder", "LLogSpooler$Forwarder;", true)
  | 4 => ("LogSpooler", "ledger", "LLogSpooler$Ledger;", true)
  | 5 => ("LogSpooler", "now", "I", false)
  | 6 => ("LogSpooler", "burst", "I", false)
  | 7 => ("LogSpooler", "tokenTime", "I", false)
  | _ => ("LogSpooler", "foldTime", "I", false)
def tyX5 : Nat → FieldType := fun k => match k with
  | 0 => .array (.object "LogSpooler$Sender")
  | 1 => .array (.object "LogSpooler$Rule")
  | 2 => .array (.object "LogSpooler$LogFile")
  | 3 => .object "LogSpooler$Forwarder"
  | 4 => .object "LogSpooler$Ledger"
  | 5 => .int
  | 6 => .int
  | 7 => .int
  | _ => .int
abbrev wsX50 : List Cond := u_ws RX5 TX5 9
theorem nmX5 : ∀ a, a < 9 → ∀ b, b < 9 → a ≠ b → (TX5 a).2.1 ≠ (TX5 b).2.1 := by decide +kernel
theorem tyX5_ok : ∀ k, k < 9 → parseFieldDescriptor (TX5 k).2.2.1 = some (tyX5 k) := by decide +kernel
abbrev cX5_init : ByteArray := prog_1_method_1_code
def yX5_init : MethodName := ⟨RX5, "<init>", "()V"⟩
abbrev cX5_setRate : ByteArray := prog_1_method_2_code
def yX5_setRate : MethodName := ⟨RX5, "setRate", "(II)I"⟩
abbrev cX5_setFold : ByteArray := prog_1_method_3_code
def yX5_setFold : MethodName := ⟨RX5, "setFold", "(I)I"⟩
abbrev cX5_setRule : ByteArray := prog_1_method_4_code
def yX5_setRule : MethodName := ⟨RX5, "setRule", "(IIIII)I"⟩
abbrev cX5_setFile : ByteArray := prog_1_method_6_code
def yX5_setFile : MethodName := ⟨RX5, "setFile", "(IIII)I"⟩
abbrev cX5_message : ByteArray := prog_1_method_7_code
def yX5_message : MethodName := ⟨RX5, "message", "(IIIII)I"⟩
abbrev cX5_pass : ByteArray := prog_1_method_8_code
def yX5_pass : MethodName := ⟨RX5, "pass", "(I)I"⟩
abbrev cX5_rotate : ByteArray := prog_1_method_9_code
def yX5_rotate : MethodName := ⟨RX5, "rotate", "(I)I"⟩
abbrev cX5_connect : ByteArray := prog_1_method_10_code
def yX5_connect : MethodName := ⟨RX5, "connect", "()I"⟩
abbrev cX5_disconnect : ByteArray := prog_1_method_11_code
def yX5_disconnect : MethodName := ⟨RX5, "disconnect", "()I"⟩
abbrev cX5_send : ByteArray := prog_1_method_12_code
def yX5_send : MethodName := ⟨RX5, "send", "()I"⟩
abbrev cX5_acknowledge : ByteArray := prog_1_method_13_code
def yX5_acknowledge : MethodName := ⟨RX5, "acknowledge", "()I"⟩
abbrev cX5_time : ByteArray := prog_1_method_14_code
def yX5_time : MethodName := ⟨RX5, "time", "()I"⟩
abbrev cX5_tokens : ByteArray := prog_1_method_15_code
def yX5_tokens : MethodName := ⟨RX5, "tokens", "(I)I"⟩
abbrev cX5_repeats : ByteArray := prog_1_method_16_code
def yX5_repeats : MethodName := ⟨RX5, "repeats", "(I)I"⟩
abbrev cX5_drops : ByteArray := prog_1_method_17_code
def yX5_drops : MethodName := ⟨RX5, "drops", "(I)I"⟩
abbrev cX5_size : ByteArray := prog_1_method_18_code
def yX5_size : MethodName := ⟨RX5, "size", "(I)I"⟩
abbrev cX5_lines : ByteArray := prog_1_method_19_code
def yX5_lines : MethodName := ⟨RX5, "lines", "(II)I"⟩
abbrev cX5_line : ByteArray := prog_1_method_20_code
def yX5_line : MethodName := ⟨RX5, "line", "(III)I"⟩
abbrev cX5_generations : ByteArray := prog_1_method_21_code
def yX5_generations : MethodName := ⟨RX5, "generations", "(I)I"⟩
abbrev cX5_queued : ByteArray := prog_1_method_22_code
def yX5_queued : MethodName := ⟨RX5, "queued", "()I"⟩
abbrev cX5_inFlight : ByteArray := prog_1_method_23_code
def yX5_inFlight : MethodName := ⟨RX5, "inFlight", "()I"⟩
abbrev cX5_acknowledged : ByteArray := prog_1_method_24_code
def yX5_acknowledged : MethodName := ⟨RX5, "acknowledged", "()I"⟩
abbrev cX5_lost : ByteArray := prog_1_method_25_code
def yX5_lost : MethodName := ⟨RX5, "lost", "()I"⟩
abbrev cX5_messages : ByteArray := prog_1_method_26_code
def yX5_messages : MethodName := ⟨RX5, "messages", "()I"⟩
abbrev cX5_fateOf : ByteArray := prog_1_method_27_code
def yX5_fateOf : MethodName := ⟨RX5, "fateOf", "(I)I"⟩
abbrev cX5_count : ByteArray := prog_1_method_28_code
def yX5_count : MethodName := ⟨RX5, "count", "(I)I"⟩
abbrev cX5_targetsOf : ByteArray := prog_1_method_29_code
def yX5_targetsOf : MethodName := ⟨RX5, "targetsOf", "(I)I"⟩
abbrev cX5_isWithin : ByteArray := prog_1_method_30_code
def yX5_isWithin : MethodName := ⟨RX5, "isWithin", "(III)Z"⟩
abbrev cX5_senderAt : ByteArray := prog_1_method_31_code
def yX5_senderAt : MethodName := ⟨RX5, "senderAt", "(I)LLogSpooler$Sender;"⟩
abbrev cX5_ruleAt : ByteArray := prog_1_method_32_code
def yX5_ruleAt : MethodName := ⟨RX5, "ruleAt", "(I)LLogSpooler$Rule;"⟩
abbrev cX5_fileAt : ByteArray := prog_1_method_33_code
def yX5_fileAt : MethodName := ⟨RX5, "fileAt", "(I)LLogSpooler$LogFile;"⟩
abbrev cX5_rulesThatAreSet : ByteArray := prog_1_method_34_code
def yX5_rulesThatAreSet : MethodName := ⟨RX5, "rulesThatAreSet", "()I"⟩
abbrev cX5_tellRepeats : ByteArray := prog_1_method_35_code
def yX5_tellRepeats : MethodName := ⟨RX5, "tellRepeats", "(LLogSpooler$Sender;)V"⟩
abbrev cX5_tellDrops : ByteArray := prog_1_method_36_code
def yX5_tellDrops : MethodName := ⟨RX5, "tellDrops", "(LLogSpooler$Sender;)V"⟩
abbrev cX5_route : ByteArray := prog_1_method_37_code
def yX5_route : MethodName := ⟨RX5, "route", "(IIIII)I"⟩
abbrev cX5_passOneSecond : ByteArray := prog_1_method_38_code
def yX5_passOneSecond : MethodName := ⟨RX5, "passOneSecond", "()V"⟩
abbrev cX5_giveTokens : ByteArray := prog_1_method_39_code
def yX5_giveTokens : MethodName := ⟨RX5, "giveTokens", "()V"⟩
abbrev cX5_tellDueRepeats : ByteArray := prog_1_method_40_code
def yX5_tellDueRepeats : MethodName := ⟨RX5, "tellDueRepeats", "()V"⟩
abbrev cX5_firstWithDueRepeats : ByteArray := prog_1_method_41_code
def yX5_firstWithDueRepeats : MethodName := ⟨RX5, "firstWithDueRepeats", "()LLogSpooler$Sender;"⟩
abbrev cX5_rotateAgedFiles : ByteArray := prog_1_method_42_code
def yX5_rotateAgedFiles : MethodName := ⟨RX5, "rotateAgedFiles", "()V"⟩
abbrev cX5_rotationsOfAllFiles : ByteArray := prog_1_method_43_code
def yX5_rotationsOfAllFiles : MethodName := ⟨RX5, "rotationsOfAllFiles", "()I"⟩
def RX6 : String := "LogSpoolerModel"
def TX6 : u_T := fun k => match k with
  | _ => ("", "", "", false)
def tyX6 : Nat → FieldType := fun k => match k with
  | _ => .int
abbrev wsX60 : List Cond := u_ws RX6 TX6 0
theorem nmX6 : ∀ a, a < 0 → ∀ b, b < 0 → a ≠ b → (TX6 a).2.1 ≠ (TX6 b).2.1 := by decide +kernel
theorem tyX6_ok : ∀ k, k < 0 → parseFieldDescriptor (TX6 k).2.2.1 = some (tyX6 k) := by decide +kernel
def RJ0 : String := "java/lang/String"
def TJ0 : u_T := fun k => match k with
  | _ => ("", "", "", false)
def tyJ0 : Nat → FieldType := fun k => match k with
  | _ => .int
abbrev wsJ00 : List Cond := u_ws RJ0 TJ0 0
theorem nmJ0 : ∀ a, a < 0 → ∀ b, b < 0 → a ≠ b → (TJ0 a).2.1 ≠ (TJ0 b).2.1 := by decide +kernel
theorem tyJ0_ok : ∀ k, k < 0 → parseFieldDescriptor (TJ0 k).2.2.1 = some (tyJ0 k) := by decide +kernel
def RL : String := "LogSpoolerLaw"
abbrev cL_draw : ByteArray := method_2_code
def yL_draw : MethodName := ⟨RL, "draw", "([II)I"⟩
abbrev cL_step : ByteArray := method_3_code
def yL_step : MethodName := ⟨RL, "step", "(LLogSpooler;[I[IIII)Z"⟩
abbrev cL_passes : ByteArray := method_4_code
def yL_passes : MethodName := ⟨RL, "passes", "(LLogSpooler;[II)Z"⟩
abbrev cL_forwards : ByteArray := method_5_code
def yL_forwards : MethodName := ⟨RL, "forwards", "(LLogSpooler;[II)Z"⟩
abbrev cL_comes : ByteArray := method_6_code
def yL_comes : MethodName := ⟨RL, "comes", "(LLogSpooler;[I[IIIIII)Z"⟩
abbrev cL_areFiles : ByteArray := method_7_code
def yL_areFiles : MethodName := ⟨RL, "areFiles", "(LLogSpooler;[I[I)Z"⟩
abbrev cL_isLedger : ByteArray := method_8_code
def yL_isLedger : MethodName := ⟨RL, "isLedger", "(LLogSpooler;[I)Z"⟩
abbrev cL_law : ByteArray := code
def yL_law : MethodName := ⟨RL, "law", "([I)Z"⟩
def wsX0_init : List Cond := .code yX0_init cX0_init 1 none :: ([.methodLink RX0 3 objectInit, .instanceMethod objectInit, .code objectInit ⟨#[0xb1]⟩ 1 none, .arrayClass .int, .fieldLink RX0 9 "LogSpooler$Forwarder" "row" "[I", .fieldLink RX0 15 "LogSpooler$Forwarder" "end" "I", .fieldLink RX0 19 "LogSpooler$Forwarder" "firstQueued" "I", .fieldLink RX0 22 "LogSpooler$Forwarder" "acknowledgedOnes" "I", .fieldLink RX0 25 "LogSpooler$Forwarder" "lostOnes" "I", .fieldLink RX0 28 "LogSpooler$Forwarder" "isConnected" "Z"] ++ wsX00)
def wsX0_waiting : List Cond := .code yX0_waiting cX0_waiting 1 (some .int) :: ([.fieldLink RX0 15 "LogSpooler$Forwarder" "end" "I", .fieldLink RX0 19 "LogSpooler$Forwarder" "firstQueued" "I"] ++ wsX00)
def wsX0_flying : List Cond := .code yX0_flying cX0_flying 1 (some .int) :: ([.fieldLink RX0 19 "LogSpooler$Forwarder" "firstQueued" "I", .fieldLink RX0 22 "LogSpooler$Forwarder" "acknowledgedOnes" "I"] ++ wsX00)
def wsX0_take : List Cond := .code yX0_take cX0_take 2 none :: ([.fieldLink RX0 15 "LogSpooler$Forwarder" "end" "I", .fieldLink RX0 22 "LogSpooler$Forwarder" "acknowledgedOnes" "I", .fieldLink RX0 9 "LogSpooler$Forwarder" "row" "[I", .fieldLink RX0 25 "LogSpooler$Forwarder" "lostOnes" "I"] ++ wsX00)
def wsX0_canSend : List Cond := .code yX0_canSend cX0_canSend 1 (some .boolean) :: ([.fieldLink RX0 28 "LogSpooler$Forwarder" "isConnected" "Z", .methodLink RX0 32 yX0_waiting, .instanceMethod yX0_waiting, .selects RX0 yX0_waiting yX0_waiting, .initialized RX0, .code yX0_waiting cX0_waiting 1 (some .int), .fieldLink RX0 15 "LogSpooler$Forwarder" "end" "I", .fieldLink RX0 19 "LogSpooler$Forwarder" "firstQueued" "I", .methodLink RX0 36 yX0_flying, .instanceMethod yX0_flying, .selects RX0 yX0_flying yX0_flying, .code yX0_flying cX0_flying 1 (some .int), .fieldLink RX0 22 "LogSpooler$Forwarder" "acknowledgedOnes" "I"] ++ wsX00)
def wsX0_lineAt : List Cond := .code yX0_lineAt cX0_lineAt 2 (some .int) :: ([.fieldLink RX0 9 "LogSpooler$Forwarder" "row" "[I"] ++ wsX00)
def wsX0_sendFirst : List Cond := .code yX0_sendFirst cX0_sendFirst 2 (some .int) :: ([.fieldLink RX0 19 "LogSpooler$Forwarder" "firstQueued" "I", .methodLink RX0 39 yX0_lineAt, .instanceMethod yX0_lineAt, .selects RX0 yX0_lineAt yX0_lineAt, .initialized RX0, .code yX0_lineAt cX0_lineAt 2 (some .int), .fieldLink RX0 9 "LogSpooler$Forwarder" "row" "[I"] ++ wsX00)
def wsX0_acknowledgeFirst : List Cond := .code yX0_acknowledgeFirst cX0_acknowledgeFirst 2 (some .int) :: ([.fieldLink RX0 22 "LogSpooler$Forwarder" "acknowledgedOnes" "I", .methodLink RX0 39 yX0_lineAt, .instanceMethod yX0_lineAt, .selects RX0 yX0_lineAt yX0_lineAt, .initialized RX0, .code yX0_lineAt cX0_lineAt 2 (some .int), .fieldLink RX0 9 "LogSpooler$Forwarder" "row" "[I"] ++ wsX00)
def wsX0_loseConnection : List Cond := .code yX0_loseConnection cX0_loseConnection 1 none :: ([.fieldLink RX0 28 "LogSpooler$Forwarder" "isConnected" "Z", .fieldLink RX0 22 "LogSpooler$Forwarder" "acknowledgedOnes" "I", .fieldLink RX0 19 "LogSpooler$Forwarder" "firstQueued" "I"] ++ wsX00)
def wsX1_init : List Cond := .code yX1_init cX1_init 1 none :: ([.methodLink RX1 3 objectInit, .instanceMethod objectInit, .code objectInit ⟨#[0xb1]⟩ 1 none, .arrayClass .int, .fieldLink RX1 9 "LogSpooler$Ledger" "fates" "[I", .fieldLink RX1 15 "LogSpooler$Ledger" "targetSets" "[I", .fieldLink RX1 18 "LogSpooler$Ledger" "entries" "I"] ++ wsX10)
def wsX1_isFull : List Cond := .code yX1_isFull cX1_isFull 1 (some .boolean) :: ([.fieldLink RX1 18 "LogSpooler$Ledger" "entries" "I"] ++ wsX10)
def wsX1_has : List Cond := .code yX1_has cX1_has 2 (some .boolean) :: ([.fieldLink RX1 18 "LogSpooler$Ledger" "entries" "I"] ++ wsX10)
def wsX1_enter : List Cond := .code yX1_enter cX1_enter 3 (some .int) :: ([.fieldLink RX1 18 "LogSpooler$Ledger" "entries" "I", .fieldLink RX1 9 "LogSpooler$Ledger" "fates" "[I", .fieldLink RX1 15 "LogSpooler$Ledger" "targetSets" "[I"] ++ wsX10)
def wsX1_fateAt : List Cond := .code yX1_fateAt cX1_fateAt 2 (some .int) :: ([.fieldLink RX1 9 "LogSpooler$Ledger" "fates" "[I"] ++ wsX10)
def wsX1_targetsAt : List Cond := .code yX1_targetsAt cX1_targetsAt 2 (some .int) :: ([.fieldLink RX1 15 "LogSpooler$Ledger" "targetSets" "[I"] ++ wsX10)
def wsX1_entriesWith : List Cond := .code yX1_entriesWith cX1_entriesWith 4 (some .int) :: ([.fieldLink RX1 18 "LogSpooler$Ledger" "entries" "I", .fieldLink RX1 9 "LogSpooler$Ledger" "fates" "[I"] ++ wsX10)
def wsX2_init : List Cond := .code yX2_init cX2_init 1 none :: ([.methodLink RX2 3 objectInit, .instanceMethod objectInit, .code objectInit ⟨#[0xb1]⟩ 1 none, .arrayClass .int, .fieldLink RX2 9 "LogSpooler$LogFile" "row" "[I", .fieldLink RX2 15 "LogSpooler$LogFile" "starts" "[I", .fieldLink RX2 18 "LogSpooler$LogFile" "end" "I", .fieldLink RX2 22 "LogSpooler$LogFile" "greatestSize" "I", .fieldLink RX2 25 "LogSpooler$LogFile" "age" "I", .fieldLink RX2 28 "LogSpooler$LogFile" "kept" "I", .fieldLink RX2 31 "LogSpooler$LogFile" "firstCame" "I", .fieldLink RX2 34 "LogSpooler$LogFile" "sumOfLengths" "I", .fieldLink RX2 37 "LogSpooler$LogFile" "olderOnes" "I", .fieldLink RX2 40 "LogSpooler$LogFile" "rotations" "I"] ++ wsX20)
def wsX2_limit : List Cond := .code yX2_limit cX2_limit 4 none :: ([.fieldLink RX2 22 "LogSpooler$LogFile" "greatestSize" "I", .fieldLink RX2 25 "LogSpooler$LogFile" "age" "I", .fieldLink RX2 28 "LogSpooler$LogFile" "kept" "I", .fieldLink RX2 37 "LogSpooler$LogFile" "olderOnes" "I"] ++ wsX20)
def wsX2_isEmpty : List Cond := .code yX2_isEmpty cX2_isEmpty 1 (some .boolean) :: ([.fieldLink RX2 18 "LogSpooler$LogFile" "end" "I", .fieldLink RX2 15 "LogSpooler$LogFile" "starts" "[I"] ++ wsX20)
def wsX2_isAged : List Cond := .code yX2_isAged cX2_isAged 2 (some .boolean) :: ([.fieldLink RX2 25 "LogSpooler$LogFile" "age" "I", .fieldLink RX2 31 "LogSpooler$LogFile" "firstCame" "I", .methodLink RX2 43 yX2_isEmpty, .instanceMethod yX2_isEmpty, .selects RX2 yX2_isEmpty yX2_isEmpty, .initialized RX2, .code yX2_isEmpty cX2_isEmpty 1 (some .boolean), .fieldLink RX2 18 "LogSpooler$LogFile" "end" "I", .fieldLink RX2 15 "LogSpooler$LogFile" "starts" "[I"] ++ wsX20)
def wsX2_turnOver : List Cond := .code yX2_turnOver cX2_turnOver 2 none :: ([.fieldLink RX2 15 "LogSpooler$LogFile" "starts" "[I", .fieldLink RX2 18 "LogSpooler$LogFile" "end" "I", .fieldLink RX2 34 "LogSpooler$LogFile" "sumOfLengths" "I", .fieldLink RX2 40 "LogSpooler$LogFile" "rotations" "I", .fieldLink RX2 37 "LogSpooler$LogFile" "olderOnes" "I", .fieldLink RX2 28 "LogSpooler$LogFile" "kept" "I"] ++ wsX20)
def wsX2_add : List Cond := .code yX2_add cX2_add 4 none :: ([.fieldLink RX2 34 "LogSpooler$LogFile" "sumOfLengths" "I", .fieldLink RX2 22 "LogSpooler$LogFile" "greatestSize" "I", .fieldLink RX2 31 "LogSpooler$LogFile" "firstCame" "I", .fieldLink RX2 18 "LogSpooler$LogFile" "end" "I", .fieldLink RX2 9 "LogSpooler$LogFile" "row" "[I", .methodLink RX2 43 yX2_isEmpty, .instanceMethod yX2_isEmpty, .selects RX2 yX2_isEmpty yX2_isEmpty, .initialized RX2, .code yX2_isEmpty cX2_isEmpty 1 (some .boolean), .fieldLink RX2 15 "LogSpooler$LogFile" "starts" "[I", .methodLink RX2 47 yX2_turnOver, .instanceMethod yX2_turnOver, .selects RX2 yX2_turnOver yX2_turnOver, .code yX2_turnOver cX2_turnOver 2 none, .fieldLink RX2 40 "LogSpooler$LogFile" "rotations" "I", .fieldLink RX2 37 "LogSpooler$LogFile" "olderOnes" "I", .fieldLink RX2 28 "LogSpooler$LogFile" "kept" "I"] ++ wsX20)
def wsX2_has : List Cond := .code yX2_has cX2_has 2 (some .boolean) :: ([.fieldLink RX2 37 "LogSpooler$LogFile" "olderOnes" "I"] ++ wsX20)
def wsX2_startOf : List Cond := .code yX2_startOf cX2_startOf 3 (some .int) :: ([.fieldLink RX2 15 "LogSpooler$LogFile" "starts" "[I", .fieldLink RX2 18 "LogSpooler$LogFile" "end" "I"] ++ wsX20)
def wsX2_linesOf : List Cond := .code yX2_linesOf cX2_linesOf 3 (some .int) :: ([.fieldLink RX2 18 "LogSpooler$LogFile" "end" "I", .methodLink RX2 50 yX2_startOf, .instanceMethod yX2_startOf, .selects RX2 yX2_startOf yX2_startOf, .initialized RX2, .code yX2_startOf cX2_startOf 3 (some .int), .fieldLink RX2 15 "LogSpooler$LogFile" "starts" "[I"] ++ wsX20)
def wsX2_lineAt : List Cond := .code yX2_lineAt cX2_lineAt 4 (some .int) :: ([.fieldLink RX2 9 "LogSpooler$LogFile" "row" "[I", .methodLink RX2 50 yX2_startOf, .instanceMethod yX2_startOf, .selects RX2 yX2_startOf yX2_startOf, .initialized RX2, .code yX2_startOf cX2_startOf 3 (some .int), .fieldLink RX2 15 "LogSpooler$LogFile" "starts" "[I", .fieldLink RX2 18 "LogSpooler$LogFile" "end" "I"] ++ wsX20)
def wsX3_init : List Cond := .code yX3_init cX3_init 1 none :: ([.methodLink RX3 3 objectInit, .instanceMethod objectInit, .code objectInit ⟨#[0xb1]⟩ 1 none, .fieldLink RX3 9 "LogSpooler$Rule" "isSet" "Z", .fieldLink RX3 15 "LogSpooler$Rule" "facilities" "I", .fieldLink RX3 19 "LogSpooler$Rule" "severity" "I", .fieldLink RX3 22 "LogSpooler$Rule" "sender" "I", .fieldLink RX3 25 "LogSpooler$Rule" "target" "I"] ++ wsX30)
def wsX3_put : List Cond := .code yX3_put cX3_put 5 none :: ([.fieldLink RX3 9 "LogSpooler$Rule" "isSet" "Z", .fieldLink RX3 15 "LogSpooler$Rule" "facilities" "I", .fieldLink RX3 19 "LogSpooler$Rule" "severity" "I", .fieldLink RX3 22 "LogSpooler$Rule" "sender" "I", .fieldLink RX3 25 "LogSpooler$Rule" "target" "I"] ++ wsX30)
def wsX3_fits : List Cond := .code yX3_fits cX3_fits 4 (some .boolean) :: ([.fieldLink RX3 9 "LogSpooler$Rule" "isSet" "Z", .fieldLink RX3 15 "LogSpooler$Rule" "facilities" "I", .fieldLink RX3 19 "LogSpooler$Rule" "severity" "I", .fieldLink RX3 22 "LogSpooler$Rule" "sender" "I"] ++ wsX30)
def wsX4_init : List Cond := .code yX4_init cX4_init 3 none :: ([.methodLink RX4 3 objectInit, .instanceMethod objectInit, .code objectInit ⟨#[0xb1]⟩ 1 none, .fieldLink RX4 9 "LogSpooler$Sender" "untoldRepeats" "I", .fieldLink RX4 15 "LogSpooler$Sender" "firstRepeat" "I", .fieldLink RX4 18 "LogSpooler$Sender" "untoldDrops" "I", .fieldLink RX4 21 "LogSpooler$Sender" "lastFacility" "I", .fieldLink RX4 24 "LogSpooler$Sender" "lastSeverity" "I", .fieldLink RX4 27 "LogSpooler$Sender" "lastText" "I", .fieldLink RX4 30 "LogSpooler$Sender" "lastLength" "I", .fieldLink RX4 33 "LogSpooler$Sender" "number" "I", .fieldLink RX4 36 "LogSpooler$Sender" "tokensLeft" "I"] ++ wsX40)
def wsX4_capTokens : List Cond := .code yX4_capTokens cX4_capTokens 2 none :: ([.fieldLink RX4 36 "LogSpooler$Sender" "tokensLeft" "I"] ++ wsX40)
def wsX4_gainToken : List Cond := .code yX4_gainToken cX4_gainToken 2 none :: ([.fieldLink RX4 36 "LogSpooler$Sender" "tokensLeft" "I"] ++ wsX40)
def wsX4_lastIs : List Cond := .code yX4_lastIs cX4_lastIs 5 (some .boolean) :: ([.fieldLink RX4 21 "LogSpooler$Sender" "lastFacility" "I", .fieldLink RX4 24 "LogSpooler$Sender" "lastSeverity" "I", .fieldLink RX4 27 "LogSpooler$Sender" "lastText" "I", .fieldLink RX4 30 "LogSpooler$Sender" "lastLength" "I"] ++ wsX40)
def wsX4_setLast : List Cond := .code yX4_setLast cX4_setLast 5 none :: ([.fieldLink RX4 21 "LogSpooler$Sender" "lastFacility" "I", .fieldLink RX4 24 "LogSpooler$Sender" "lastSeverity" "I", .fieldLink RX4 27 "LogSpooler$Sender" "lastText" "I", .fieldLink RX4 30 "LogSpooler$Sender" "lastLength" "I"] ++ wsX40)
def wsX4_countRepeat : List Cond := .code yX4_countRepeat cX4_countRepeat 2 none :: ([.fieldLink RX4 9 "LogSpooler$Sender" "untoldRepeats" "I", .fieldLink RX4 15 "LogSpooler$Sender" "firstRepeat" "I"] ++ wsX40)
def wsX5_init_r1 : List Cond := [Cond.methodLink RX5 3 objectInit, Cond.instanceMethod objectInit, Cond.code objectInit ⟨#[0xb1]⟩ 1 none, Cond.classLink RX5 9 RX4, Cond.fieldLink RX5 11 "LogSpooler" "senders" "[LLogSpooler$Sender;", Cond.classLink RX5 15 RX3, Cond.fieldLink RX5 17 "LogSpooler" "rules" "[LLogSpooler$Rule;", Cond.classLink RX5 21 RX2, Cond.fieldLink RX5 23 "LogSpooler" "files" "[LLogSpooler$LogFile;", Cond.classLink RX5 27 RX0, Cond.instantiable RX0 6, Cond.initialized RX0, Cond.fieldLink RX5 30 "LogSpooler" "forwarder" "LLogSpooler$Forwarder;", Cond.classLink RX5 34 RX1, Cond.instantiable RX1 3, Cond.initialized RX1, Cond.fieldLink RX5 37 "LogSpooler" "ledger" "LLogSpooler$Ledger;", Cond.fieldLink RX5 41 "LogSpooler" "now" "I", Cond.fieldLink RX5 45 "LogSpooler" "burst" "I", Cond.fieldLink RX5 48 "LogSpooler" "tokenTime" "I", Cond.fieldLink RX5 51 "LogSpooler" "foldTime" "I", Cond.instantiable RX4 9, Cond.initialized RX4, Cond.instantiable RX3 5]
def wsX5_init_r2 : List Cond := [Cond.initialized RX3, Cond.instantiable RX2 10, Cond.initialized RX2, Cond.instanceMethod yX0_init, Cond.code yX0_init cX0_init 1 none, Cond.methodLink RX0 3 objectInit, Cond.arrayClass .int, Cond.fieldLink RX0 9 "LogSpooler$Forwarder" "row" "[I", Cond.fieldLink RX0 15 "LogSpooler$Forwarder" "end" "I", Cond.fieldLink RX0 19 "LogSpooler$Forwarder" "firstQueued" "I", Cond.fieldLink RX0 22 "LogSpooler$Forwarder" "acknowledgedOnes" "I", Cond.fieldLink RX0 25 "LogSpooler$Forwarder" "lostOnes" "I", Cond.fieldLink RX0 28 "LogSpooler$Forwarder" "isConnected" "Z", Cond.instanceMethod yX1_init, Cond.code yX1_init cX1_init 1 none, Cond.methodLink RX1 3 objectInit, Cond.fieldLink RX1 9 "LogSpooler$Ledger" "fates" "[I", Cond.fieldLink RX1 15 "LogSpooler$Ledger" "targetSets" "[I", Cond.fieldLink RX1 18 "LogSpooler$Ledger" "entries" "I", Cond.methodLink RX5 54 yX4_init, Cond.instanceMethod yX4_init, Cond.code yX4_init cX4_init 3 none, Cond.methodLink RX4 3 objectInit, Cond.fieldLink RX4 9 "LogSpooler$Sender" "untoldRepeats" "I"]
def wsX5_init_r3 : List Cond := [Cond.fieldLink RX4 15 "LogSpooler$Sender" "firstRepeat" "I", Cond.fieldLink RX4 18 "LogSpooler$Sender" "untoldDrops" "I", Cond.fieldLink RX4 21 "LogSpooler$Sender" "lastFacility" "I", Cond.fieldLink RX4 24 "LogSpooler$Sender" "lastSeverity" "I", Cond.fieldLink RX4 27 "LogSpooler$Sender" "lastText" "I", Cond.fieldLink RX4 30 "LogSpooler$Sender" "lastLength" "I", Cond.fieldLink RX4 33 "LogSpooler$Sender" "number" "I", Cond.fieldLink RX4 36 "LogSpooler$Sender" "tokensLeft" "I", Cond.instanceMethod yX3_init, Cond.code yX3_init cX3_init 1 none, Cond.methodLink RX3 3 objectInit, Cond.fieldLink RX3 9 "LogSpooler$Rule" "isSet" "Z", Cond.fieldLink RX3 15 "LogSpooler$Rule" "facilities" "I", Cond.fieldLink RX3 19 "LogSpooler$Rule" "severity" "I", Cond.fieldLink RX3 22 "LogSpooler$Rule" "sender" "I", Cond.fieldLink RX3 25 "LogSpooler$Rule" "target" "I", Cond.instanceMethod yX2_init, Cond.code yX2_init cX2_init 1 none, Cond.methodLink RX2 3 objectInit, Cond.fieldLink RX2 9 "LogSpooler$LogFile" "row" "[I", Cond.fieldLink RX2 15 "LogSpooler$LogFile" "starts" "[I", Cond.fieldLink RX2 18 "LogSpooler$LogFile" "end" "I", Cond.fieldLink RX2 22 "LogSpooler$LogFile" "greatestSize" "I", Cond.fieldLink RX2 25 "LogSpooler$LogFile" "age" "I"]
def wsX5_init_r4 : List Cond := [Cond.fieldLink RX2 28 "LogSpooler$LogFile" "kept" "I", Cond.fieldLink RX2 31 "LogSpooler$LogFile" "firstCame" "I", Cond.fieldLink RX2 34 "LogSpooler$LogFile" "sumOfLengths" "I", Cond.fieldLink RX2 37 "LogSpooler$LogFile" "olderOnes" "I", Cond.fieldLink RX2 40 "LogSpooler$LogFile" "rotations" "I"]
def wsX5_init : List Cond := .code yX5_init cX5_init 2 none :: ((wsX5_init_r1 ++ (wsX5_init_r2 ++ (wsX5_init_r3 ++ wsX5_init_r4))) ++ wsX50 ++ wsX00 ++ wsX10 ++ wsX40 ++ wsX30 ++ wsX20)
def wsX5_isWithin : List Cond := .code yX5_isWithin cX5_isWithin 3 (some .boolean) :: ([])
def wsX5_setRate : List Cond := .code yX5_setRate cX5_setRate 5 (some .int) :: ([.classLink RX5 63 "java/lang/IllegalArgumentException", .initialized "java/lang/IllegalArgumentException", .fieldLink RX5 45 "LogSpooler" "burst" "I", .fieldLink RX5 48 "LogSpooler" "tokenTime" "I", .fieldLink RX5 11 "LogSpooler" "senders" "[LLogSpooler$Sender;", .methodLink RX5 59 yX5_isWithin, .static yX5_isWithin, .initialized RX5, .code yX5_isWithin cX5_isWithin 3 (some .boolean), .methodLink RX5 70 yX4_capTokens, .instanceMethod yX4_capTokens, .selects RX4 yX4_capTokens yX4_capTokens, .initialized RX4, .code yX4_capTokens cX4_capTokens 2 none, .fieldLink RX4 36 "LogSpooler$Sender" "tokensLeft" "I"] ++ wsX50 ++ wsX40 ++ (vx_atS RX5 67 "java/lang/IllegalArgumentException" ["java/lang/RuntimeException", "java/lang/Exception"]).filter goodWord)
def wsX5_setFold : List Cond := .code yX5_setFold cX5_setFold 3 (some .int) :: ([.classLink RX5 63 "java/lang/IllegalArgumentException", .initialized "java/lang/IllegalArgumentException", .fieldLink RX5 51 "LogSpooler" "foldTime" "I", .methodLink RX5 59 yX5_isWithin, .static yX5_isWithin, .initialized RX5, .code yX5_isWithin cX5_isWithin 3 (some .boolean)] ++ wsX50 ++ (vx_atS RX5 67 "java/lang/IllegalArgumentException" ["java/lang/RuntimeException", "java/lang/Exception"]).filter goodWord)
def wsX5_ruleAt : List Cond := .code yX5_ruleAt cX5_ruleAt 2 (some (.object "LogSpooler$Rule")) :: ([.classLink RX5 80 "java/lang/IndexOutOfBoundsException", .initialized "java/lang/IndexOutOfBoundsException", .fieldLink RX5 17 "LogSpooler" "rules" "[LLogSpooler$Rule;"] ++ wsX50 ++ (vx_atS RX5 84 "java/lang/IndexOutOfBoundsException" ["java/lang/RuntimeException", "java/lang/Exception"]).filter goodWord)
def wsX5_rulesThatAreSet : List Cond := .code yX5_rulesThatAreSet cX5_rulesThatAreSet 3 (some .int) :: ([.fieldLink RX5 17 "LogSpooler" "rules" "[LLogSpooler$Rule;", .fieldLink RX5 95 "LogSpooler$Rule" "isSet" "Z"] ++ wsX50 ++ wsX30)
def wsX5_setRule_r1 : List Cond := [Cond.classLink RX5 80 "java/lang/IndexOutOfBoundsException", Cond.initialized "java/lang/IndexOutOfBoundsException", Cond.classLink RX5 63 "java/lang/IllegalArgumentException", Cond.initialized "java/lang/IllegalArgumentException", Cond.methodLink RX5 76 yX5_ruleAt, Cond.instanceMethod yX5_ruleAt, Cond.selects RX5 yX5_ruleAt yX5_ruleAt, Cond.initialized RX5, Cond.code yX5_ruleAt cX5_ruleAt 2 (some (.object "LogSpooler$Rule")), Cond.fieldLink RX5 17 "LogSpooler" "rules" "[LLogSpooler$Rule;", Cond.methodLink RX5 59 yX5_isWithin, Cond.static yX5_isWithin, Cond.code yX5_isWithin cX5_isWithin 3 (some .boolean), Cond.methodLink RX5 87 yX3_put, Cond.instanceMethod yX3_put, Cond.selects RX3 yX3_put yX3_put, Cond.initialized RX3, Cond.code yX3_put cX3_put 5 none, Cond.fieldLink RX3 9 "LogSpooler$Rule" "isSet" "Z", Cond.fieldLink RX3 15 "LogSpooler$Rule" "facilities" "I", Cond.fieldLink RX3 19 "LogSpooler$Rule" "severity" "I", Cond.fieldLink RX3 22 "LogSpooler$Rule" "sender" "I", Cond.fieldLink RX3 25 "LogSpooler$Rule" "target" "I", Cond.methodLink RX5 91 yX5_rulesThatAreSet]
def wsX5_setRule_r2 : List Cond := [Cond.instanceMethod yX5_rulesThatAreSet, Cond.selects RX5 yX5_rulesThatAreSet yX5_rulesThatAreSet, Cond.code yX5_rulesThatAreSet cX5_rulesThatAreSet 3 (some .int), Cond.fieldLink RX5 95 "LogSpooler$Rule" "isSet" "Z"]
def wsX5_setRule : List Cond := .code yX5_setRule cX5_setRule 7 (some .int) :: ((wsX5_setRule_r1 ++ wsX5_setRule_r2) ++ wsX50 ++ wsX30 ++ (vx_atS RX5 84 "java/lang/IndexOutOfBoundsException" ["java/lang/RuntimeException", "java/lang/Exception"]).filter goodWord ++ (vx_atS RX5 67 "java/lang/IllegalArgumentException" ["java/lang/RuntimeException", "java/lang/Exception"]).filter goodWord)
def wsX5_fileAt : List Cond := .code yX5_fileAt cX5_fileAt 2 (some (.object "LogSpooler$LogFile")) :: ([.classLink RX5 80 "java/lang/IndexOutOfBoundsException", .initialized "java/lang/IndexOutOfBoundsException", .fieldLink RX5 23 "LogSpooler" "files" "[LLogSpooler$LogFile;"] ++ wsX50 ++ (vx_atS RX5 84 "java/lang/IndexOutOfBoundsException" ["java/lang/RuntimeException", "java/lang/Exception"]).filter goodWord)
def wsX5_setFile : List Cond := .code yX5_setFile cX5_setFile 6 (some .int) :: ([.classLink RX5 63 "java/lang/IllegalArgumentException", .initialized "java/lang/IllegalArgumentException", .fieldLink RX5 109 "LogSpooler$LogFile" "sumOfLengths" "I", .methodLink RX5 99 yX5_fileAt, .instanceMethod yX5_fileAt, .selects RX5 yX5_fileAt yX5_fileAt, .initialized RX5, .code yX5_fileAt cX5_fileAt 2 (some (.object "LogSpooler$LogFile")), .classLink RX5 80 "java/lang/IndexOutOfBoundsException", .initialized "java/lang/IndexOutOfBoundsException", .fieldLink RX5 23 "LogSpooler" "files" "[LLogSpooler$LogFile;", .methodLink RX5 59 yX5_isWithin, .static yX5_isWithin, .code yX5_isWithin cX5_isWithin 3 (some .boolean), .methodLink RX5 105 yX2_limit, .instanceMethod yX2_limit, .selects RX2 yX2_limit yX2_limit, .initialized RX2, .code yX2_limit cX2_limit 4 none, .fieldLink RX2 22 "LogSpooler$LogFile" "greatestSize" "I", .fieldLink RX2 25 "LogSpooler$LogFile" "age" "I", .fieldLink RX2 28 "LogSpooler$LogFile" "kept" "I", .fieldLink RX2 37 "LogSpooler$LogFile" "olderOnes" "I"] ++ wsX20 ++ wsX50 ++ (vx_atS RX5 67 "java/lang/IllegalArgumentException" ["java/lang/RuntimeException", "java/lang/Exception"]).filter goodWord ++ (vx_atS RX5 84 "java/lang/IndexOutOfBoundsException" ["java/lang/RuntimeException", "java/lang/Exception"]).filter goodWord)
def wsX5_senderAt : List Cond := .code yX5_senderAt cX5_senderAt 2 (some (.object "LogSpooler$Sender")) :: ([.classLink RX5 80 "java/lang/IndexOutOfBoundsException", .initialized "java/lang/IndexOutOfBoundsException", .fieldLink RX5 11 "LogSpooler" "senders" "[LLogSpooler$Sender;"] ++ wsX50 ++ (vx_atS RX5 84 "java/lang/IndexOutOfBoundsException" ["java/lang/RuntimeException", "java/lang/Exception"]).filter goodWord)
def wsX5_route_r1 : List Cond := [Cond.fieldLink RX5 17 "LogSpooler" "rules" "[LLogSpooler$Rule;", Cond.fieldLink RX5 261 "LogSpooler$Rule" "target" "I", Cond.fieldLink RX5 23 "LogSpooler" "files" "[LLogSpooler$LogFile;", Cond.fieldLink RX5 41 "LogSpooler" "now" "I", Cond.fieldLink RX5 30 "LogSpooler" "forwarder" "LLogSpooler$Forwarder;", Cond.methodLink RX5 264 yX3_fits, Cond.instanceMethod yX3_fits, Cond.selects RX3 yX3_fits yX3_fits, Cond.initialized RX3, Cond.code yX3_fits cX3_fits 4 (some .boolean), Cond.fieldLink RX3 9 "LogSpooler$Rule" "isSet" "Z", Cond.fieldLink RX3 15 "LogSpooler$Rule" "facilities" "I", Cond.fieldLink RX3 19 "LogSpooler$Rule" "severity" "I", Cond.fieldLink RX3 22 "LogSpooler$Rule" "sender" "I", Cond.methodLink RX5 267 yX2_add, Cond.instanceMethod yX2_add, Cond.selects RX2 yX2_add yX2_add, Cond.initialized RX2, Cond.code yX2_add cX2_add 4 none, Cond.fieldLink RX2 34 "LogSpooler$LogFile" "sumOfLengths" "I", Cond.fieldLink RX2 22 "LogSpooler$LogFile" "greatestSize" "I", Cond.fieldLink RX2 31 "LogSpooler$LogFile" "firstCame" "I", Cond.fieldLink RX2 18 "LogSpooler$LogFile" "end" "I", Cond.fieldLink RX2 9 "LogSpooler$LogFile" "row" "[I"]
def wsX5_route_r2 : List Cond := [Cond.methodLink RX2 43 yX2_isEmpty, Cond.instanceMethod yX2_isEmpty, Cond.selects RX2 yX2_isEmpty yX2_isEmpty, Cond.code yX2_isEmpty cX2_isEmpty 1 (some .boolean), Cond.fieldLink RX2 15 "LogSpooler$LogFile" "starts" "[I", Cond.methodLink RX2 47 yX2_turnOver, Cond.instanceMethod yX2_turnOver, Cond.selects RX2 yX2_turnOver yX2_turnOver, Cond.code yX2_turnOver cX2_turnOver 2 none, Cond.fieldLink RX2 40 "LogSpooler$LogFile" "rotations" "I", Cond.fieldLink RX2 37 "LogSpooler$LogFile" "olderOnes" "I", Cond.fieldLink RX2 28 "LogSpooler$LogFile" "kept" "I", Cond.methodLink RX5 270 yX0_take, Cond.instanceMethod yX0_take, Cond.selects RX0 yX0_take yX0_take, Cond.initialized RX0, Cond.code yX0_take cX0_take 2 none, Cond.fieldLink RX0 15 "LogSpooler$Forwarder" "end" "I", Cond.fieldLink RX0 22 "LogSpooler$Forwarder" "acknowledgedOnes" "I", Cond.fieldLink RX0 9 "LogSpooler$Forwarder" "row" "[I", Cond.fieldLink RX0 25 "LogSpooler$Forwarder" "lostOnes" "I"]
def wsX5_route : List Cond := .code yX5_route cX5_route 10 (some .int) :: ((wsX5_route_r1 ++ wsX5_route_r2) ++ wsX50 ++ wsX30 ++ wsX20 ++ wsX00)
def wsX5_tellRepeats_r1 : List Cond := [Cond.fieldLink RX5 207 "LogSpooler$Sender" "untoldRepeats" "I", Cond.fieldLink RX5 251 "LogSpooler$Sender" "number" "I", Cond.fieldLink RX5 254 "LogSpooler$Sender" "lastFacility" "I", Cond.fieldLink RX5 257 "LogSpooler$Sender" "lastSeverity" "I", Cond.methodLink RX5 157 yX5_route, Cond.instanceMethod yX5_route, Cond.selects RX5 yX5_route yX5_route, Cond.initialized RX5, Cond.code yX5_route cX5_route 10 (some .int), Cond.fieldLink RX5 17 "LogSpooler" "rules" "[LLogSpooler$Rule;", Cond.fieldLink RX5 261 "LogSpooler$Rule" "target" "I", Cond.fieldLink RX5 23 "LogSpooler" "files" "[LLogSpooler$LogFile;", Cond.fieldLink RX5 41 "LogSpooler" "now" "I", Cond.fieldLink RX5 30 "LogSpooler" "forwarder" "LLogSpooler$Forwarder;", Cond.methodLink RX5 264 yX3_fits, Cond.instanceMethod yX3_fits, Cond.selects RX3 yX3_fits yX3_fits, Cond.initialized RX3, Cond.code yX3_fits cX3_fits 4 (some .boolean), Cond.fieldLink RX3 9 "LogSpooler$Rule" "isSet" "Z", Cond.fieldLink RX3 15 "LogSpooler$Rule" "facilities" "I", Cond.fieldLink RX3 19 "LogSpooler$Rule" "severity" "I", Cond.fieldLink RX3 22 "LogSpooler$Rule" "sender" "I", Cond.methodLink RX5 267 yX2_add]
def wsX5_tellRepeats_r2 : List Cond := [Cond.instanceMethod yX2_add, Cond.selects RX2 yX2_add yX2_add, Cond.initialized RX2, Cond.code yX2_add cX2_add 4 none, Cond.fieldLink RX2 34 "LogSpooler$LogFile" "sumOfLengths" "I", Cond.fieldLink RX2 22 "LogSpooler$LogFile" "greatestSize" "I", Cond.fieldLink RX2 31 "LogSpooler$LogFile" "firstCame" "I", Cond.fieldLink RX2 18 "LogSpooler$LogFile" "end" "I", Cond.fieldLink RX2 9 "LogSpooler$LogFile" "row" "[I", Cond.methodLink RX2 43 yX2_isEmpty, Cond.instanceMethod yX2_isEmpty, Cond.selects RX2 yX2_isEmpty yX2_isEmpty, Cond.code yX2_isEmpty cX2_isEmpty 1 (some .boolean), Cond.fieldLink RX2 15 "LogSpooler$LogFile" "starts" "[I", Cond.methodLink RX2 47 yX2_turnOver, Cond.instanceMethod yX2_turnOver, Cond.selects RX2 yX2_turnOver yX2_turnOver, Cond.code yX2_turnOver cX2_turnOver 2 none, Cond.fieldLink RX2 40 "LogSpooler$LogFile" "rotations" "I", Cond.fieldLink RX2 37 "LogSpooler$LogFile" "olderOnes" "I", Cond.fieldLink RX2 28 "LogSpooler$LogFile" "kept" "I", Cond.methodLink RX5 270 yX0_take, Cond.instanceMethod yX0_take, Cond.selects RX0 yX0_take yX0_take]
def wsX5_tellRepeats_r3 : List Cond := [Cond.initialized RX0, Cond.code yX0_take cX0_take 2 none, Cond.fieldLink RX0 15 "LogSpooler$Forwarder" "end" "I", Cond.fieldLink RX0 22 "LogSpooler$Forwarder" "acknowledgedOnes" "I", Cond.fieldLink RX0 9 "LogSpooler$Forwarder" "row" "[I", Cond.fieldLink RX0 25 "LogSpooler$Forwarder" "lostOnes" "I"]
def wsX5_tellRepeats : List Cond := .code yX5_tellRepeats cX5_tellRepeats 3 none :: ((wsX5_tellRepeats_r1 ++ (wsX5_tellRepeats_r2 ++ wsX5_tellRepeats_r3)) ++ wsX40 ++ wsX50 ++ wsX30 ++ wsX20 ++ wsX00)
def wsX5_tellDrops_r1 : List Cond := [Cond.fieldLink RX5 145 "LogSpooler$Sender" "untoldDrops" "I", Cond.constant RX5 260 (100000), Cond.fieldLink RX5 251 "LogSpooler$Sender" "number" "I", Cond.methodLink RX5 157 yX5_route, Cond.instanceMethod yX5_route, Cond.selects RX5 yX5_route yX5_route, Cond.initialized RX5, Cond.code yX5_route cX5_route 10 (some .int), Cond.fieldLink RX5 17 "LogSpooler" "rules" "[LLogSpooler$Rule;", Cond.fieldLink RX5 261 "LogSpooler$Rule" "target" "I", Cond.fieldLink RX5 23 "LogSpooler" "files" "[LLogSpooler$LogFile;", Cond.fieldLink RX5 41 "LogSpooler" "now" "I", Cond.fieldLink RX5 30 "LogSpooler" "forwarder" "LLogSpooler$Forwarder;", Cond.methodLink RX5 264 yX3_fits, Cond.instanceMethod yX3_fits, Cond.selects RX3 yX3_fits yX3_fits, Cond.initialized RX3, Cond.code yX3_fits cX3_fits 4 (some .boolean), Cond.fieldLink RX3 9 "LogSpooler$Rule" "isSet" "Z", Cond.fieldLink RX3 15 "LogSpooler$Rule" "facilities" "I", Cond.fieldLink RX3 19 "LogSpooler$Rule" "severity" "I", Cond.fieldLink RX3 22 "LogSpooler$Rule" "sender" "I", Cond.methodLink RX5 267 yX2_add, Cond.instanceMethod yX2_add]
def wsX5_tellDrops_r2 : List Cond := [Cond.selects RX2 yX2_add yX2_add, Cond.initialized RX2, Cond.code yX2_add cX2_add 4 none, Cond.fieldLink RX2 34 "LogSpooler$LogFile" "sumOfLengths" "I", Cond.fieldLink RX2 22 "LogSpooler$LogFile" "greatestSize" "I", Cond.fieldLink RX2 31 "LogSpooler$LogFile" "firstCame" "I", Cond.fieldLink RX2 18 "LogSpooler$LogFile" "end" "I", Cond.fieldLink RX2 9 "LogSpooler$LogFile" "row" "[I", Cond.methodLink RX2 43 yX2_isEmpty, Cond.instanceMethod yX2_isEmpty, Cond.selects RX2 yX2_isEmpty yX2_isEmpty, Cond.code yX2_isEmpty cX2_isEmpty 1 (some .boolean), Cond.fieldLink RX2 15 "LogSpooler$LogFile" "starts" "[I", Cond.methodLink RX2 47 yX2_turnOver, Cond.instanceMethod yX2_turnOver, Cond.selects RX2 yX2_turnOver yX2_turnOver, Cond.code yX2_turnOver cX2_turnOver 2 none, Cond.fieldLink RX2 40 "LogSpooler$LogFile" "rotations" "I", Cond.fieldLink RX2 37 "LogSpooler$LogFile" "olderOnes" "I", Cond.fieldLink RX2 28 "LogSpooler$LogFile" "kept" "I", Cond.methodLink RX5 270 yX0_take, Cond.instanceMethod yX0_take, Cond.selects RX0 yX0_take yX0_take, Cond.initialized RX0]
def wsX5_tellDrops_r3 : List Cond := [Cond.code yX0_take cX0_take 2 none, Cond.fieldLink RX0 15 "LogSpooler$Forwarder" "end" "I", Cond.fieldLink RX0 22 "LogSpooler$Forwarder" "acknowledgedOnes" "I", Cond.fieldLink RX0 9 "LogSpooler$Forwarder" "row" "[I", Cond.fieldLink RX0 25 "LogSpooler$Forwarder" "lostOnes" "I"]
def wsX5_tellDrops : List Cond := .code yX5_tellDrops cX5_tellDrops 3 none :: ((wsX5_tellDrops_r1 ++ (wsX5_tellDrops_r2 ++ wsX5_tellDrops_r3)) ++ wsX40 ++ wsX50 ++ wsX30 ++ wsX20 ++ wsX00)
def wsX5_message_r1 : List Cond := [Cond.classLink RX5 63 "java/lang/IllegalArgumentException", Cond.initialized "java/lang/IllegalArgumentException", Cond.classLink RX5 122 "java/lang/IllegalStateException", Cond.initialized "java/lang/IllegalStateException", Cond.fieldLink RX5 37 "LogSpooler" "ledger" "LLogSpooler$Ledger;", Cond.fieldLink RX5 51 "LogSpooler" "foldTime" "I", Cond.fieldLink RX5 41 "LogSpooler" "now" "I", Cond.fieldLink RX5 142 "LogSpooler$Sender" "tokensLeft" "I", Cond.fieldLink RX5 145 "LogSpooler$Sender" "untoldDrops" "I", Cond.fieldLink RX5 154 "LogSpooler$Ledger" "entries" "I", Cond.methodLink RX5 112 yX5_senderAt, Cond.instanceMethod yX5_senderAt, Cond.selects RX5 yX5_senderAt yX5_senderAt, Cond.initialized RX5, Cond.code yX5_senderAt cX5_senderAt 2 (some (.object "LogSpooler$Sender")), Cond.classLink RX5 80 "java/lang/IndexOutOfBoundsException", Cond.initialized "java/lang/IndexOutOfBoundsException", Cond.fieldLink RX5 11 "LogSpooler" "senders" "[LLogSpooler$Sender;", Cond.methodLink RX5 59 yX5_isWithin, Cond.static yX5_isWithin, Cond.code yX5_isWithin cX5_isWithin 3 (some .boolean), Cond.methodLink RX5 118 yX1_isFull, Cond.instanceMethod yX1_isFull, Cond.selects RX1 yX1_isFull yX1_isFull]
def wsX5_message_r2 : List Cond := [Cond.initialized RX1, Cond.code yX1_isFull cX1_isFull 1 (some .boolean), Cond.fieldLink RX1 18 "LogSpooler$Ledger" "entries" "I", Cond.methodLink RX5 127 yX4_lastIs, Cond.instanceMethod yX4_lastIs, Cond.selects RX4 yX4_lastIs yX4_lastIs, Cond.initialized RX4, Cond.code yX4_lastIs cX4_lastIs 5 (some .boolean), Cond.fieldLink RX4 21 "LogSpooler$Sender" "lastFacility" "I", Cond.fieldLink RX4 24 "LogSpooler$Sender" "lastSeverity" "I", Cond.fieldLink RX4 27 "LogSpooler$Sender" "lastText" "I", Cond.fieldLink RX4 30 "LogSpooler$Sender" "lastLength" "I", Cond.methodLink RX5 131 yX4_countRepeat, Cond.instanceMethod yX4_countRepeat, Cond.selects RX4 yX4_countRepeat yX4_countRepeat, Cond.code yX4_countRepeat cX4_countRepeat 2 none, Cond.fieldLink RX4 9 "LogSpooler$Sender" "untoldRepeats" "I", Cond.fieldLink RX4 15 "LogSpooler$Sender" "firstRepeat" "I", Cond.methodLink RX5 134 yX1_enter, Cond.instanceMethod yX1_enter, Cond.selects RX1 yX1_enter yX1_enter, Cond.code yX1_enter cX1_enter 3 (some .int), Cond.fieldLink RX1 9 "LogSpooler$Ledger" "fates" "[I", Cond.fieldLink RX1 15 "LogSpooler$Ledger" "targetSets" "[I"]
def wsX5_message_r3 : List Cond := [Cond.methodLink RX5 138 yX5_tellRepeats, Cond.instanceMethod yX5_tellRepeats, Cond.selects RX5 yX5_tellRepeats yX5_tellRepeats, Cond.code yX5_tellRepeats cX5_tellRepeats 3 none, Cond.fieldLink RX5 207 "LogSpooler$Sender" "untoldRepeats" "I", Cond.fieldLink RX5 251 "LogSpooler$Sender" "number" "I", Cond.fieldLink RX5 254 "LogSpooler$Sender" "lastFacility" "I", Cond.fieldLink RX5 257 "LogSpooler$Sender" "lastSeverity" "I", Cond.methodLink RX5 157 yX5_route, Cond.instanceMethod yX5_route, Cond.selects RX5 yX5_route yX5_route, Cond.code yX5_route cX5_route 10 (some .int), Cond.fieldLink RX5 17 "LogSpooler" "rules" "[LLogSpooler$Rule;", Cond.fieldLink RX5 261 "LogSpooler$Rule" "target" "I", Cond.fieldLink RX5 23 "LogSpooler" "files" "[LLogSpooler$LogFile;", Cond.fieldLink RX5 30 "LogSpooler" "forwarder" "LLogSpooler$Forwarder;", Cond.methodLink RX5 264 yX3_fits, Cond.instanceMethod yX3_fits, Cond.selects RX3 yX3_fits yX3_fits, Cond.initialized RX3, Cond.code yX3_fits cX3_fits 4 (some .boolean), Cond.fieldLink RX3 9 "LogSpooler$Rule" "isSet" "Z", Cond.fieldLink RX3 15 "LogSpooler$Rule" "facilities" "I", Cond.fieldLink RX3 19 "LogSpooler$Rule" "severity" "I"]
def wsX5_message_r4 : List Cond := [Cond.fieldLink RX3 22 "LogSpooler$Rule" "sender" "I", Cond.methodLink RX5 267 yX2_add, Cond.instanceMethod yX2_add, Cond.selects RX2 yX2_add yX2_add, Cond.initialized RX2, Cond.code yX2_add cX2_add 4 none, Cond.fieldLink RX2 34 "LogSpooler$LogFile" "sumOfLengths" "I", Cond.fieldLink RX2 22 "LogSpooler$LogFile" "greatestSize" "I", Cond.fieldLink RX2 31 "LogSpooler$LogFile" "firstCame" "I", Cond.fieldLink RX2 18 "LogSpooler$LogFile" "end" "I", Cond.fieldLink RX2 9 "LogSpooler$LogFile" "row" "[I", Cond.methodLink RX2 43 yX2_isEmpty, Cond.instanceMethod yX2_isEmpty, Cond.selects RX2 yX2_isEmpty yX2_isEmpty, Cond.code yX2_isEmpty cX2_isEmpty 1 (some .boolean), Cond.fieldLink RX2 15 "LogSpooler$LogFile" "starts" "[I", Cond.methodLink RX2 47 yX2_turnOver, Cond.instanceMethod yX2_turnOver, Cond.selects RX2 yX2_turnOver yX2_turnOver, Cond.code yX2_turnOver cX2_turnOver 2 none, Cond.fieldLink RX2 40 "LogSpooler$LogFile" "rotations" "I", Cond.fieldLink RX2 37 "LogSpooler$LogFile" "olderOnes" "I", Cond.fieldLink RX2 28 "LogSpooler$LogFile" "kept" "I", Cond.methodLink RX5 270 yX0_take]
def wsX5_message_r5 : List Cond := [Cond.instanceMethod yX0_take, Cond.selects RX0 yX0_take yX0_take, Cond.initialized RX0, Cond.code yX0_take cX0_take 2 none, Cond.fieldLink RX0 15 "LogSpooler$Forwarder" "end" "I", Cond.fieldLink RX0 22 "LogSpooler$Forwarder" "acknowledgedOnes" "I", Cond.fieldLink RX0 9 "LogSpooler$Forwarder" "row" "[I", Cond.fieldLink RX0 25 "LogSpooler$Forwarder" "lostOnes" "I", Cond.methodLink RX5 148 yX5_tellDrops, Cond.instanceMethod yX5_tellDrops, Cond.selects RX5 yX5_tellDrops yX5_tellDrops, Cond.code yX5_tellDrops cX5_tellDrops 3 none, Cond.constant RX5 260 (100000), Cond.methodLink RX5 151 yX4_setLast, Cond.instanceMethod yX4_setLast, Cond.selects RX4 yX4_setLast yX4_setLast, Cond.code yX4_setLast cX4_setLast 5 none]
def wsX5_message : List Cond := .code yX5_message cX5_message 8 (some .int) :: ((wsX5_message_r1 ++ (wsX5_message_r2 ++ (wsX5_message_r3 ++ (wsX5_message_r4 ++ wsX5_message_r5)))) ++ wsX50 ++ wsX40 ++ wsX10 ++ wsX30 ++ wsX20 ++ wsX00 ++ (vx_atS RX5 67 "java/lang/IllegalArgumentException" ["java/lang/RuntimeException", "java/lang/Exception"]).filter goodWord ++ (vx_atS RX5 126 "java/lang/IllegalStateException" ["java/lang/RuntimeException", "java/lang/Exception"]).filter goodWord ++ (vx_atS RX5 84 "java/lang/IndexOutOfBoundsException" ["java/lang/RuntimeException", "java/lang/Exception"]).filter goodWord)
def wsX5_rotationsOfAllFiles : List Cond := .code yX5_rotationsOfAllFiles cX5_rotationsOfAllFiles 3 (some .int) :: ([.fieldLink RX5 23 "LogSpooler" "files" "[LLogSpooler$LogFile;", .fieldLink RX5 295 "LogSpooler$LogFile" "rotations" "I"] ++ wsX50 ++ wsX20)
def wsX5_giveTokens : List Cond := .code yX5_giveTokens cX5_giveTokens 2 none :: ([.fieldLink RX5 11 "LogSpooler" "senders" "[LLogSpooler$Sender;", .fieldLink RX5 45 "LogSpooler" "burst" "I", .methodLink RX5 282 yX4_gainToken, .instanceMethod yX4_gainToken, .selects RX4 yX4_gainToken yX4_gainToken, .initialized RX4, .code yX4_gainToken cX4_gainToken 2 none, .fieldLink RX4 36 "LogSpooler$Sender" "tokensLeft" "I"] ++ wsX50 ++ wsX40)
def wsX5_firstWithDueRepeats : List Cond := .code yX5_firstWithDueRepeats cX5_firstWithDueRepeats 5 (some (.object "LogSpooler$Sender")) :: ([.fieldLink RX5 11 "LogSpooler" "senders" "[LLogSpooler$Sender;", .fieldLink RX5 207 "LogSpooler$Sender" "untoldRepeats" "I", .fieldLink RX5 41 "LogSpooler" "now" "I", .fieldLink RX5 289 "LogSpooler$Sender" "firstRepeat" "I", .fieldLink RX5 51 "LogSpooler" "foldTime" "I"] ++ wsX50 ++ wsX40)
def wsX5_tellDueRepeats_r1 : List Cond := [Cond.methodLink RX5 285 yX5_firstWithDueRepeats, Cond.instanceMethod yX5_firstWithDueRepeats, Cond.selects RX5 yX5_firstWithDueRepeats yX5_firstWithDueRepeats, Cond.initialized RX5, Cond.code yX5_firstWithDueRepeats cX5_firstWithDueRepeats 5 (some (.object "LogSpooler$Sender")), Cond.fieldLink RX5 11 "LogSpooler" "senders" "[LLogSpooler$Sender;", Cond.fieldLink RX5 207 "LogSpooler$Sender" "untoldRepeats" "I", Cond.fieldLink RX5 41 "LogSpooler" "now" "I", Cond.fieldLink RX5 289 "LogSpooler$Sender" "firstRepeat" "I", Cond.fieldLink RX5 51 "LogSpooler" "foldTime" "I", Cond.methodLink RX5 138 yX5_tellRepeats, Cond.instanceMethod yX5_tellRepeats, Cond.selects RX5 yX5_tellRepeats yX5_tellRepeats, Cond.code yX5_tellRepeats cX5_tellRepeats 3 none, Cond.fieldLink RX5 251 "LogSpooler$Sender" "number" "I", Cond.fieldLink RX5 254 "LogSpooler$Sender" "lastFacility" "I", Cond.fieldLink RX5 257 "LogSpooler$Sender" "lastSeverity" "I", Cond.methodLink RX5 157 yX5_route, Cond.instanceMethod yX5_route, Cond.selects RX5 yX5_route yX5_route, Cond.code yX5_route cX5_route 10 (some .int), Cond.fieldLink RX5 17 "LogSpooler" "rules" "[LLogSpooler$Rule;", Cond.fieldLink RX5 261 "LogSpooler$Rule" "target" "I", Cond.fieldLink RX5 23 "LogSpooler" "files" "[LLogSpooler$LogFile;"]
def wsX5_tellDueRepeats_r2 : List Cond := [Cond.fieldLink RX5 30 "LogSpooler" "forwarder" "LLogSpooler$Forwarder;", Cond.methodLink RX5 264 yX3_fits, Cond.instanceMethod yX3_fits, Cond.selects RX3 yX3_fits yX3_fits, Cond.initialized RX3, Cond.code yX3_fits cX3_fits 4 (some .boolean), Cond.fieldLink RX3 9 "LogSpooler$Rule" "isSet" "Z", Cond.fieldLink RX3 15 "LogSpooler$Rule" "facilities" "I", Cond.fieldLink RX3 19 "LogSpooler$Rule" "severity" "I", Cond.fieldLink RX3 22 "LogSpooler$Rule" "sender" "I", Cond.methodLink RX5 267 yX2_add, Cond.instanceMethod yX2_add, Cond.selects RX2 yX2_add yX2_add, Cond.initialized RX2, Cond.code yX2_add cX2_add 4 none, Cond.fieldLink RX2 34 "LogSpooler$LogFile" "sumOfLengths" "I", Cond.fieldLink RX2 22 "LogSpooler$LogFile" "greatestSize" "I", Cond.fieldLink RX2 31 "LogSpooler$LogFile" "firstCame" "I", Cond.fieldLink RX2 18 "LogSpooler$LogFile" "end" "I", Cond.fieldLink RX2 9 "LogSpooler$LogFile" "row" "[I", Cond.methodLink RX2 43 yX2_isEmpty, Cond.instanceMethod yX2_isEmpty, Cond.selects RX2 yX2_isEmpty yX2_isEmpty, Cond.code yX2_isEmpty cX2_isEmpty 1 (some .boolean)]
def wsX5_tellDueRepeats_r3 : List Cond := [Cond.fieldLink RX2 15 "LogSpooler$LogFile" "starts" "[I", Cond.methodLink RX2 47 yX2_turnOver, Cond.instanceMethod yX2_turnOver, Cond.selects RX2 yX2_turnOver yX2_turnOver, Cond.code yX2_turnOver cX2_turnOver 2 none, Cond.fieldLink RX2 40 "LogSpooler$LogFile" "rotations" "I", Cond.fieldLink RX2 37 "LogSpooler$LogFile" "olderOnes" "I", Cond.fieldLink RX2 28 "LogSpooler$LogFile" "kept" "I", Cond.methodLink RX5 270 yX0_take, Cond.instanceMethod yX0_take, Cond.selects RX0 yX0_take yX0_take, Cond.initialized RX0, Cond.code yX0_take cX0_take 2 none, Cond.fieldLink RX0 15 "LogSpooler$Forwarder" "end" "I", Cond.fieldLink RX0 22 "LogSpooler$Forwarder" "acknowledgedOnes" "I", Cond.fieldLink RX0 9 "LogSpooler$Forwarder" "row" "[I", Cond.fieldLink RX0 25 "LogSpooler$Forwarder" "lostOnes" "I"]
def wsX5_tellDueRepeats : List Cond := .code yX5_tellDueRepeats cX5_tellDueRepeats 3 none :: ((wsX5_tellDueRepeats_r1 ++ (wsX5_tellDueRepeats_r2 ++ wsX5_tellDueRepeats_r3)) ++ wsX50 ++ wsX40 ++ wsX30 ++ wsX20 ++ wsX00)
def wsX5_rotateAgedFiles : List Cond := .code yX5_rotateAgedFiles cX5_rotateAgedFiles 2 none :: ([.fieldLink RX5 23 "LogSpooler" "files" "[LLogSpooler$LogFile;", .fieldLink RX5 41 "LogSpooler" "now" "I", .methodLink RX5 292 yX2_isAged, .instanceMethod yX2_isAged, .selects RX2 yX2_isAged yX2_isAged, .initialized RX2, .code yX2_isAged cX2_isAged 2 (some .boolean), .fieldLink RX2 25 "LogSpooler$LogFile" "age" "I", .fieldLink RX2 31 "LogSpooler$LogFile" "firstCame" "I", .methodLink RX2 43 yX2_isEmpty, .instanceMethod yX2_isEmpty, .selects RX2 yX2_isEmpty yX2_isEmpty, .code yX2_isEmpty cX2_isEmpty 1 (some .boolean), .fieldLink RX2 18 "LogSpooler$LogFile" "end" "I", .fieldLink RX2 15 "LogSpooler$LogFile" "starts" "[I", .methodLink RX5 172 yX2_turnOver, .instanceMethod yX2_turnOver, .selects RX2 yX2_turnOver yX2_turnOver, .code yX2_turnOver cX2_turnOver 2 none, .fieldLink RX2 34 "LogSpooler$LogFile" "sumOfLengths" "I", .fieldLink RX2 40 "LogSpooler$LogFile" "rotations" "I", .fieldLink RX2 37 "LogSpooler$LogFile" "olderOnes" "I", .fieldLink RX2 28 "LogSpooler$LogFile" "kept" "I"] ++ wsX50 ++ wsX20)
def wsX5_passOneSecond_r1 : List Cond := [Cond.fieldLink RX5 41 "LogSpooler" "now" "I", Cond.fieldLink RX5 48 "LogSpooler" "tokenTime" "I", Cond.methodLink RX5 273 yX5_giveTokens, Cond.instanceMethod yX5_giveTokens, Cond.selects RX5 yX5_giveTokens yX5_giveTokens, Cond.initialized RX5, Cond.code yX5_giveTokens cX5_giveTokens 2 none, Cond.fieldLink RX5 11 "LogSpooler" "senders" "[LLogSpooler$Sender;", Cond.fieldLink RX5 45 "LogSpooler" "burst" "I", Cond.methodLink RX5 282 yX4_gainToken, Cond.instanceMethod yX4_gainToken, Cond.selects RX4 yX4_gainToken yX4_gainToken, Cond.initialized RX4, Cond.code yX4_gainToken cX4_gainToken 2 none, Cond.fieldLink RX4 36 "LogSpooler$Sender" "tokensLeft" "I", Cond.methodLink RX5 276 yX5_tellDueRepeats, Cond.instanceMethod yX5_tellDueRepeats, Cond.selects RX5 yX5_tellDueRepeats yX5_tellDueRepeats, Cond.code yX5_tellDueRepeats cX5_tellDueRepeats 3 none, Cond.methodLink RX5 285 yX5_firstWithDueRepeats, Cond.instanceMethod yX5_firstWithDueRepeats, Cond.selects RX5 yX5_firstWithDueRepeats yX5_firstWithDueRepeats, Cond.code yX5_firstWithDueRepeats cX5_firstWithDueRepeats 5 (some (.object "LogSpooler$Sender")), Cond.fieldLink RX5 207 "LogSpooler$Sender" "untoldRepeats" "I"]
def wsX5_passOneSecond_r2 : List Cond := [Cond.fieldLink RX5 289 "LogSpooler$Sender" "firstRepeat" "I", Cond.fieldLink RX5 51 "LogSpooler" "foldTime" "I", Cond.methodLink RX5 138 yX5_tellRepeats, Cond.instanceMethod yX5_tellRepeats, Cond.selects RX5 yX5_tellRepeats yX5_tellRepeats, Cond.code yX5_tellRepeats cX5_tellRepeats 3 none, Cond.fieldLink RX5 251 "LogSpooler$Sender" "number" "I", Cond.fieldLink RX5 254 "LogSpooler$Sender" "lastFacility" "I", Cond.fieldLink RX5 257 "LogSpooler$Sender" "lastSeverity" "I", Cond.methodLink RX5 157 yX5_route, Cond.instanceMethod yX5_route, Cond.selects RX5 yX5_route yX5_route, Cond.code yX5_route cX5_route 10 (some .int), Cond.fieldLink RX5 17 "LogSpooler" "rules" "[LLogSpooler$Rule;", Cond.fieldLink RX5 261 "LogSpooler$Rule" "target" "I", Cond.fieldLink RX5 23 "LogSpooler" "files" "[LLogSpooler$LogFile;", Cond.fieldLink RX5 30 "LogSpooler" "forwarder" "LLogSpooler$Forwarder;", Cond.methodLink RX5 264 yX3_fits, Cond.instanceMethod yX3_fits, Cond.selects RX3 yX3_fits yX3_fits, Cond.initialized RX3, Cond.code yX3_fits cX3_fits 4 (some .boolean), Cond.fieldLink RX3 9 "LogSpooler$Rule" "isSet" "Z", Cond.fieldLink RX3 15 "LogSpooler$Rule" "facilities" "I"]
def wsX5_passOneSecond_r3 : List Cond := [Cond.fieldLink RX3 19 "LogSpooler$Rule" "severity" "I", Cond.fieldLink RX3 22 "LogSpooler$Rule" "sender" "I", Cond.methodLink RX5 267 yX2_add, Cond.instanceMethod yX2_add, Cond.selects RX2 yX2_add yX2_add, Cond.initialized RX2, Cond.code yX2_add cX2_add 4 none, Cond.fieldLink RX2 34 "LogSpooler$LogFile" "sumOfLengths" "I", Cond.fieldLink RX2 22 "LogSpooler$LogFile" "greatestSize" "I", Cond.fieldLink RX2 31 "LogSpooler$LogFile" "firstCame" "I", Cond.fieldLink RX2 18 "LogSpooler$LogFile" "end" "I", Cond.fieldLink RX2 9 "LogSpooler$LogFile" "row" "[I", Cond.methodLink RX2 43 yX2_isEmpty, Cond.instanceMethod yX2_isEmpty, Cond.selects RX2 yX2_isEmpty yX2_isEmpty, Cond.code yX2_isEmpty cX2_isEmpty 1 (some .boolean), Cond.fieldLink RX2 15 "LogSpooler$LogFile" "starts" "[I", Cond.methodLink RX2 47 yX2_turnOver, Cond.instanceMethod yX2_turnOver, Cond.selects RX2 yX2_turnOver yX2_turnOver, Cond.code yX2_turnOver cX2_turnOver 2 none, Cond.fieldLink RX2 40 "LogSpooler$LogFile" "rotations" "I", Cond.fieldLink RX2 37 "LogSpooler$LogFile" "olderOnes" "I", Cond.fieldLink RX2 28 "LogSpooler$LogFile" "kept" "I"]
def wsX5_passOneSecond_r4 : List Cond := [Cond.methodLink RX5 270 yX0_take, Cond.instanceMethod yX0_take, Cond.selects RX0 yX0_take yX0_take, Cond.initialized RX0, Cond.code yX0_take cX0_take 2 none, Cond.fieldLink RX0 15 "LogSpooler$Forwarder" "end" "I", Cond.fieldLink RX0 22 "LogSpooler$Forwarder" "acknowledgedOnes" "I", Cond.fieldLink RX0 9 "LogSpooler$Forwarder" "row" "[I", Cond.fieldLink RX0 25 "LogSpooler$Forwarder" "lostOnes" "I", Cond.methodLink RX5 279 yX5_rotateAgedFiles, Cond.instanceMethod yX5_rotateAgedFiles, Cond.selects RX5 yX5_rotateAgedFiles yX5_rotateAgedFiles, Cond.code yX5_rotateAgedFiles cX5_rotateAgedFiles 2 none, Cond.methodLink RX5 292 yX2_isAged, Cond.instanceMethod yX2_isAged, Cond.selects RX2 yX2_isAged yX2_isAged, Cond.code yX2_isAged cX2_isAged 2 (some .boolean), Cond.fieldLink RX2 25 "LogSpooler$LogFile" "age" "I", Cond.methodLink RX5 172 yX2_turnOver]
def wsX5_passOneSecond : List Cond := .code yX5_passOneSecond cX5_passOneSecond 1 none :: ((wsX5_passOneSecond_r1 ++ (wsX5_passOneSecond_r2 ++ (wsX5_passOneSecond_r3 ++ wsX5_passOneSecond_r4))) ++ wsX50 ++ wsX40 ++ wsX30 ++ wsX20 ++ wsX00)
def wsX5_pass_r1 : List Cond := [Cond.classLink RX5 63 "java/lang/IllegalArgumentException", Cond.initialized "java/lang/IllegalArgumentException", Cond.methodLink RX5 59 yX5_isWithin, Cond.static yX5_isWithin, Cond.initialized RX5, Cond.code yX5_isWithin cX5_isWithin 3 (some .boolean), Cond.methodLink RX5 161 yX5_rotationsOfAllFiles, Cond.instanceMethod yX5_rotationsOfAllFiles, Cond.selects RX5 yX5_rotationsOfAllFiles yX5_rotationsOfAllFiles, Cond.code yX5_rotationsOfAllFiles cX5_rotationsOfAllFiles 3 (some .int), Cond.fieldLink RX5 23 "LogSpooler" "files" "[LLogSpooler$LogFile;", Cond.fieldLink RX5 295 "LogSpooler$LogFile" "rotations" "I", Cond.methodLink RX5 164 yX5_passOneSecond, Cond.instanceMethod yX5_passOneSecond, Cond.selects RX5 yX5_passOneSecond yX5_passOneSecond, Cond.code yX5_passOneSecond cX5_passOneSecond 1 none, Cond.fieldLink RX5 41 "LogSpooler" "now" "I", Cond.fieldLink RX5 48 "LogSpooler" "tokenTime" "I", Cond.methodLink RX5 273 yX5_giveTokens, Cond.instanceMethod yX5_giveTokens, Cond.selects RX5 yX5_giveTokens yX5_giveTokens, Cond.code yX5_giveTokens cX5_giveTokens 2 none, Cond.fieldLink RX5 11 "LogSpooler" "senders" "[LLogSpooler$Sender;", Cond.fieldLink RX5 45 "LogSpooler" "burst" "I"]
def wsX5_pass_r2 : List Cond := [Cond.methodLink RX5 282 yX4_gainToken, Cond.instanceMethod yX4_gainToken, Cond.selects RX4 yX4_gainToken yX4_gainToken, Cond.initialized RX4, Cond.code yX4_gainToken cX4_gainToken 2 none, Cond.fieldLink RX4 36 "LogSpooler$Sender" "tokensLeft" "I", Cond.methodLink RX5 276 yX5_tellDueRepeats, Cond.instanceMethod yX5_tellDueRepeats, Cond.selects RX5 yX5_tellDueRepeats yX5_tellDueRepeats, Cond.code yX5_tellDueRepeats cX5_tellDueRepeats 3 none, Cond.methodLink RX5 285 yX5_firstWithDueRepeats, Cond.instanceMethod yX5_firstWithDueRepeats, Cond.selects RX5 yX5_firstWithDueRepeats yX5_firstWithDueRepeats, Cond.code yX5_firstWithDueRepeats cX5_firstWithDueRepeats 5 (some (.object "LogSpooler$Sender")), Cond.fieldLink RX5 207 "LogSpooler$Sender" "untoldRepeats" "I", Cond.fieldLink RX5 289 "LogSpooler$Sender" "firstRepeat" "I", Cond.fieldLink RX5 51 "LogSpooler" "foldTime" "I", Cond.methodLink RX5 138 yX5_tellRepeats, Cond.instanceMethod yX5_tellRepeats, Cond.selects RX5 yX5_tellRepeats yX5_tellRepeats, Cond.code yX5_tellRepeats cX5_tellRepeats 3 none, Cond.fieldLink RX5 251 "LogSpooler$Sender" "number" "I", Cond.fieldLink RX5 254 "LogSpooler$Sender" "lastFacility" "I", Cond.fieldLink RX5 257 "LogSpooler$Sender" "lastSeverity" "I"]
def wsX5_pass_r3 : List Cond := [Cond.methodLink RX5 157 yX5_route, Cond.instanceMethod yX5_route, Cond.selects RX5 yX5_route yX5_route, Cond.code yX5_route cX5_route 10 (some .int), Cond.fieldLink RX5 17 "LogSpooler" "rules" "[LLogSpooler$Rule;", Cond.fieldLink RX5 261 "LogSpooler$Rule" "target" "I", Cond.fieldLink RX5 30 "LogSpooler" "forwarder" "LLogSpooler$Forwarder;", Cond.methodLink RX5 264 yX3_fits, Cond.instanceMethod yX3_fits, Cond.selects RX3 yX3_fits yX3_fits, Cond.initialized RX3, Cond.code yX3_fits cX3_fits 4 (some .boolean), Cond.fieldLink RX3 9 "LogSpooler$Rule" "isSet" "Z", Cond.fieldLink RX3 15 "LogSpooler$Rule" "facilities" "I", Cond.fieldLink RX3 19 "LogSpooler$Rule" "severity" "I", Cond.fieldLink RX3 22 "LogSpooler$Rule" "sender" "I", Cond.methodLink RX5 267 yX2_add, Cond.instanceMethod yX2_add, Cond.selects RX2 yX2_add yX2_add, Cond.initialized RX2, Cond.code yX2_add cX2_add 4 none, Cond.fieldLink RX2 34 "LogSpooler$LogFile" "sumOfLengths" "I", Cond.fieldLink RX2 22 "LogSpooler$LogFile" "greatestSize" "I", Cond.fieldLink RX2 31 "LogSpooler$LogFile" "firstCame" "I"]
def wsX5_pass_r4 : List Cond := [Cond.fieldLink RX2 18 "LogSpooler$LogFile" "end" "I", Cond.fieldLink RX2 9 "LogSpooler$LogFile" "row" "[I", Cond.methodLink RX2 43 yX2_isEmpty, Cond.instanceMethod yX2_isEmpty, Cond.selects RX2 yX2_isEmpty yX2_isEmpty, Cond.code yX2_isEmpty cX2_isEmpty 1 (some .boolean), Cond.fieldLink RX2 15 "LogSpooler$LogFile" "starts" "[I", Cond.methodLink RX2 47 yX2_turnOver, Cond.instanceMethod yX2_turnOver, Cond.selects RX2 yX2_turnOver yX2_turnOver, Cond.code yX2_turnOver cX2_turnOver 2 none, Cond.fieldLink RX2 40 "LogSpooler$LogFile" "rotations" "I", Cond.fieldLink RX2 37 "LogSpooler$LogFile" "olderOnes" "I", Cond.fieldLink RX2 28 "LogSpooler$LogFile" "kept" "I", Cond.methodLink RX5 270 yX0_take, Cond.instanceMethod yX0_take, Cond.selects RX0 yX0_take yX0_take, Cond.initialized RX0, Cond.code yX0_take cX0_take 2 none, Cond.fieldLink RX0 15 "LogSpooler$Forwarder" "end" "I", Cond.fieldLink RX0 22 "LogSpooler$Forwarder" "acknowledgedOnes" "I", Cond.fieldLink RX0 9 "LogSpooler$Forwarder" "row" "[I", Cond.fieldLink RX0 25 "LogSpooler$Forwarder" "lostOnes" "I", Cond.methodLink RX5 279 yX5_rotateAgedFiles]
def wsX5_pass_r5 : List Cond := [Cond.instanceMethod yX5_rotateAgedFiles, Cond.selects RX5 yX5_rotateAgedFiles yX5_rotateAgedFiles, Cond.code yX5_rotateAgedFiles cX5_rotateAgedFiles 2 none, Cond.methodLink RX5 292 yX2_isAged, Cond.instanceMethod yX2_isAged, Cond.selects RX2 yX2_isAged yX2_isAged, Cond.code yX2_isAged cX2_isAged 2 (some .boolean), Cond.fieldLink RX2 25 "LogSpooler$LogFile" "age" "I", Cond.methodLink RX5 172 yX2_turnOver]
def wsX5_pass : List Cond := .code yX5_pass cX5_pass 4 (some .int) :: ((wsX5_pass_r1 ++ (wsX5_pass_r2 ++ (wsX5_pass_r3 ++ (wsX5_pass_r4 ++ wsX5_pass_r5)))) ++ wsX50 ++ wsX20 ++ wsX40 ++ wsX30 ++ wsX00 ++ (vx_atS RX5 67 "java/lang/IllegalArgumentException" ["java/lang/RuntimeException", "java/lang/Exception"]).filter goodWord)
def wsX5_rotate_r1 : List Cond := [Cond.classLink RX5 122 "java/lang/IllegalStateException", Cond.initialized "java/lang/IllegalStateException", Cond.fieldLink RX5 175 "LogSpooler$LogFile" "olderOnes" "I", Cond.methodLink RX5 99 yX5_fileAt, Cond.instanceMethod yX5_fileAt, Cond.selects RX5 yX5_fileAt yX5_fileAt, Cond.initialized RX5, Cond.code yX5_fileAt cX5_fileAt 2 (some (.object "LogSpooler$LogFile")), Cond.classLink RX5 80 "java/lang/IndexOutOfBoundsException", Cond.initialized "java/lang/IndexOutOfBoundsException", Cond.fieldLink RX5 23 "LogSpooler" "files" "[LLogSpooler$LogFile;", Cond.methodLink RX5 167 yX2_isEmpty, Cond.instanceMethod yX2_isEmpty, Cond.selects RX2 yX2_isEmpty yX2_isEmpty, Cond.initialized RX2, Cond.code yX2_isEmpty cX2_isEmpty 1 (some .boolean), Cond.fieldLink RX2 18 "LogSpooler$LogFile" "end" "I", Cond.fieldLink RX2 15 "LogSpooler$LogFile" "starts" "[I", Cond.methodLink RX5 172 yX2_turnOver, Cond.instanceMethod yX2_turnOver, Cond.selects RX2 yX2_turnOver yX2_turnOver, Cond.code yX2_turnOver cX2_turnOver 2 none, Cond.fieldLink RX2 34 "LogSpooler$LogFile" "sumOfLengths" "I", Cond.fieldLink RX2 40 "LogSpooler$LogFile" "rotations" "I"]
def wsX5_rotate_r2 : List Cond := [Cond.fieldLink RX2 37 "LogSpooler$LogFile" "olderOnes" "I", Cond.fieldLink RX2 28 "LogSpooler$LogFile" "kept" "I"]
def wsX5_rotate : List Cond := .code yX5_rotate cX5_rotate 3 (some .int) :: ((wsX5_rotate_r1 ++ wsX5_rotate_r2) ++ wsX20 ++ wsX50 ++ (vx_atS RX5 126 "java/lang/IllegalStateException" ["java/lang/RuntimeException", "java/lang/Exception"]).filter goodWord ++ (vx_atS RX5 84 "java/lang/IndexOutOfBoundsException" ["java/lang/RuntimeException", "java/lang/Exception"]).filter goodWord)
def wsX5_connect : List Cond := .code yX5_connect cX5_connect 1 (some .int) :: ([.classLink RX5 122 "java/lang/IllegalStateException", .initialized "java/lang/IllegalStateException", .fieldLink RX5 30 "LogSpooler" "forwarder" "LLogSpooler$Forwarder;", .fieldLink RX5 178 "LogSpooler$Forwarder" "isConnected" "Z", .methodLink RX5 183 yX0_waiting, .instanceMethod yX0_waiting, .selects RX0 yX0_waiting yX0_waiting, .initialized RX0, .code yX0_waiting cX0_waiting 1 (some .int), .fieldLink RX0 15 "LogSpooler$Forwarder" "end" "I", .fieldLink RX0 19 "LogSpooler$Forwarder" "firstQueued" "I"] ++ wsX50 ++ wsX00 ++ (vx_atS RX5 126 "java/lang/IllegalStateException" ["java/lang/RuntimeException", "java/lang/Exception"]).filter goodWord)
def wsX5_disconnect : List Cond := .code yX5_disconnect cX5_disconnect 2 (some .int) :: ([.classLink RX5 122 "java/lang/IllegalStateException", .initialized "java/lang/IllegalStateException", .fieldLink RX5 30 "LogSpooler" "forwarder" "LLogSpooler$Forwarder;", .fieldLink RX5 178 "LogSpooler$Forwarder" "isConnected" "Z", .methodLink RX5 188 yX0_flying, .instanceMethod yX0_flying, .selects RX0 yX0_flying yX0_flying, .initialized RX0, .code yX0_flying cX0_flying 1 (some .int), .fieldLink RX0 19 "LogSpooler$Forwarder" "firstQueued" "I", .fieldLink RX0 22 "LogSpooler$Forwarder" "acknowledgedOnes" "I", .methodLink RX5 191 yX0_loseConnection, .instanceMethod yX0_loseConnection, .selects RX0 yX0_loseConnection yX0_loseConnection, .code yX0_loseConnection cX0_loseConnection 1 none, .fieldLink RX0 28 "LogSpooler$Forwarder" "isConnected" "Z"] ++ wsX50 ++ wsX00 ++ (vx_atS RX5 126 "java/lang/IllegalStateException" ["java/lang/RuntimeException", "java/lang/Exception"]).filter goodWord)
def wsX5_send_r1 : List Cond := [Cond.classLink RX5 122 "java/lang/IllegalStateException", Cond.initialized "java/lang/IllegalStateException", Cond.fieldLink RX5 30 "LogSpooler" "forwarder" "LLogSpooler$Forwarder;", Cond.methodLink RX5 194 yX0_canSend, Cond.instanceMethod yX0_canSend, Cond.selects RX0 yX0_canSend yX0_canSend, Cond.initialized RX0, Cond.code yX0_canSend cX0_canSend 1 (some .boolean), Cond.fieldLink RX0 28 "LogSpooler$Forwarder" "isConnected" "Z", Cond.methodLink RX0 32 yX0_waiting, Cond.instanceMethod yX0_waiting, Cond.selects RX0 yX0_waiting yX0_waiting, Cond.code yX0_waiting cX0_waiting 1 (some .int), Cond.fieldLink RX0 15 "LogSpooler$Forwarder" "end" "I", Cond.fieldLink RX0 19 "LogSpooler$Forwarder" "firstQueued" "I", Cond.methodLink RX0 36 yX0_flying, Cond.instanceMethod yX0_flying, Cond.selects RX0 yX0_flying yX0_flying, Cond.code yX0_flying cX0_flying 1 (some .int), Cond.fieldLink RX0 22 "LogSpooler$Forwarder" "acknowledgedOnes" "I", Cond.methodLink RX5 199 yX0_sendFirst, Cond.instanceMethod yX0_sendFirst, Cond.selects RX0 yX0_sendFirst yX0_sendFirst, Cond.code yX0_sendFirst cX0_sendFirst 2 (some .int)]
def wsX5_send_r2 : List Cond := [Cond.methodLink RX0 39 yX0_lineAt, Cond.instanceMethod yX0_lineAt, Cond.selects RX0 yX0_lineAt yX0_lineAt, Cond.code yX0_lineAt cX0_lineAt 2 (some .int), Cond.fieldLink RX0 9 "LogSpooler$Forwarder" "row" "[I"]
def wsX5_send : List Cond := .code yX5_send cX5_send 1 (some .int) :: ((wsX5_send_r1 ++ wsX5_send_r2) ++ wsX50 ++ wsX00 ++ (vx_atS RX5 126 "java/lang/IllegalStateException" ["java/lang/RuntimeException", "java/lang/Exception"]).filter goodWord)
def wsX5_acknowledge : List Cond := .code yX5_acknowledge cX5_acknowledge 1 (some .int) :: ([.classLink RX5 122 "java/lang/IllegalStateException", .initialized "java/lang/IllegalStateException", .fieldLink RX5 30 "LogSpooler" "forwarder" "LLogSpooler$Forwarder;", .methodLink RX5 188 yX0_flying, .instanceMethod yX0_flying, .selects RX0 yX0_flying yX0_flying, .initialized RX0, .code yX0_flying cX0_flying 1 (some .int), .fieldLink RX0 19 "LogSpooler$Forwarder" "firstQueued" "I", .fieldLink RX0 22 "LogSpooler$Forwarder" "acknowledgedOnes" "I", .methodLink RX5 204 yX0_acknowledgeFirst, .instanceMethod yX0_acknowledgeFirst, .selects RX0 yX0_acknowledgeFirst yX0_acknowledgeFirst, .code yX0_acknowledgeFirst cX0_acknowledgeFirst 2 (some .int), .methodLink RX0 39 yX0_lineAt, .instanceMethod yX0_lineAt, .selects RX0 yX0_lineAt yX0_lineAt, .code yX0_lineAt cX0_lineAt 2 (some .int), .fieldLink RX0 9 "LogSpooler$Forwarder" "row" "[I"] ++ wsX50 ++ wsX00 ++ (vx_atS RX5 126 "java/lang/IllegalStateException" ["java/lang/RuntimeException", "java/lang/Exception"]).filter goodWord)
def wsX5_time : List Cond := .code yX5_time cX5_time 1 (some .int) :: ([.fieldLink RX5 41 "LogSpooler" "now" "I"] ++ wsX50)
def wsX5_tokens : List Cond := .code yX5_tokens cX5_tokens 2 (some .int) :: ([.fieldLink RX5 142 "LogSpooler$Sender" "tokensLeft" "I", .methodLink RX5 112 yX5_senderAt, .instanceMethod yX5_senderAt, .selects RX5 yX5_senderAt yX5_senderAt, .initialized RX5, .code yX5_senderAt cX5_senderAt 2 (some (.object "LogSpooler$Sender")), .classLink RX5 80 "java/lang/IndexOutOfBoundsException", .initialized "java/lang/IndexOutOfBoundsException", .fieldLink RX5 11 "LogSpooler" "senders" "[LLogSpooler$Sender;"] ++ wsX40 ++ wsX50 ++ (vx_atS RX5 84 "java/lang/IndexOutOfBoundsException" ["java/lang/RuntimeException", "java/lang/Exception"]).filter goodWord)
def wsX5_repeats : List Cond := .code yX5_repeats cX5_repeats 2 (some .int) :: ([.fieldLink RX5 207 "LogSpooler$Sender" "untoldRepeats" "I", .methodLink RX5 112 yX5_senderAt, .instanceMethod yX5_senderAt, .selects RX5 yX5_senderAt yX5_senderAt, .initialized RX5, .code yX5_senderAt cX5_senderAt 2 (some (.object "LogSpooler$Sender")), .classLink RX5 80 "java/lang/IndexOutOfBoundsException", .initialized "java/lang/IndexOutOfBoundsException", .fieldLink RX5 11 "LogSpooler" "senders" "[LLogSpooler$Sender;"] ++ wsX40 ++ wsX50 ++ (vx_atS RX5 84 "java/lang/IndexOutOfBoundsException" ["java/lang/RuntimeException", "java/lang/Exception"]).filter goodWord)
def wsX5_drops : List Cond := .code yX5_drops cX5_drops 2 (some .int) :: ([.fieldLink RX5 145 "LogSpooler$Sender" "untoldDrops" "I", .methodLink RX5 112 yX5_senderAt, .instanceMethod yX5_senderAt, .selects RX5 yX5_senderAt yX5_senderAt, .initialized RX5, .code yX5_senderAt cX5_senderAt 2 (some (.object "LogSpooler$Sender")), .classLink RX5 80 "java/lang/IndexOutOfBoundsException", .initialized "java/lang/IndexOutOfBoundsException", .fieldLink RX5 11 "LogSpooler" "senders" "[LLogSpooler$Sender;"] ++ wsX40 ++ wsX50 ++ (vx_atS RX5 84 "java/lang/IndexOutOfBoundsException" ["java/lang/RuntimeException", "java/lang/Exception"]).filter goodWord)
def wsX5_size : List Cond := .code yX5_size cX5_size 2 (some .int) :: ([.fieldLink RX5 109 "LogSpooler$LogFile" "sumOfLengths" "I", .methodLink RX5 99 yX5_fileAt, .instanceMethod yX5_fileAt, .selects RX5 yX5_fileAt yX5_fileAt, .initialized RX5, .code yX5_fileAt cX5_fileAt 2 (some (.object "LogSpooler$LogFile")), .classLink RX5 80 "java/lang/IndexOutOfBoundsException", .initialized "java/lang/IndexOutOfBoundsException", .fieldLink RX5 23 "LogSpooler" "files" "[LLogSpooler$LogFile;"] ++ wsX20 ++ wsX50 ++ (vx_atS RX5 84 "java/lang/IndexOutOfBoundsException" ["java/lang/RuntimeException", "java/lang/Exception"]).filter goodWord)
def wsX5_lines : List Cond := .code yX5_lines cX5_lines 4 (some .int) :: ([.classLink RX5 80 "java/lang/IndexOutOfBoundsException", .initialized "java/lang/IndexOutOfBoundsException", .methodLink RX5 99 yX5_fileAt, .instanceMethod yX5_fileAt, .selects RX5 yX5_fileAt yX5_fileAt, .initialized RX5, .code yX5_fileAt cX5_fileAt 2 (some (.object "LogSpooler$LogFile")), .fieldLink RX5 23 "LogSpooler" "files" "[LLogSpooler$LogFile;", .methodLink RX5 210 yX2_has, .instanceMethod yX2_has, .selects RX2 yX2_has yX2_has, .initialized RX2, .code yX2_has cX2_has 2 (some .boolean), .fieldLink RX2 37 "LogSpooler$LogFile" "olderOnes" "I", .methodLink RX5 216 yX2_linesOf, .instanceMethod yX2_linesOf, .selects RX2 yX2_linesOf yX2_linesOf, .code yX2_linesOf cX2_linesOf 3 (some .int), .fieldLink RX2 18 "LogSpooler$LogFile" "end" "I", .methodLink RX2 50 yX2_startOf, .instanceMethod yX2_startOf, .selects RX2 yX2_startOf yX2_startOf, .code yX2_startOf cX2_startOf 3 (some .int), .fieldLink RX2 15 "LogSpooler$LogFile" "starts" "[I"] ++ wsX50 ++ wsX20 ++ (vx_atS RX5 84 "java/lang/IndexOutOfBoundsException" ["java/lang/RuntimeException", "java/lang/Exception"]).filter goodWord)
def wsX5_line_r1 : List Cond := [Cond.classLink RX5 80 "java/lang/IndexOutOfBoundsException", Cond.initialized "java/lang/IndexOutOfBoundsException", Cond.methodLink RX5 99 yX5_fileAt, Cond.instanceMethod yX5_fileAt, Cond.selects RX5 yX5_fileAt yX5_fileAt, Cond.initialized RX5, Cond.code yX5_fileAt cX5_fileAt 2 (some (.object "LogSpooler$LogFile")), Cond.fieldLink RX5 23 "LogSpooler" "files" "[LLogSpooler$LogFile;", Cond.methodLink RX5 210 yX2_has, Cond.instanceMethod yX2_has, Cond.selects RX2 yX2_has yX2_has, Cond.initialized RX2, Cond.code yX2_has cX2_has 2 (some .boolean), Cond.fieldLink RX2 37 "LogSpooler$LogFile" "olderOnes" "I", Cond.methodLink RX5 216 yX2_linesOf, Cond.instanceMethod yX2_linesOf, Cond.selects RX2 yX2_linesOf yX2_linesOf, Cond.code yX2_linesOf cX2_linesOf 3 (some .int), Cond.fieldLink RX2 18 "LogSpooler$LogFile" "end" "I", Cond.methodLink RX2 50 yX2_startOf, Cond.instanceMethod yX2_startOf, Cond.selects RX2 yX2_startOf yX2_startOf, Cond.code yX2_startOf cX2_startOf 3 (some .int), Cond.fieldLink RX2 15 "LogSpooler$LogFile" "starts" "[I"]
def wsX5_line_r2 : List Cond := [Cond.methodLink RX5 59 yX5_isWithin, Cond.static yX5_isWithin, Cond.code yX5_isWithin cX5_isWithin 3 (some .boolean), Cond.methodLink RX5 222 yX2_lineAt, Cond.instanceMethod yX2_lineAt, Cond.selects RX2 yX2_lineAt yX2_lineAt, Cond.code yX2_lineAt cX2_lineAt 4 (some .int), Cond.fieldLink RX2 9 "LogSpooler$LogFile" "row" "[I"]
def wsX5_line : List Cond := .code yX5_line cX5_line 5 (some .int) :: ((wsX5_line_r1 ++ wsX5_line_r2) ++ wsX50 ++ wsX20 ++ (vx_atS RX5 84 "java/lang/IndexOutOfBoundsException" ["java/lang/RuntimeException", "java/lang/Exception"]).filter goodWord)
def wsX5_generations : List Cond := .code yX5_generations cX5_generations 2 (some .int) :: ([.fieldLink RX5 175 "LogSpooler$LogFile" "olderOnes" "I", .methodLink RX5 99 yX5_fileAt, .instanceMethod yX5_fileAt, .selects RX5 yX5_fileAt yX5_fileAt, .initialized RX5, .code yX5_fileAt cX5_fileAt 2 (some (.object "LogSpooler$LogFile")), .classLink RX5 80 "java/lang/IndexOutOfBoundsException", .initialized "java/lang/IndexOutOfBoundsException", .fieldLink RX5 23 "LogSpooler" "files" "[LLogSpooler$LogFile;"] ++ wsX20 ++ wsX50 ++ (vx_atS RX5 84 "java/lang/IndexOutOfBoundsException" ["java/lang/RuntimeException", "java/lang/Exception"]).filter goodWord)
def wsX5_queued : List Cond := .code yX5_queued cX5_queued 1 (some .int) :: ([.fieldLink RX5 30 "LogSpooler" "forwarder" "LLogSpooler$Forwarder;", .methodLink RX5 183 yX0_waiting, .instanceMethod yX0_waiting, .selects RX0 yX0_waiting yX0_waiting, .initialized RX0, .code yX0_waiting cX0_waiting 1 (some .int), .fieldLink RX0 15 "LogSpooler$Forwarder" "end" "I", .fieldLink RX0 19 "LogSpooler$Forwarder" "firstQueued" "I"] ++ wsX50 ++ wsX00)
def wsX5_inFlight : List Cond := .code yX5_inFlight cX5_inFlight 1 (some .int) :: ([.fieldLink RX5 30 "LogSpooler" "forwarder" "LLogSpooler$Forwarder;", .methodLink RX5 188 yX0_flying, .instanceMethod yX0_flying, .selects RX0 yX0_flying yX0_flying, .initialized RX0, .code yX0_flying cX0_flying 1 (some .int), .fieldLink RX0 19 "LogSpooler$Forwarder" "firstQueued" "I", .fieldLink RX0 22 "LogSpooler$Forwarder" "acknowledgedOnes" "I"] ++ wsX50 ++ wsX00)
def wsX5_acknowledged : List Cond := .code yX5_acknowledged cX5_acknowledged 1 (some .int) :: ([.fieldLink RX5 30 "LogSpooler" "forwarder" "LLogSpooler$Forwarder;", .fieldLink RX5 225 "LogSpooler$Forwarder" "acknowledgedOnes" "I"] ++ wsX50 ++ wsX00)
def wsX5_lost : List Cond := .code yX5_lost cX5_lost 1 (some .int) :: ([.fieldLink RX5 30 "LogSpooler" "forwarder" "LLogSpooler$Forwarder;", .fieldLink RX5 228 "LogSpooler$Forwarder" "lostOnes" "I"] ++ wsX50 ++ wsX00)
def wsX5_messages : List Cond := .code yX5_messages cX5_messages 1 (some .int) :: ([.fieldLink RX5 37 "LogSpooler" "ledger" "LLogSpooler$Ledger;", .fieldLink RX5 154 "LogSpooler$Ledger" "entries" "I"] ++ wsX50 ++ wsX10)
def wsX5_fateOf : List Cond := .code yX5_fateOf cX5_fateOf 2 (some .int) :: ([.classLink RX5 80 "java/lang/IndexOutOfBoundsException", .initialized "java/lang/IndexOutOfBoundsException", .fieldLink RX5 37 "LogSpooler" "ledger" "LLogSpooler$Ledger;", .methodLink RX5 231 yX1_has, .instanceMethod yX1_has, .selects RX1 yX1_has yX1_has, .initialized RX1, .code yX1_has cX1_has 2 (some .boolean), .fieldLink RX1 18 "LogSpooler$Ledger" "entries" "I", .methodLink RX5 234 yX1_fateAt, .instanceMethod yX1_fateAt, .selects RX1 yX1_fateAt yX1_fateAt, .code yX1_fateAt cX1_fateAt 2 (some .int), .fieldLink RX1 9 "LogSpooler$Ledger" "fates" "[I"] ++ wsX50 ++ wsX10 ++ (vx_atS RX5 84 "java/lang/IndexOutOfBoundsException" ["java/lang/RuntimeException", "java/lang/Exception"]).filter goodWord)
def wsX5_count : List Cond := .code yX5_count cX5_count 2 (some .int) :: ([.classLink RX5 80 "java/lang/IndexOutOfBoundsException", .initialized "java/lang/IndexOutOfBoundsException", .fieldLink RX5 37 "LogSpooler" "ledger" "LLogSpooler$Ledger;", .methodLink RX5 59 yX5_isWithin, .static yX5_isWithin, .initialized RX5, .code yX5_isWithin cX5_isWithin 3 (some .boolean), .methodLink RX5 239 yX1_entriesWith, .instanceMethod yX1_entriesWith, .selects RX1 yX1_entriesWith yX1_entriesWith, .initialized RX1, .code yX1_entriesWith cX1_entriesWith 4 (some .int), .fieldLink RX1 18 "LogSpooler$Ledger" "entries" "I", .fieldLink RX1 9 "LogSpooler$Ledger" "fates" "[I"] ++ wsX50 ++ wsX10 ++ (vx_atS RX5 84 "java/lang/IndexOutOfBoundsException" ["java/lang/RuntimeException", "java/lang/Exception"]).filter goodWord)
def wsX5_targetsOf : List Cond := .code yX5_targetsOf cX5_targetsOf 2 (some .int) :: ([.classLink RX5 80 "java/lang/IndexOutOfBoundsException", .initialized "java/lang/IndexOutOfBoundsException", .fieldLink RX5 37 "LogSpooler" "ledger" "LLogSpooler$Ledger;", .methodLink RX5 231 yX1_has, .instanceMethod yX1_has, .selects RX1 yX1_has yX1_has, .initialized RX1, .code yX1_has cX1_has 2 (some .boolean), .fieldLink RX1 18 "LogSpooler$Ledger" "entries" "I", .methodLink RX5 242 yX1_targetsAt, .instanceMethod yX1_targetsAt, .selects RX1 yX1_targetsAt yX1_targetsAt, .code yX1_targetsAt cX1_targetsAt 2 (some .int), .fieldLink RX1 15 "LogSpooler$Ledger" "targetSets" "[I"] ++ wsX50 ++ wsX10 ++ (vx_atS RX5 84 "java/lang/IndexOutOfBoundsException" ["java/lang/RuntimeException", "java/lang/Exception"]).filter goodWord)
def wsL_draw : List Cond := .code yL_draw cL_draw 2 (some .int) :: ([.constant RL 7 (2147483647), .constant RL 8 (104729), .constant RL 9 (65521)])
def wsL_passes_r1 : List Cond := [Cond.methodLink RL 53 yX5_pass, Cond.instanceMethod yX5_pass, Cond.selects RX5 yX5_pass yX5_pass, Cond.initialized RX5, Cond.code yX5_pass cX5_pass 4 (some .int), Cond.classLink RX5 63 "java/lang/IllegalArgumentException", Cond.initialized "java/lang/IllegalArgumentException", Cond.methodLink RX5 59 yX5_isWithin, Cond.static yX5_isWithin, Cond.code yX5_isWithin cX5_isWithin 3 (some .boolean), Cond.methodLink RX5 161 yX5_rotationsOfAllFiles, Cond.instanceMethod yX5_rotationsOfAllFiles, Cond.selects RX5 yX5_rotationsOfAllFiles yX5_rotationsOfAllFiles, Cond.code yX5_rotationsOfAllFiles cX5_rotationsOfAllFiles 3 (some .int), Cond.fieldLink RX5 23 "LogSpooler" "files" "[LLogSpooler$LogFile;", Cond.fieldLink RX5 295 "LogSpooler$LogFile" "rotations" "I", Cond.methodLink RX5 164 yX5_passOneSecond, Cond.instanceMethod yX5_passOneSecond, Cond.selects RX5 yX5_passOneSecond yX5_passOneSecond, Cond.code yX5_passOneSecond cX5_passOneSecond 1 none, Cond.fieldLink RX5 41 "LogSpooler" "now" "I", Cond.fieldLink RX5 48 "LogSpooler" "tokenTime" "I", Cond.methodLink RX5 273 yX5_giveTokens, Cond.instanceMethod yX5_giveTokens]
def wsL_passes_r2 : List Cond := [Cond.selects RX5 yX5_giveTokens yX5_giveTokens, Cond.code yX5_giveTokens cX5_giveTokens 2 none, Cond.fieldLink RX5 11 "LogSpooler" "senders" "[LLogSpooler$Sender;", Cond.fieldLink RX5 45 "LogSpooler" "burst" "I", Cond.methodLink RX5 282 yX4_gainToken, Cond.instanceMethod yX4_gainToken, Cond.selects RX4 yX4_gainToken yX4_gainToken, Cond.initialized RX4, Cond.code yX4_gainToken cX4_gainToken 2 none, Cond.fieldLink RX4 36 "LogSpooler$Sender" "tokensLeft" "I", Cond.methodLink RX5 276 yX5_tellDueRepeats, Cond.instanceMethod yX5_tellDueRepeats, Cond.selects RX5 yX5_tellDueRepeats yX5_tellDueRepeats, Cond.code yX5_tellDueRepeats cX5_tellDueRepeats 3 none, Cond.methodLink RX5 285 yX5_firstWithDueRepeats, Cond.instanceMethod yX5_firstWithDueRepeats, Cond.selects RX5 yX5_firstWithDueRepeats yX5_firstWithDueRepeats, Cond.code yX5_firstWithDueRepeats cX5_firstWithDueRepeats 5 (some (.object "LogSpooler$Sender")), Cond.fieldLink RX5 207 "LogSpooler$Sender" "untoldRepeats" "I", Cond.fieldLink RX5 289 "LogSpooler$Sender" "firstRepeat" "I", Cond.fieldLink RX5 51 "LogSpooler" "foldTime" "I", Cond.methodLink RX5 138 yX5_tellRepeats, Cond.instanceMethod yX5_tellRepeats, Cond.selects RX5 yX5_tellRepeats yX5_tellRepeats]
def wsL_passes_r3 : List Cond := [Cond.code yX5_tellRepeats cX5_tellRepeats 3 none, Cond.fieldLink RX5 251 "LogSpooler$Sender" "number" "I", Cond.fieldLink RX5 254 "LogSpooler$Sender" "lastFacility" "I", Cond.fieldLink RX5 257 "LogSpooler$Sender" "lastSeverity" "I", Cond.methodLink RX5 157 yX5_route, Cond.instanceMethod yX5_route, Cond.selects RX5 yX5_route yX5_route, Cond.code yX5_route cX5_route 10 (some .int), Cond.fieldLink RX5 17 "LogSpooler" "rules" "[LLogSpooler$Rule;", Cond.fieldLink RX5 261 "LogSpooler$Rule" "target" "I", Cond.fieldLink RX5 30 "LogSpooler" "forwarder" "LLogSpooler$Forwarder;", Cond.methodLink RX5 264 yX3_fits, Cond.instanceMethod yX3_fits, Cond.selects RX3 yX3_fits yX3_fits, Cond.initialized RX3, Cond.code yX3_fits cX3_fits 4 (some .boolean), Cond.fieldLink RX3 9 "LogSpooler$Rule" "isSet" "Z", Cond.fieldLink RX3 15 "LogSpooler$Rule" "facilities" "I", Cond.fieldLink RX3 19 "LogSpooler$Rule" "severity" "I", Cond.fieldLink RX3 22 "LogSpooler$Rule" "sender" "I", Cond.methodLink RX5 267 yX2_add, Cond.instanceMethod yX2_add, Cond.selects RX2 yX2_add yX2_add, Cond.initialized RX2]
def wsL_passes_r4 : List Cond := [Cond.code yX2_add cX2_add 4 none, Cond.fieldLink RX2 34 "LogSpooler$LogFile" "sumOfLengths" "I", Cond.fieldLink RX2 22 "LogSpooler$LogFile" "greatestSize" "I", Cond.fieldLink RX2 31 "LogSpooler$LogFile" "firstCame" "I", Cond.fieldLink RX2 18 "LogSpooler$LogFile" "end" "I", Cond.fieldLink RX2 9 "LogSpooler$LogFile" "row" "[I", Cond.methodLink RX2 43 yX2_isEmpty, Cond.instanceMethod yX2_isEmpty, Cond.selects RX2 yX2_isEmpty yX2_isEmpty, Cond.code yX2_isEmpty cX2_isEmpty 1 (some .boolean), Cond.fieldLink RX2 15 "LogSpooler$LogFile" "starts" "[I", Cond.methodLink RX2 47 yX2_turnOver, Cond.instanceMethod yX2_turnOver, Cond.selects RX2 yX2_turnOver yX2_turnOver, Cond.code yX2_turnOver cX2_turnOver 2 none, Cond.fieldLink RX2 40 "LogSpooler$LogFile" "rotations" "I", Cond.fieldLink RX2 37 "LogSpooler$LogFile" "olderOnes" "I", Cond.fieldLink RX2 28 "LogSpooler$LogFile" "kept" "I", Cond.methodLink RX5 270 yX0_take, Cond.instanceMethod yX0_take, Cond.selects RX0 yX0_take yX0_take, Cond.initialized RX0, Cond.code yX0_take cX0_take 2 none, Cond.fieldLink RX0 15 "LogSpooler$Forwarder" "end" "I"]
def wsL_passes_r5 : List Cond := [Cond.fieldLink RX0 22 "LogSpooler$Forwarder" "acknowledgedOnes" "I", Cond.fieldLink RX0 9 "LogSpooler$Forwarder" "row" "[I", Cond.fieldLink RX0 25 "LogSpooler$Forwarder" "lostOnes" "I", Cond.methodLink RX5 279 yX5_rotateAgedFiles, Cond.instanceMethod yX5_rotateAgedFiles, Cond.selects RX5 yX5_rotateAgedFiles yX5_rotateAgedFiles, Cond.code yX5_rotateAgedFiles cX5_rotateAgedFiles 2 none, Cond.methodLink RX5 292 yX2_isAged, Cond.instanceMethod yX2_isAged, Cond.selects RX2 yX2_isAged yX2_isAged, Cond.code yX2_isAged cX2_isAged 2 (some .boolean), Cond.fieldLink RX2 25 "LogSpooler$LogFile" "age" "I", Cond.methodLink RX5 172 yX2_turnOver, Cond.methodLink RL 56 yX5_time, Cond.instanceMethod yX5_time, Cond.selects RX5 yX5_time yX5_time, Cond.code yX5_time cX5_time 1 (some .int), Cond.methodLink RL 60 yX5_repeats, Cond.instanceMethod yX5_repeats, Cond.selects RX5 yX5_repeats yX5_repeats, Cond.code yX5_repeats cX5_repeats 2 (some .int), Cond.methodLink RX5 112 yX5_senderAt, Cond.instanceMethod yX5_senderAt, Cond.selects RX5 yX5_senderAt yX5_senderAt]
def wsL_passes_r6 : List Cond := [Cond.code yX5_senderAt cX5_senderAt 2 (some (.object "LogSpooler$Sender")), Cond.classLink RX5 80 "java/lang/IndexOutOfBoundsException", Cond.initialized "java/lang/IndexOutOfBoundsException", Cond.methodLink RL 63 yX5_tokens, Cond.instanceMethod yX5_tokens, Cond.selects RX5 yX5_tokens yX5_tokens, Cond.code yX5_tokens cX5_tokens 2 (some .int), Cond.fieldLink RX5 142 "LogSpooler$Sender" "tokensLeft" "I"]
def wsL_passes : List Cond := .code yL_passes cL_passes 5 (some .boolean) :: ((wsL_passes_r1 ++ (wsL_passes_r2 ++ (wsL_passes_r3 ++ (wsL_passes_r4 ++ (wsL_passes_r5 ++ wsL_passes_r6))))) ++ wsX50 ++ wsX20 ++ wsX40 ++ wsX30 ++ wsX00 ++ (vx_atS RX5 67 "java/lang/IllegalArgumentException" ["java/lang/RuntimeException", "java/lang/Exception"]).filter goodWord ++ (vx_atS RX5 84 "java/lang/IndexOutOfBoundsException" ["java/lang/RuntimeException", "java/lang/Exception"]).filter goodWord)
def wsL_forwards_r1 : List Cond := [Cond.methodLink RL 66 yX5_queued, Cond.instanceMethod yX5_queued, Cond.selects RX5 yX5_queued yX5_queued, Cond.initialized RX5, Cond.code yX5_queued cX5_queued 1 (some .int), Cond.fieldLink RX5 30 "LogSpooler" "forwarder" "LLogSpooler$Forwarder;", Cond.methodLink RX5 183 yX0_waiting, Cond.instanceMethod yX0_waiting, Cond.selects RX0 yX0_waiting yX0_waiting, Cond.initialized RX0, Cond.code yX0_waiting cX0_waiting 1 (some .int), Cond.fieldLink RX0 15 "LogSpooler$Forwarder" "end" "I", Cond.fieldLink RX0 19 "LogSpooler$Forwarder" "firstQueued" "I", Cond.methodLink RL 69 yX5_inFlight, Cond.instanceMethod yX5_inFlight, Cond.selects RX5 yX5_inFlight yX5_inFlight, Cond.code yX5_inFlight cX5_inFlight 1 (some .int), Cond.methodLink RX5 188 yX0_flying, Cond.instanceMethod yX0_flying, Cond.selects RX0 yX0_flying yX0_flying, Cond.code yX0_flying cX0_flying 1 (some .int), Cond.fieldLink RX0 22 "LogSpooler$Forwarder" "acknowledgedOnes" "I", Cond.methodLink RL 72 yX5_connect, Cond.instanceMethod yX5_connect]
def wsL_forwards_r2 : List Cond := [Cond.selects RX5 yX5_connect yX5_connect, Cond.code yX5_connect cX5_connect 1 (some .int), Cond.classLink RX5 122 "java/lang/IllegalStateException", Cond.initialized "java/lang/IllegalStateException", Cond.fieldLink RX5 178 "LogSpooler$Forwarder" "isConnected" "Z", Cond.methodLink RL 75 yX5_disconnect, Cond.instanceMethod yX5_disconnect, Cond.selects RX5 yX5_disconnect yX5_disconnect, Cond.code yX5_disconnect cX5_disconnect 2 (some .int), Cond.methodLink RX5 191 yX0_loseConnection, Cond.instanceMethod yX0_loseConnection, Cond.selects RX0 yX0_loseConnection yX0_loseConnection, Cond.code yX0_loseConnection cX0_loseConnection 1 none, Cond.fieldLink RX0 28 "LogSpooler$Forwarder" "isConnected" "Z", Cond.methodLink RL 78 yX5_acknowledged, Cond.instanceMethod yX5_acknowledged, Cond.selects RX5 yX5_acknowledged yX5_acknowledged, Cond.code yX5_acknowledged cX5_acknowledged 1 (some .int), Cond.fieldLink RX5 225 "LogSpooler$Forwarder" "acknowledgedOnes" "I", Cond.methodLink RL 81 yX5_acknowledge, Cond.instanceMethod yX5_acknowledge, Cond.selects RX5 yX5_acknowledge yX5_acknowledge, Cond.code yX5_acknowledge cX5_acknowledge 1 (some .int), Cond.methodLink RX5 204 yX0_acknowledgeFirst]
def wsL_forwards_r3 : List Cond := [Cond.instanceMethod yX0_acknowledgeFirst, Cond.selects RX0 yX0_acknowledgeFirst yX0_acknowledgeFirst, Cond.code yX0_acknowledgeFirst cX0_acknowledgeFirst 2 (some .int), Cond.methodLink RX0 39 yX0_lineAt, Cond.instanceMethod yX0_lineAt, Cond.selects RX0 yX0_lineAt yX0_lineAt, Cond.code yX0_lineAt cX0_lineAt 2 (some .int), Cond.fieldLink RX0 9 "LogSpooler$Forwarder" "row" "[I", Cond.methodLink RL 84 yX5_send, Cond.instanceMethod yX5_send, Cond.selects RX5 yX5_send yX5_send, Cond.code yX5_send cX5_send 1 (some .int), Cond.methodLink RX5 194 yX0_canSend, Cond.instanceMethod yX0_canSend, Cond.selects RX0 yX0_canSend yX0_canSend, Cond.code yX0_canSend cX0_canSend 1 (some .boolean), Cond.methodLink RX0 32 yX0_waiting, Cond.methodLink RX0 36 yX0_flying, Cond.methodLink RX5 199 yX0_sendFirst, Cond.instanceMethod yX0_sendFirst, Cond.selects RX0 yX0_sendFirst yX0_sendFirst, Cond.code yX0_sendFirst cX0_sendFirst 2 (some .int)]
def wsL_forwards : List Cond := .code yL_forwards cL_forwards 6 (some .boolean) :: ((wsL_forwards_r1 ++ (wsL_forwards_r2 ++ wsL_forwards_r3)) ++ wsX50 ++ wsX00 ++ (vx_atS RX5 126 "java/lang/IllegalStateException" ["java/lang/RuntimeException", "java/lang/Exception"]).filter goodWord)
def wsL_comes_r1 : List Cond := [Cond.methodLink RL 63 yX5_tokens, Cond.instanceMethod yX5_tokens, Cond.selects RX5 yX5_tokens yX5_tokens, Cond.initialized RX5, Cond.code yX5_tokens cX5_tokens 2 (some .int), Cond.fieldLink RX5 142 "LogSpooler$Sender" "tokensLeft" "I", Cond.methodLink RX5 112 yX5_senderAt, Cond.instanceMethod yX5_senderAt, Cond.selects RX5 yX5_senderAt yX5_senderAt, Cond.code yX5_senderAt cX5_senderAt 2 (some (.object "LogSpooler$Sender")), Cond.classLink RX5 80 "java/lang/IndexOutOfBoundsException", Cond.initialized "java/lang/IndexOutOfBoundsException", Cond.fieldLink RX5 11 "LogSpooler" "senders" "[LLogSpooler$Sender;", Cond.methodLink RL 60 yX5_repeats, Cond.instanceMethod yX5_repeats, Cond.selects RX5 yX5_repeats yX5_repeats, Cond.code yX5_repeats cX5_repeats 2 (some .int), Cond.fieldLink RX5 207 "LogSpooler$Sender" "untoldRepeats" "I", Cond.methodLink RL 87 yX5_drops, Cond.instanceMethod yX5_drops, Cond.selects RX5 yX5_drops yX5_drops, Cond.code yX5_drops cX5_drops 2 (some .int), Cond.fieldLink RX5 145 "LogSpooler$Sender" "untoldDrops" "I", Cond.methodLink RL 90 yX5_message]
def wsL_comes_r2 : List Cond := [Cond.instanceMethod yX5_message, Cond.selects RX5 yX5_message yX5_message, Cond.code yX5_message cX5_message 8 (some .int), Cond.classLink RX5 63 "java/lang/IllegalArgumentException", Cond.initialized "java/lang/IllegalArgumentException", Cond.classLink RX5 122 "java/lang/IllegalStateException", Cond.initialized "java/lang/IllegalStateException", Cond.fieldLink RX5 37 "LogSpooler" "ledger" "LLogSpooler$Ledger;", Cond.fieldLink RX5 51 "LogSpooler" "foldTime" "I", Cond.fieldLink RX5 41 "LogSpooler" "now" "I", Cond.fieldLink RX5 154 "LogSpooler$Ledger" "entries" "I", Cond.methodLink RX5 59 yX5_isWithin, Cond.static yX5_isWithin, Cond.code yX5_isWithin cX5_isWithin 3 (some .boolean), Cond.methodLink RX5 118 yX1_isFull, Cond.instanceMethod yX1_isFull, Cond.selects RX1 yX1_isFull yX1_isFull, Cond.initialized RX1, Cond.code yX1_isFull cX1_isFull 1 (some .boolean), Cond.fieldLink RX1 18 "LogSpooler$Ledger" "entries" "I", Cond.methodLink RX5 127 yX4_lastIs, Cond.instanceMethod yX4_lastIs, Cond.selects RX4 yX4_lastIs yX4_lastIs, Cond.initialized RX4]
def wsL_comes_r3 : List Cond := [Cond.code yX4_lastIs cX4_lastIs 5 (some .boolean), Cond.fieldLink RX4 21 "LogSpooler$Sender" "lastFacility" "I", Cond.fieldLink RX4 24 "LogSpooler$Sender" "lastSeverity" "I", Cond.fieldLink RX4 27 "LogSpooler$Sender" "lastText" "I", Cond.fieldLink RX4 30 "LogSpooler$Sender" "lastLength" "I", Cond.methodLink RX5 131 yX4_countRepeat, Cond.instanceMethod yX4_countRepeat, Cond.selects RX4 yX4_countRepeat yX4_countRepeat, Cond.code yX4_countRepeat cX4_countRepeat 2 none, Cond.fieldLink RX4 9 "LogSpooler$Sender" "untoldRepeats" "I", Cond.fieldLink RX4 15 "LogSpooler$Sender" "firstRepeat" "I", Cond.methodLink RX5 134 yX1_enter, Cond.instanceMethod yX1_enter, Cond.selects RX1 yX1_enter yX1_enter, Cond.code yX1_enter cX1_enter 3 (some .int), Cond.fieldLink RX1 9 "LogSpooler$Ledger" "fates" "[I", Cond.fieldLink RX1 15 "LogSpooler$Ledger" "targetSets" "[I", Cond.methodLink RX5 138 yX5_tellRepeats, Cond.instanceMethod yX5_tellRepeats, Cond.selects RX5 yX5_tellRepeats yX5_tellRepeats, Cond.code yX5_tellRepeats cX5_tellRepeats 3 none, Cond.fieldLink RX5 251 "LogSpooler$Sender" "number" "I", Cond.fieldLink RX5 254 "LogSpooler$Sender" "lastFacility" "I", Cond.fieldLink RX5 257 "LogSpooler$Sender" "lastSeverity" "I"]
def wsL_comes_r4 : List Cond := [Cond.methodLink RX5 157 yX5_route, Cond.instanceMethod yX5_route, Cond.selects RX5 yX5_route yX5_route, Cond.code yX5_route cX5_route 10 (some .int), Cond.fieldLink RX5 17 "LogSpooler" "rules" "[LLogSpooler$Rule;", Cond.fieldLink RX5 261 "LogSpooler$Rule" "target" "I", Cond.fieldLink RX5 23 "LogSpooler" "files" "[LLogSpooler$LogFile;", Cond.fieldLink RX5 30 "LogSpooler" "forwarder" "LLogSpooler$Forwarder;", Cond.methodLink RX5 264 yX3_fits, Cond.instanceMethod yX3_fits, Cond.selects RX3 yX3_fits yX3_fits, Cond.initialized RX3, Cond.code yX3_fits cX3_fits 4 (some .boolean), Cond.fieldLink RX3 9 "LogSpooler$Rule" "isSet" "Z", Cond.fieldLink RX3 15 "LogSpooler$Rule" "facilities" "I", Cond.fieldLink RX3 19 "LogSpooler$Rule" "severity" "I", Cond.fieldLink RX3 22 "LogSpooler$Rule" "sender" "I", Cond.methodLink RX5 267 yX2_add, Cond.instanceMethod yX2_add, Cond.selects RX2 yX2_add yX2_add, Cond.initialized RX2, Cond.code yX2_add cX2_add 4 none, Cond.fieldLink RX2 34 "LogSpooler$LogFile" "sumOfLengths" "I", Cond.fieldLink RX2 22 "LogSpooler$LogFile" "greatestSize" "I"]
def wsL_comes_r5 : List Cond := [Cond.fieldLink RX2 31 "LogSpooler$LogFile" "firstCame" "I", Cond.fieldLink RX2 18 "LogSpooler$LogFile" "end" "I", Cond.fieldLink RX2 9 "LogSpooler$LogFile" "row" "[I", Cond.methodLink RX2 43 yX2_isEmpty, Cond.instanceMethod yX2_isEmpty, Cond.selects RX2 yX2_isEmpty yX2_isEmpty, Cond.code yX2_isEmpty cX2_isEmpty 1 (some .boolean), Cond.fieldLink RX2 15 "LogSpooler$LogFile" "starts" "[I", Cond.methodLink RX2 47 yX2_turnOver, Cond.instanceMethod yX2_turnOver, Cond.selects RX2 yX2_turnOver yX2_turnOver, Cond.code yX2_turnOver cX2_turnOver 2 none, Cond.fieldLink RX2 40 "LogSpooler$LogFile" "rotations" "I", Cond.fieldLink RX2 37 "LogSpooler$LogFile" "olderOnes" "I", Cond.fieldLink RX2 28 "LogSpooler$LogFile" "kept" "I", Cond.methodLink RX5 270 yX0_take, Cond.instanceMethod yX0_take, Cond.selects RX0 yX0_take yX0_take, Cond.initialized RX0, Cond.code yX0_take cX0_take 2 none, Cond.fieldLink RX0 15 "LogSpooler$Forwarder" "end" "I", Cond.fieldLink RX0 22 "LogSpooler$Forwarder" "acknowledgedOnes" "I", Cond.fieldLink RX0 9 "LogSpooler$Forwarder" "row" "[I", Cond.fieldLink RX0 25 "LogSpooler$Forwarder" "lostOnes" "I"]
def wsL_comes_r6 : List Cond := [Cond.methodLink RX5 148 yX5_tellDrops, Cond.instanceMethod yX5_tellDrops, Cond.selects RX5 yX5_tellDrops yX5_tellDrops, Cond.code yX5_tellDrops cX5_tellDrops 3 none, Cond.constant RX5 260 (100000), Cond.methodLink RX5 151 yX4_setLast, Cond.instanceMethod yX4_setLast, Cond.selects RX4 yX4_setLast yX4_setLast, Cond.code yX4_setLast cX4_setLast 5 none, Cond.methodLink RL 93 yX5_messages, Cond.instanceMethod yX5_messages, Cond.selects RX5 yX5_messages yX5_messages, Cond.code yX5_messages cX5_messages 1 (some .int), Cond.methodLink RL 96 yX5_fateOf, Cond.instanceMethod yX5_fateOf, Cond.selects RX5 yX5_fateOf yX5_fateOf, Cond.code yX5_fateOf cX5_fateOf 2 (some .int), Cond.methodLink RX5 231 yX1_has, Cond.instanceMethod yX1_has, Cond.selects RX1 yX1_has yX1_has, Cond.code yX1_has cX1_has 2 (some .boolean), Cond.methodLink RX5 234 yX1_fateAt, Cond.instanceMethod yX1_fateAt, Cond.selects RX1 yX1_fateAt yX1_fateAt]
def wsL_comes_r7 : List Cond := [Cond.code yX1_fateAt cX1_fateAt 2 (some .int), Cond.methodLink RL 99 yX5_targetsOf, Cond.instanceMethod yX5_targetsOf, Cond.selects RX5 yX5_targetsOf yX5_targetsOf, Cond.code yX5_targetsOf cX5_targetsOf 2 (some .int), Cond.methodLink RX5 242 yX1_targetsAt, Cond.instanceMethod yX1_targetsAt, Cond.selects RX1 yX1_targetsAt yX1_targetsAt, Cond.code yX1_targetsAt cX1_targetsAt 2 (some .int), Cond.methodLink RL 40 yX5_lines, Cond.instanceMethod yX5_lines, Cond.selects RX5 yX5_lines yX5_lines, Cond.code yX5_lines cX5_lines 4 (some .int), Cond.methodLink RX5 99 yX5_fileAt, Cond.instanceMethod yX5_fileAt, Cond.selects RX5 yX5_fileAt yX5_fileAt, Cond.code yX5_fileAt cX5_fileAt 2 (some (.object "LogSpooler$LogFile")), Cond.methodLink RX5 210 yX2_has, Cond.instanceMethod yX2_has, Cond.selects RX2 yX2_has yX2_has, Cond.code yX2_has cX2_has 2 (some .boolean), Cond.methodLink RX5 216 yX2_linesOf, Cond.instanceMethod yX2_linesOf, Cond.selects RX2 yX2_linesOf yX2_linesOf]
def wsL_comes_r8 : List Cond := [Cond.code yX2_linesOf cX2_linesOf 3 (some .int), Cond.methodLink RX2 50 yX2_startOf, Cond.instanceMethod yX2_startOf, Cond.selects RX2 yX2_startOf yX2_startOf, Cond.code yX2_startOf cX2_startOf 3 (some .int), Cond.methodLink RL 102 yX5_line, Cond.instanceMethod yX5_line, Cond.selects RX5 yX5_line yX5_line, Cond.code yX5_line cX5_line 5 (some .int), Cond.methodLink RX5 222 yX2_lineAt, Cond.instanceMethod yX2_lineAt, Cond.selects RX2 yX2_lineAt yX2_lineAt, Cond.code yX2_lineAt cX2_lineAt 4 (some .int)]
def wsL_comes : List Cond := .code yL_comes cL_comes 15 (some .boolean) :: ((wsL_comes_r1 ++ (wsL_comes_r2 ++ (wsL_comes_r3 ++ (wsL_comes_r4 ++ (wsL_comes_r5 ++ (wsL_comes_r6 ++ (wsL_comes_r7 ++ wsL_comes_r8))))))) ++ wsX40 ++ wsX50 ++ wsX10 ++ wsX30 ++ wsX20 ++ wsX00 ++ (vx_atS RX5 84 "java/lang/IndexOutOfBoundsException" ["java/lang/RuntimeException", "java/lang/Exception"]).filter goodWord ++ (vx_atS RX5 67 "java/lang/IllegalArgumentException" ["java/lang/RuntimeException", "java/lang/Exception"]).filter goodWord ++ (vx_atS RX5 126 "java/lang/IllegalStateException" ["java/lang/RuntimeException", "java/lang/Exception"]).filter goodWord)
def wsL_step_r1 : List Cond := [Cond.methodLink RL 10 yX5_setRule, Cond.instanceMethod yX5_setRule, Cond.selects RX5 yX5_setRule yX5_setRule, Cond.initialized RX5, Cond.code yX5_setRule cX5_setRule 7 (some .int), Cond.classLink RX5 80 "java/lang/IndexOutOfBoundsException", Cond.initialized "java/lang/IndexOutOfBoundsException", Cond.classLink RX5 63 "java/lang/IllegalArgumentException", Cond.initialized "java/lang/IllegalArgumentException", Cond.methodLink RX5 76 yX5_ruleAt, Cond.instanceMethod yX5_ruleAt, Cond.selects RX5 yX5_ruleAt yX5_ruleAt, Cond.code yX5_ruleAt cX5_ruleAt 2 (some (.object "LogSpooler$Rule")), Cond.fieldLink RX5 17 "LogSpooler" "rules" "[LLogSpooler$Rule;", Cond.methodLink RX5 59 yX5_isWithin, Cond.static yX5_isWithin, Cond.code yX5_isWithin cX5_isWithin 3 (some .boolean), Cond.methodLink RX5 87 yX3_put, Cond.instanceMethod yX3_put, Cond.selects RX3 yX3_put yX3_put, Cond.initialized RX3, Cond.code yX3_put cX3_put 5 none, Cond.fieldLink RX3 9 "LogSpooler$Rule" "isSet" "Z", Cond.fieldLink RX3 15 "LogSpooler$Rule" "facilities" "I"]
def wsL_step_r2 : List Cond := [Cond.fieldLink RX3 19 "LogSpooler$Rule" "severity" "I", Cond.fieldLink RX3 22 "LogSpooler$Rule" "sender" "I", Cond.fieldLink RX3 25 "LogSpooler$Rule" "target" "I", Cond.methodLink RX5 91 yX5_rulesThatAreSet, Cond.instanceMethod yX5_rulesThatAreSet, Cond.selects RX5 yX5_rulesThatAreSet yX5_rulesThatAreSet, Cond.code yX5_rulesThatAreSet cX5_rulesThatAreSet 3 (some .int), Cond.fieldLink RX5 95 "LogSpooler$Rule" "isSet" "Z", Cond.methodLink RL 16 yX5_setRate, Cond.instanceMethod yX5_setRate, Cond.selects RX5 yX5_setRate yX5_setRate, Cond.code yX5_setRate cX5_setRate 5 (some .int), Cond.fieldLink RX5 45 "LogSpooler" "burst" "I", Cond.fieldLink RX5 48 "LogSpooler" "tokenTime" "I", Cond.fieldLink RX5 11 "LogSpooler" "senders" "[LLogSpooler$Sender;", Cond.methodLink RX5 70 yX4_capTokens, Cond.instanceMethod yX4_capTokens, Cond.selects RX4 yX4_capTokens yX4_capTokens, Cond.initialized RX4, Cond.code yX4_capTokens cX4_capTokens 2 none, Cond.fieldLink RX4 36 "LogSpooler$Sender" "tokensLeft" "I", Cond.methodLink RL 20 yX5_setFold, Cond.instanceMethod yX5_setFold, Cond.selects RX5 yX5_setFold yX5_setFold]
def wsL_step_r3 : List Cond := [Cond.code yX5_setFold cX5_setFold 3 (some .int), Cond.fieldLink RX5 51 "LogSpooler" "foldTime" "I", Cond.methodLink RL 24 yX5_setFile, Cond.instanceMethod yX5_setFile, Cond.selects RX5 yX5_setFile yX5_setFile, Cond.code yX5_setFile cX5_setFile 6 (some .int), Cond.fieldLink RX5 109 "LogSpooler$LogFile" "sumOfLengths" "I", Cond.methodLink RX5 99 yX5_fileAt, Cond.instanceMethod yX5_fileAt, Cond.selects RX5 yX5_fileAt yX5_fileAt, Cond.code yX5_fileAt cX5_fileAt 2 (some (.object "LogSpooler$LogFile")), Cond.fieldLink RX5 23 "LogSpooler" "files" "[LLogSpooler$LogFile;", Cond.methodLink RX5 105 yX2_limit, Cond.instanceMethod yX2_limit, Cond.selects RX2 yX2_limit yX2_limit, Cond.initialized RX2, Cond.code yX2_limit cX2_limit 4 none, Cond.fieldLink RX2 22 "LogSpooler$LogFile" "greatestSize" "I", Cond.fieldLink RX2 25 "LogSpooler$LogFile" "age" "I", Cond.fieldLink RX2 28 "LogSpooler$LogFile" "kept" "I", Cond.fieldLink RX2 37 "LogSpooler$LogFile" "olderOnes" "I", Cond.methodLink RL 28 yX5_size, Cond.instanceMethod yX5_size, Cond.selects RX5 yX5_size yX5_size]
def wsL_step_r4 : List Cond := [Cond.code yX5_size cX5_size 2 (some .int), Cond.methodLink RL 31 yX5_generations, Cond.instanceMethod yX5_generations, Cond.selects RX5 yX5_generations yX5_generations, Cond.code yX5_generations cX5_generations 2 (some .int), Cond.fieldLink RX5 175 "LogSpooler$LogFile" "olderOnes" "I", Cond.methodLink RL 34 yL_passes, Cond.static yL_passes, Cond.initialized RL, Cond.code yL_passes cL_passes 5 (some .boolean), Cond.methodLink RL 53 yX5_pass, Cond.instanceMethod yX5_pass, Cond.selects RX5 yX5_pass yX5_pass, Cond.code yX5_pass cX5_pass 4 (some .int), Cond.methodLink RX5 161 yX5_rotationsOfAllFiles, Cond.instanceMethod yX5_rotationsOfAllFiles, Cond.selects RX5 yX5_rotationsOfAllFiles yX5_rotationsOfAllFiles, Cond.code yX5_rotationsOfAllFiles cX5_rotationsOfAllFiles 3 (some .int), Cond.fieldLink RX5 295 "LogSpooler$LogFile" "rotations" "I", Cond.methodLink RX5 164 yX5_passOneSecond, Cond.instanceMethod yX5_passOneSecond, Cond.selects RX5 yX5_passOneSecond yX5_passOneSecond, Cond.code yX5_passOneSecond cX5_passOneSecond 1 none, Cond.fieldLink RX5 41 "LogSpooler" "now" "I"]
def wsL_step_r5 : List Cond := [Cond.methodLink RX5 273 yX5_giveTokens, Cond.instanceMethod yX5_giveTokens, Cond.selects RX5 yX5_giveTokens yX5_giveTokens, Cond.code yX5_giveTokens cX5_giveTokens 2 none, Cond.methodLink RX5 282 yX4_gainToken, Cond.instanceMethod yX4_gainToken, Cond.selects RX4 yX4_gainToken yX4_gainToken, Cond.code yX4_gainToken cX4_gainToken 2 none, Cond.methodLink RX5 276 yX5_tellDueRepeats, Cond.instanceMethod yX5_tellDueRepeats, Cond.selects RX5 yX5_tellDueRepeats yX5_tellDueRepeats, Cond.code yX5_tellDueRepeats cX5_tellDueRepeats 3 none, Cond.methodLink RX5 285 yX5_firstWithDueRepeats, Cond.instanceMethod yX5_firstWithDueRepeats, Cond.selects RX5 yX5_firstWithDueRepeats yX5_firstWithDueRepeats, Cond.code yX5_firstWithDueRepeats cX5_firstWithDueRepeats 5 (some (.object "LogSpooler$Sender")), Cond.fieldLink RX5 207 "LogSpooler$Sender" "untoldRepeats" "I", Cond.fieldLink RX5 289 "LogSpooler$Sender" "firstRepeat" "I", Cond.methodLink RX5 138 yX5_tellRepeats, Cond.instanceMethod yX5_tellRepeats, Cond.selects RX5 yX5_tellRepeats yX5_tellRepeats, Cond.code yX5_tellRepeats cX5_tellRepeats 3 none, Cond.fieldLink RX5 251 "LogSpooler$Sender" "number" "I", Cond.fieldLink RX5 254 "LogSpooler$Sender" "lastFacility" "I"]
def wsL_step_r6 : List Cond := [Cond.fieldLink RX5 257 "LogSpooler$Sender" "lastSeverity" "I", Cond.methodLink RX5 157 yX5_route, Cond.instanceMethod yX5_route, Cond.selects RX5 yX5_route yX5_route, Cond.code yX5_route cX5_route 10 (some .int), Cond.fieldLink RX5 261 "LogSpooler$Rule" "target" "I", Cond.fieldLink RX5 30 "LogSpooler" "forwarder" "LLogSpooler$Forwarder;", Cond.methodLink RX5 264 yX3_fits, Cond.instanceMethod yX3_fits, Cond.selects RX3 yX3_fits yX3_fits, Cond.code yX3_fits cX3_fits 4 (some .boolean), Cond.methodLink RX5 267 yX2_add, Cond.instanceMethod yX2_add, Cond.selects RX2 yX2_add yX2_add, Cond.code yX2_add cX2_add 4 none, Cond.fieldLink RX2 34 "LogSpooler$LogFile" "sumOfLengths" "I", Cond.fieldLink RX2 31 "LogSpooler$LogFile" "firstCame" "I", Cond.fieldLink RX2 18 "LogSpooler$LogFile" "end" "I", Cond.fieldLink RX2 9 "LogSpooler$LogFile" "row" "[I", Cond.methodLink RX2 43 yX2_isEmpty, Cond.instanceMethod yX2_isEmpty, Cond.selects RX2 yX2_isEmpty yX2_isEmpty, Cond.code yX2_isEmpty cX2_isEmpty 1 (some .boolean), Cond.fieldLink RX2 15 "LogSpooler$LogFile" "starts" "[I"]
def wsL_step_r7 : List Cond := [Cond.methodLink RX2 47 yX2_turnOver, Cond.instanceMethod yX2_turnOver, Cond.selects RX2 yX2_turnOver yX2_turnOver, Cond.code yX2_turnOver cX2_turnOver 2 none, Cond.fieldLink RX2 40 "LogSpooler$LogFile" "rotations" "I", Cond.methodLink RX5 270 yX0_take, Cond.instanceMethod yX0_take, Cond.selects RX0 yX0_take yX0_take, Cond.initialized RX0, Cond.code yX0_take cX0_take 2 none, Cond.fieldLink RX0 15 "LogSpooler$Forwarder" "end" "I", Cond.fieldLink RX0 22 "LogSpooler$Forwarder" "acknowledgedOnes" "I", Cond.fieldLink RX0 9 "LogSpooler$Forwarder" "row" "[I", Cond.fieldLink RX0 25 "LogSpooler$Forwarder" "lostOnes" "I", Cond.methodLink RX5 279 yX5_rotateAgedFiles, Cond.instanceMethod yX5_rotateAgedFiles, Cond.selects RX5 yX5_rotateAgedFiles yX5_rotateAgedFiles, Cond.code yX5_rotateAgedFiles cX5_rotateAgedFiles 2 none, Cond.methodLink RX5 292 yX2_isAged, Cond.instanceMethod yX2_isAged, Cond.selects RX2 yX2_isAged yX2_isAged, Cond.code yX2_isAged cX2_isAged 2 (some .boolean), Cond.methodLink RX5 172 yX2_turnOver, Cond.methodLink RL 56 yX5_time]
def wsL_step_r8 : List Cond := [Cond.instanceMethod yX5_time, Cond.selects RX5 yX5_time yX5_time, Cond.code yX5_time cX5_time 1 (some .int), Cond.methodLink RL 60 yX5_repeats, Cond.instanceMethod yX5_repeats, Cond.selects RX5 yX5_repeats yX5_repeats, Cond.code yX5_repeats cX5_repeats 2 (some .int), Cond.methodLink RX5 112 yX5_senderAt, Cond.instanceMethod yX5_senderAt, Cond.selects RX5 yX5_senderAt yX5_senderAt, Cond.code yX5_senderAt cX5_senderAt 2 (some (.object "LogSpooler$Sender")), Cond.methodLink RL 63 yX5_tokens, Cond.instanceMethod yX5_tokens, Cond.selects RX5 yX5_tokens yX5_tokens, Cond.code yX5_tokens cX5_tokens 2 (some .int), Cond.fieldLink RX5 142 "LogSpooler$Sender" "tokensLeft" "I", Cond.methodLink RL 40 yX5_lines, Cond.instanceMethod yX5_lines, Cond.selects RX5 yX5_lines yX5_lines, Cond.code yX5_lines cX5_lines 4 (some .int), Cond.methodLink RX5 210 yX2_has, Cond.instanceMethod yX2_has, Cond.selects RX2 yX2_has yX2_has, Cond.code yX2_has cX2_has 2 (some .boolean)]
def wsL_step_r9 : List Cond := [Cond.methodLink RX5 216 yX2_linesOf, Cond.instanceMethod yX2_linesOf, Cond.selects RX2 yX2_linesOf yX2_linesOf, Cond.code yX2_linesOf cX2_linesOf 3 (some .int), Cond.methodLink RX2 50 yX2_startOf, Cond.instanceMethod yX2_startOf, Cond.selects RX2 yX2_startOf yX2_startOf, Cond.code yX2_startOf cX2_startOf 3 (some .int), Cond.methodLink RL 43 yX5_rotate, Cond.instanceMethod yX5_rotate, Cond.selects RX5 yX5_rotate yX5_rotate, Cond.code yX5_rotate cX5_rotate 3 (some .int), Cond.classLink RX5 122 "java/lang/IllegalStateException", Cond.initialized "java/lang/IllegalStateException", Cond.methodLink RX5 167 yX2_isEmpty, Cond.methodLink RL 46 yL_forwards, Cond.static yL_forwards, Cond.code yL_forwards cL_forwards 6 (some .boolean), Cond.methodLink RL 66 yX5_queued, Cond.instanceMethod yX5_queued, Cond.selects RX5 yX5_queued yX5_queued, Cond.code yX5_queued cX5_queued 1 (some .int), Cond.methodLink RX5 183 yX0_waiting, Cond.instanceMethod yX0_waiting]
def wsL_step_r10 : List Cond := [Cond.selects RX0 yX0_waiting yX0_waiting, Cond.code yX0_waiting cX0_waiting 1 (some .int), Cond.fieldLink RX0 19 "LogSpooler$Forwarder" "firstQueued" "I", Cond.methodLink RL 69 yX5_inFlight, Cond.instanceMethod yX5_inFlight, Cond.selects RX5 yX5_inFlight yX5_inFlight, Cond.code yX5_inFlight cX5_inFlight 1 (some .int), Cond.methodLink RX5 188 yX0_flying, Cond.instanceMethod yX0_flying, Cond.selects RX0 yX0_flying yX0_flying, Cond.code yX0_flying cX0_flying 1 (some .int), Cond.methodLink RL 72 yX5_connect, Cond.instanceMethod yX5_connect, Cond.selects RX5 yX5_connect yX5_connect, Cond.code yX5_connect cX5_connect 1 (some .int), Cond.fieldLink RX5 178 "LogSpooler$Forwarder" "isConnected" "Z", Cond.methodLink RL 75 yX5_disconnect, Cond.instanceMethod yX5_disconnect, Cond.selects RX5 yX5_disconnect yX5_disconnect, Cond.code yX5_disconnect cX5_disconnect 2 (some .int), Cond.methodLink RX5 191 yX0_loseConnection, Cond.instanceMethod yX0_loseConnection, Cond.selects RX0 yX0_loseConnection yX0_loseConnection, Cond.code yX0_loseConnection cX0_loseConnection 1 none]
def wsL_step_r11 : List Cond := [Cond.fieldLink RX0 28 "LogSpooler$Forwarder" "isConnected" "Z", Cond.methodLink RL 78 yX5_acknowledged, Cond.instanceMethod yX5_acknowledged, Cond.selects RX5 yX5_acknowledged yX5_acknowledged, Cond.code yX5_acknowledged cX5_acknowledged 1 (some .int), Cond.fieldLink RX5 225 "LogSpooler$Forwarder" "acknowledgedOnes" "I", Cond.methodLink RL 81 yX5_acknowledge, Cond.instanceMethod yX5_acknowledge, Cond.selects RX5 yX5_acknowledge yX5_acknowledge, Cond.code yX5_acknowledge cX5_acknowledge 1 (some .int), Cond.methodLink RX5 204 yX0_acknowledgeFirst, Cond.instanceMethod yX0_acknowledgeFirst, Cond.selects RX0 yX0_acknowledgeFirst yX0_acknowledgeFirst, Cond.code yX0_acknowledgeFirst cX0_acknowledgeFirst 2 (some .int), Cond.methodLink RX0 39 yX0_lineAt, Cond.instanceMethod yX0_lineAt, Cond.selects RX0 yX0_lineAt yX0_lineAt, Cond.code yX0_lineAt cX0_lineAt 2 (some .int), Cond.methodLink RL 84 yX5_send, Cond.instanceMethod yX5_send, Cond.selects RX5 yX5_send yX5_send, Cond.code yX5_send cX5_send 1 (some .int), Cond.methodLink RX5 194 yX0_canSend, Cond.instanceMethod yX0_canSend]
def wsL_step_r12 : List Cond := [Cond.selects RX0 yX0_canSend yX0_canSend, Cond.code yX0_canSend cX0_canSend 1 (some .boolean), Cond.methodLink RX0 32 yX0_waiting, Cond.methodLink RX0 36 yX0_flying, Cond.methodLink RX5 199 yX0_sendFirst, Cond.instanceMethod yX0_sendFirst, Cond.selects RX0 yX0_sendFirst yX0_sendFirst, Cond.code yX0_sendFirst cX0_sendFirst 2 (some .int), Cond.methodLink RL 49 yL_comes, Cond.static yL_comes, Cond.code yL_comes cL_comes 15 (some .boolean), Cond.methodLink RL 87 yX5_drops, Cond.instanceMethod yX5_drops, Cond.selects RX5 yX5_drops yX5_drops, Cond.code yX5_drops cX5_drops 2 (some .int), Cond.fieldLink RX5 145 "LogSpooler$Sender" "untoldDrops" "I", Cond.methodLink RL 90 yX5_message, Cond.instanceMethod yX5_message, Cond.selects RX5 yX5_message yX5_message, Cond.code yX5_message cX5_message 8 (some .int), Cond.fieldLink RX5 37 "LogSpooler" "ledger" "LLogSpooler$Ledger;", Cond.fieldLink RX5 154 "LogSpooler$Ledger" "entries" "I", Cond.methodLink RX5 118 yX1_isFull, Cond.instanceMethod yX1_isFull]
def wsL_step_r13 : List Cond := [Cond.selects RX1 yX1_isFull yX1_isFull, Cond.initialized RX1, Cond.code yX1_isFull cX1_isFull 1 (some .boolean), Cond.fieldLink RX1 18 "LogSpooler$Ledger" "entries" "I", Cond.methodLink RX5 127 yX4_lastIs, Cond.instanceMethod yX4_lastIs, Cond.selects RX4 yX4_lastIs yX4_lastIs, Cond.code yX4_lastIs cX4_lastIs 5 (some .boolean), Cond.fieldLink RX4 21 "LogSpooler$Sender" "lastFacility" "I", Cond.fieldLink RX4 24 "LogSpooler$Sender" "lastSeverity" "I", Cond.fieldLink RX4 27 "LogSpooler$Sender" "lastText" "I", Cond.fieldLink RX4 30 "LogSpooler$Sender" "lastLength" "I", Cond.methodLink RX5 131 yX4_countRepeat, Cond.instanceMethod yX4_countRepeat, Cond.selects RX4 yX4_countRepeat yX4_countRepeat, Cond.code yX4_countRepeat cX4_countRepeat 2 none, Cond.fieldLink RX4 9 "LogSpooler$Sender" "untoldRepeats" "I", Cond.fieldLink RX4 15 "LogSpooler$Sender" "firstRepeat" "I", Cond.methodLink RX5 134 yX1_enter, Cond.instanceMethod yX1_enter, Cond.selects RX1 yX1_enter yX1_enter, Cond.code yX1_enter cX1_enter 3 (some .int), Cond.fieldLink RX1 9 "LogSpooler$Ledger" "fates" "[I", Cond.fieldLink RX1 15 "LogSpooler$Ledger" "targetSets" "[I"]
def wsL_step_r14 : List Cond := [Cond.methodLink RX5 148 yX5_tellDrops, Cond.instanceMethod yX5_tellDrops, Cond.selects RX5 yX5_tellDrops yX5_tellDrops, Cond.code yX5_tellDrops cX5_tellDrops 3 none, Cond.constant RX5 260 (100000), Cond.methodLink RX5 151 yX4_setLast, Cond.instanceMethod yX4_setLast, Cond.selects RX4 yX4_setLast yX4_setLast, Cond.code yX4_setLast cX4_setLast 5 none, Cond.methodLink RL 93 yX5_messages, Cond.instanceMethod yX5_messages, Cond.selects RX5 yX5_messages yX5_messages, Cond.code yX5_messages cX5_messages 1 (some .int), Cond.methodLink RL 96 yX5_fateOf, Cond.instanceMethod yX5_fateOf, Cond.selects RX5 yX5_fateOf yX5_fateOf, Cond.code yX5_fateOf cX5_fateOf 2 (some .int), Cond.methodLink RX5 231 yX1_has, Cond.instanceMethod yX1_has, Cond.selects RX1 yX1_has yX1_has, Cond.code yX1_has cX1_has 2 (some .boolean), Cond.methodLink RX5 234 yX1_fateAt, Cond.instanceMethod yX1_fateAt, Cond.selects RX1 yX1_fateAt yX1_fateAt]
def wsL_step_r15 : List Cond := [Cond.code yX1_fateAt cX1_fateAt 2 (some .int), Cond.methodLink RL 99 yX5_targetsOf, Cond.instanceMethod yX5_targetsOf, Cond.selects RX5 yX5_targetsOf yX5_targetsOf, Cond.code yX5_targetsOf cX5_targetsOf 2 (some .int), Cond.methodLink RX5 242 yX1_targetsAt, Cond.instanceMethod yX1_targetsAt, Cond.selects RX1 yX1_targetsAt yX1_targetsAt, Cond.code yX1_targetsAt cX1_targetsAt 2 (some .int), Cond.methodLink RL 102 yX5_line, Cond.instanceMethod yX5_line, Cond.selects RX5 yX5_line yX5_line, Cond.code yX5_line cX5_line 5 (some .int), Cond.methodLink RX5 222 yX2_lineAt, Cond.instanceMethod yX2_lineAt, Cond.selects RX2 yX2_lineAt yX2_lineAt, Cond.code yX2_lineAt cX2_lineAt 4 (some .int)]
def wsL_step : List Cond := .code yL_step cL_step 11 (some .boolean) :: ((wsL_step_r1 ++ (wsL_step_r2 ++ (wsL_step_r3 ++ (wsL_step_r4 ++ (wsL_step_r5 ++ (wsL_step_r6 ++ (wsL_step_r7 ++ (wsL_step_r8 ++ (wsL_step_r9 ++ (wsL_step_r10 ++ (wsL_step_r11 ++ (wsL_step_r12 ++ (wsL_step_r13 ++ (wsL_step_r14 ++ wsL_step_r15)))))))))))))) ++ wsX50 ++ wsX30 ++ wsX40 ++ wsX20 ++ wsX00 ++ wsX10 ++ (vx_atS RX5 84 "java/lang/IndexOutOfBoundsException" ["java/lang/RuntimeException", "java/lang/Exception"]).filter goodWord ++ (vx_atS RX5 67 "java/lang/IllegalArgumentException" ["java/lang/RuntimeException", "java/lang/Exception"]).filter goodWord ++ (vx_atS RX5 126 "java/lang/IllegalStateException" ["java/lang/RuntimeException", "java/lang/Exception"]).filter goodWord)
def wsL_areFiles_r1 : List Cond := [Cond.constant RL 106 (100000), Cond.methodLink RL 40 yX5_lines, Cond.instanceMethod yX5_lines, Cond.selects RX5 yX5_lines yX5_lines, Cond.initialized RX5, Cond.code yX5_lines cX5_lines 4 (some .int), Cond.classLink RX5 80 "java/lang/IndexOutOfBoundsException", Cond.initialized "java/lang/IndexOutOfBoundsException", Cond.methodLink RX5 99 yX5_fileAt, Cond.instanceMethod yX5_fileAt, Cond.selects RX5 yX5_fileAt yX5_fileAt, Cond.code yX5_fileAt cX5_fileAt 2 (some (.object "LogSpooler$LogFile")), Cond.fieldLink RX5 23 "LogSpooler" "files" "[LLogSpooler$LogFile;", Cond.methodLink RX5 210 yX2_has, Cond.instanceMethod yX2_has, Cond.selects RX2 yX2_has yX2_has, Cond.initialized RX2, Cond.code yX2_has cX2_has 2 (some .boolean), Cond.fieldLink RX2 37 "LogSpooler$LogFile" "olderOnes" "I", Cond.methodLink RX5 216 yX2_linesOf, Cond.instanceMethod yX2_linesOf, Cond.selects RX2 yX2_linesOf yX2_linesOf, Cond.code yX2_linesOf cX2_linesOf 3 (some .int), Cond.fieldLink RX2 18 "LogSpooler$LogFile" "end" "I"]
def wsL_areFiles_r2 : List Cond := [Cond.methodLink RX2 50 yX2_startOf, Cond.instanceMethod yX2_startOf, Cond.selects RX2 yX2_startOf yX2_startOf, Cond.code yX2_startOf cX2_startOf 3 (some .int), Cond.fieldLink RX2 15 "LogSpooler$LogFile" "starts" "[I", Cond.methodLink RL 102 yX5_line, Cond.instanceMethod yX5_line, Cond.selects RX5 yX5_line yX5_line, Cond.code yX5_line cX5_line 5 (some .int), Cond.methodLink RX5 59 yX5_isWithin, Cond.static yX5_isWithin, Cond.code yX5_isWithin cX5_isWithin 3 (some .boolean), Cond.methodLink RX5 222 yX2_lineAt, Cond.instanceMethod yX2_lineAt, Cond.selects RX2 yX2_lineAt yX2_lineAt, Cond.code yX2_lineAt cX2_lineAt 4 (some .int), Cond.fieldLink RX2 9 "LogSpooler$LogFile" "row" "[I", Cond.methodLink RL 28 yX5_size, Cond.instanceMethod yX5_size, Cond.selects RX5 yX5_size yX5_size, Cond.code yX5_size cX5_size 2 (some .int), Cond.fieldLink RX5 109 "LogSpooler$LogFile" "sumOfLengths" "I", Cond.methodLink RL 31 yX5_generations, Cond.instanceMethod yX5_generations]
def wsL_areFiles_r3 : List Cond := [Cond.selects RX5 yX5_generations yX5_generations, Cond.code yX5_generations cX5_generations 2 (some .int), Cond.fieldLink RX5 175 "LogSpooler$LogFile" "olderOnes" "I", Cond.methodLink RL 99 yX5_targetsOf, Cond.instanceMethod yX5_targetsOf, Cond.selects RX5 yX5_targetsOf yX5_targetsOf, Cond.code yX5_targetsOf cX5_targetsOf 2 (some .int), Cond.fieldLink RX5 37 "LogSpooler" "ledger" "LLogSpooler$Ledger;", Cond.methodLink RX5 231 yX1_has, Cond.instanceMethod yX1_has, Cond.selects RX1 yX1_has yX1_has, Cond.initialized RX1, Cond.code yX1_has cX1_has 2 (some .boolean), Cond.fieldLink RX1 18 "LogSpooler$Ledger" "entries" "I", Cond.methodLink RX5 242 yX1_targetsAt, Cond.instanceMethod yX1_targetsAt, Cond.selects RX1 yX1_targetsAt yX1_targetsAt, Cond.code yX1_targetsAt cX1_targetsAt 2 (some .int), Cond.fieldLink RX1 15 "LogSpooler$Ledger" "targetSets" "[I"]
def wsL_areFiles : List Cond := .code yL_areFiles cL_areFiles 12 (some .boolean) :: ((wsL_areFiles_r1 ++ (wsL_areFiles_r2 ++ wsL_areFiles_r3)) ++ wsX50 ++ wsX20 ++ wsX10 ++ (vx_atS RX5 84 "java/lang/IndexOutOfBoundsException" ["java/lang/RuntimeException", "java/lang/Exception"]).filter goodWord)
def wsL_isLedger_r1 : List Cond := [Cond.arrayClass .int, Cond.methodLink RL 93 yX5_messages, Cond.instanceMethod yX5_messages, Cond.selects RX5 yX5_messages yX5_messages, Cond.initialized RX5, Cond.code yX5_messages cX5_messages 1 (some .int), Cond.fieldLink RX5 37 "LogSpooler" "ledger" "LLogSpooler$Ledger;", Cond.fieldLink RX5 154 "LogSpooler$Ledger" "entries" "I", Cond.methodLink RL 96 yX5_fateOf, Cond.instanceMethod yX5_fateOf, Cond.selects RX5 yX5_fateOf yX5_fateOf, Cond.code yX5_fateOf cX5_fateOf 2 (some .int), Cond.classLink RX5 80 "java/lang/IndexOutOfBoundsException", Cond.initialized "java/lang/IndexOutOfBoundsException", Cond.methodLink RX5 231 yX1_has, Cond.instanceMethod yX1_has, Cond.selects RX1 yX1_has yX1_has, Cond.initialized RX1, Cond.code yX1_has cX1_has 2 (some .boolean), Cond.fieldLink RX1 18 "LogSpooler$Ledger" "entries" "I", Cond.methodLink RX5 234 yX1_fateAt, Cond.instanceMethod yX1_fateAt, Cond.selects RX1 yX1_fateAt yX1_fateAt, Cond.code yX1_fateAt cX1_fateAt 2 (some .int)]
def wsL_isLedger_r2 : List Cond := [Cond.fieldLink RX1 9 "LogSpooler$Ledger" "fates" "[I", Cond.methodLink RL 99 yX5_targetsOf, Cond.instanceMethod yX5_targetsOf, Cond.selects RX5 yX5_targetsOf yX5_targetsOf, Cond.code yX5_targetsOf cX5_targetsOf 2 (some .int), Cond.methodLink RX5 242 yX1_targetsAt, Cond.instanceMethod yX1_targetsAt, Cond.selects RX1 yX1_targetsAt yX1_targetsAt, Cond.code yX1_targetsAt cX1_targetsAt 2 (some .int), Cond.fieldLink RX1 15 "LogSpooler$Ledger" "targetSets" "[I", Cond.methodLink RL 107 yX5_count, Cond.instanceMethod yX5_count, Cond.selects RX5 yX5_count yX5_count, Cond.code yX5_count cX5_count 2 (some .int), Cond.methodLink RX5 59 yX5_isWithin, Cond.static yX5_isWithin, Cond.code yX5_isWithin cX5_isWithin 3 (some .boolean), Cond.methodLink RX5 239 yX1_entriesWith, Cond.instanceMethod yX1_entriesWith, Cond.selects RX1 yX1_entriesWith yX1_entriesWith, Cond.code yX1_entriesWith cX1_entriesWith 4 (some .int), Cond.methodLink RL 87 yX5_drops, Cond.instanceMethod yX5_drops, Cond.selects RX5 yX5_drops yX5_drops]
def wsL_isLedger_r3 : List Cond := [Cond.code yX5_drops cX5_drops 2 (some .int), Cond.fieldLink RX5 145 "LogSpooler$Sender" "untoldDrops" "I", Cond.methodLink RX5 112 yX5_senderAt, Cond.instanceMethod yX5_senderAt, Cond.selects RX5 yX5_senderAt yX5_senderAt, Cond.code yX5_senderAt cX5_senderAt 2 (some (.object "LogSpooler$Sender")), Cond.fieldLink RX5 11 "LogSpooler" "senders" "[LLogSpooler$Sender;", Cond.methodLink RL 60 yX5_repeats, Cond.instanceMethod yX5_repeats, Cond.selects RX5 yX5_repeats yX5_repeats, Cond.code yX5_repeats cX5_repeats 2 (some .int), Cond.fieldLink RX5 207 "LogSpooler$Sender" "untoldRepeats" "I", Cond.methodLink RL 63 yX5_tokens, Cond.instanceMethod yX5_tokens, Cond.selects RX5 yX5_tokens yX5_tokens, Cond.code yX5_tokens cX5_tokens 2 (some .int), Cond.fieldLink RX5 142 "LogSpooler$Sender" "tokensLeft" "I", Cond.methodLink RL 66 yX5_queued, Cond.instanceMethod yX5_queued, Cond.selects RX5 yX5_queued yX5_queued, Cond.code yX5_queued cX5_queued 1 (some .int), Cond.fieldLink RX5 30 "LogSpooler" "forwarder" "LLogSpooler$Forwarder;", Cond.methodLink RX5 183 yX0_waiting, Cond.instanceMethod yX0_waiting]
def wsL_isLedger_r4 : List Cond := [Cond.selects RX0 yX0_waiting yX0_waiting, Cond.initialized RX0, Cond.code yX0_waiting cX0_waiting 1 (some .int), Cond.fieldLink RX0 15 "LogSpooler$Forwarder" "end" "I", Cond.fieldLink RX0 19 "LogSpooler$Forwarder" "firstQueued" "I", Cond.methodLink RL 69 yX5_inFlight, Cond.instanceMethod yX5_inFlight, Cond.selects RX5 yX5_inFlight yX5_inFlight, Cond.code yX5_inFlight cX5_inFlight 1 (some .int), Cond.methodLink RX5 188 yX0_flying, Cond.instanceMethod yX0_flying, Cond.selects RX0 yX0_flying yX0_flying, Cond.code yX0_flying cX0_flying 1 (some .int), Cond.fieldLink RX0 22 "LogSpooler$Forwarder" "acknowledgedOnes" "I", Cond.methodLink RL 78 yX5_acknowledged, Cond.instanceMethod yX5_acknowledged, Cond.selects RX5 yX5_acknowledged yX5_acknowledged, Cond.code yX5_acknowledged cX5_acknowledged 1 (some .int), Cond.fieldLink RX5 225 "LogSpooler$Forwarder" "acknowledgedOnes" "I", Cond.methodLink RL 110 yX5_lost, Cond.instanceMethod yX5_lost, Cond.selects RX5 yX5_lost yX5_lost, Cond.code yX5_lost cX5_lost 1 (some .int), Cond.fieldLink RX5 228 "LogSpooler$Forwarder" "lostOnes" "I"]
def wsL_isLedger : List Cond := .code yL_isLedger cL_isLedger 8 (some .boolean) :: ((wsL_isLedger_r1 ++ (wsL_isLedger_r2 ++ (wsL_isLedger_r3 ++ wsL_isLedger_r4))) ++ wsX50 ++ wsX10 ++ wsX40 ++ wsX00 ++ (vx_atS RX5 84 "java/lang/IndexOutOfBoundsException" ["java/lang/RuntimeException", "java/lang/Exception"]).filter goodWord)
def wsL_law0_r1 : List Cond := [Cond.classLink RL 11 RX5, Cond.instantiable RX5 9, Cond.initialized RX5, Cond.arrayClass .int, Cond.methodLink RL 113 yX5_init, Cond.instanceMethod yX5_init, Cond.code yX5_init cX5_init 2 none, Cond.methodLink RX5 3 objectInit, Cond.instanceMethod objectInit, Cond.code objectInit ⟨#[0xb1]⟩ 1 none, Cond.classLink RX5 9 RX4, Cond.fieldLink RX5 11 "LogSpooler" "senders" "[LLogSpooler$Sender;", Cond.classLink RX5 15 RX3, Cond.fieldLink RX5 17 "LogSpooler" "rules" "[LLogSpooler$Rule;", Cond.classLink RX5 21 RX2, Cond.fieldLink RX5 23 "LogSpooler" "files" "[LLogSpooler$LogFile;", Cond.classLink RX5 27 RX0, Cond.instantiable RX0 6, Cond.initialized RX0, Cond.fieldLink RX5 30 "LogSpooler" "forwarder" "LLogSpooler$Forwarder;", Cond.classLink RX5 34 RX1, Cond.instantiable RX1 3, Cond.initialized RX1, Cond.fieldLink RX5 37 "LogSpooler" "ledger" "LLogSpooler$Ledger;"]
def wsL_law0_r2 : List Cond := [Cond.fieldLink RX5 41 "LogSpooler" "now" "I", Cond.fieldLink RX5 45 "LogSpooler" "burst" "I", Cond.fieldLink RX5 48 "LogSpooler" "tokenTime" "I", Cond.fieldLink RX5 51 "LogSpooler" "foldTime" "I", Cond.instantiable RX4 9, Cond.initialized RX4, Cond.instantiable RX3 5, Cond.initialized RX3, Cond.instantiable RX2 10, Cond.initialized RX2, Cond.instanceMethod yX0_init, Cond.code yX0_init cX0_init 1 none, Cond.methodLink RX0 3 objectInit, Cond.fieldLink RX0 9 "LogSpooler$Forwarder" "row" "[I", Cond.fieldLink RX0 15 "LogSpooler$Forwarder" "end" "I", Cond.fieldLink RX0 19 "LogSpooler$Forwarder" "firstQueued" "I", Cond.fieldLink RX0 22 "LogSpooler$Forwarder" "acknowledgedOnes" "I", Cond.fieldLink RX0 25 "LogSpooler$Forwarder" "lostOnes" "I", Cond.fieldLink RX0 28 "LogSpooler$Forwarder" "isConnected" "Z", Cond.instanceMethod yX1_init, Cond.code yX1_init cX1_init 1 none, Cond.methodLink RX1 3 objectInit, Cond.fieldLink RX1 9 "LogSpooler$Ledger" "fates" "[I", Cond.fieldLink RX1 15 "LogSpooler$Ledger" "targetSets" "[I"]
def wsL_law0_r3 : List Cond := [Cond.fieldLink RX1 18 "LogSpooler$Ledger" "entries" "I", Cond.methodLink RX5 54 yX4_init, Cond.instanceMethod yX4_init, Cond.code yX4_init cX4_init 3 none, Cond.methodLink RX4 3 objectInit, Cond.fieldLink RX4 9 "LogSpooler$Sender" "untoldRepeats" "I", Cond.fieldLink RX4 15 "LogSpooler$Sender" "firstRepeat" "I", Cond.fieldLink RX4 18 "LogSpooler$Sender" "untoldDrops" "I", Cond.fieldLink RX4 21 "LogSpooler$Sender" "lastFacility" "I", Cond.fieldLink RX4 24 "LogSpooler$Sender" "lastSeverity" "I", Cond.fieldLink RX4 27 "LogSpooler$Sender" "lastText" "I", Cond.fieldLink RX4 30 "LogSpooler$Sender" "lastLength" "I", Cond.fieldLink RX4 33 "LogSpooler$Sender" "number" "I", Cond.fieldLink RX4 36 "LogSpooler$Sender" "tokensLeft" "I", Cond.instanceMethod yX3_init, Cond.code yX3_init cX3_init 1 none, Cond.methodLink RX3 3 objectInit, Cond.fieldLink RX3 9 "LogSpooler$Rule" "isSet" "Z", Cond.fieldLink RX3 15 "LogSpooler$Rule" "facilities" "I", Cond.fieldLink RX3 19 "LogSpooler$Rule" "severity" "I", Cond.fieldLink RX3 22 "LogSpooler$Rule" "sender" "I", Cond.fieldLink RX3 25 "LogSpooler$Rule" "target" "I", Cond.instanceMethod yX2_init, Cond.code yX2_init cX2_init 1 none]
def wsL_law0_r4 : List Cond := [Cond.methodLink RX2 3 objectInit, Cond.fieldLink RX2 9 "LogSpooler$LogFile" "row" "[I", Cond.fieldLink RX2 15 "LogSpooler$LogFile" "starts" "[I", Cond.fieldLink RX2 18 "LogSpooler$LogFile" "end" "I", Cond.fieldLink RX2 22 "LogSpooler$LogFile" "greatestSize" "I", Cond.fieldLink RX2 25 "LogSpooler$LogFile" "age" "I", Cond.fieldLink RX2 28 "LogSpooler$LogFile" "kept" "I", Cond.fieldLink RX2 31 "LogSpooler$LogFile" "firstCame" "I", Cond.fieldLink RX2 34 "LogSpooler$LogFile" "sumOfLengths" "I", Cond.fieldLink RX2 37 "LogSpooler$LogFile" "olderOnes" "I", Cond.fieldLink RX2 40 "LogSpooler$LogFile" "rotations" "I", Cond.methodLink RL 56 yX5_time, Cond.instanceMethod yX5_time, Cond.selects RX5 yX5_time yX5_time, Cond.code yX5_time cX5_time 1 (some .int), Cond.methodLink RL 93 yX5_messages, Cond.instanceMethod yX5_messages, Cond.selects RX5 yX5_messages yX5_messages, Cond.code yX5_messages cX5_messages 1 (some .int), Cond.fieldLink RX5 154 "LogSpooler$Ledger" "entries" "I", Cond.methodLink RL 66 yX5_queued, Cond.instanceMethod yX5_queued, Cond.selects RX5 yX5_queued yX5_queued, Cond.code yX5_queued cX5_queued 1 (some .int)]
def wsL_law0_r5 : List Cond := [Cond.methodLink RX5 183 yX0_waiting, Cond.instanceMethod yX0_waiting, Cond.selects RX0 yX0_waiting yX0_waiting, Cond.code yX0_waiting cX0_waiting 1 (some .int), Cond.methodLink RL 110 yX5_lost, Cond.instanceMethod yX5_lost, Cond.selects RX5 yX5_lost yX5_lost, Cond.code yX5_lost cX5_lost 1 (some .int), Cond.fieldLink RX5 228 "LogSpooler$Forwarder" "lostOnes" "I", Cond.methodLink RL 63 yX5_tokens, Cond.instanceMethod yX5_tokens, Cond.selects RX5 yX5_tokens yX5_tokens, Cond.code yX5_tokens cX5_tokens 2 (some .int), Cond.fieldLink RX5 142 "LogSpooler$Sender" "tokensLeft" "I", Cond.methodLink RX5 112 yX5_senderAt, Cond.instanceMethod yX5_senderAt, Cond.selects RX5 yX5_senderAt yX5_senderAt, Cond.code yX5_senderAt cX5_senderAt 2 (some (.object "LogSpooler$Sender")), Cond.classLink RX5 80 "java/lang/IndexOutOfBoundsException", Cond.initialized "java/lang/IndexOutOfBoundsException", Cond.methodLink RL 40 yX5_lines, Cond.instanceMethod yX5_lines, Cond.selects RX5 yX5_lines yX5_lines, Cond.code yX5_lines cX5_lines 4 (some .int)]
def wsL_law0_r6 : List Cond := [Cond.methodLink RX5 99 yX5_fileAt, Cond.instanceMethod yX5_fileAt, Cond.selects RX5 yX5_fileAt yX5_fileAt, Cond.code yX5_fileAt cX5_fileAt 2 (some (.object "LogSpooler$LogFile")), Cond.methodLink RX5 210 yX2_has, Cond.instanceMethod yX2_has, Cond.selects RX2 yX2_has yX2_has, Cond.code yX2_has cX2_has 2 (some .boolean), Cond.methodLink RX5 216 yX2_linesOf, Cond.instanceMethod yX2_linesOf, Cond.selects RX2 yX2_linesOf yX2_linesOf, Cond.code yX2_linesOf cX2_linesOf 3 (some .int), Cond.methodLink RX2 50 yX2_startOf, Cond.instanceMethod yX2_startOf, Cond.selects RX2 yX2_startOf yX2_startOf, Cond.code yX2_startOf cX2_startOf 3 (some .int), Cond.methodLink RL 31 yX5_generations, Cond.instanceMethod yX5_generations, Cond.selects RX5 yX5_generations yX5_generations, Cond.code yX5_generations cX5_generations 2 (some .int), Cond.fieldLink RX5 175 "LogSpooler$LogFile" "olderOnes" "I", Cond.methodLink RL 114 yL_draw, Cond.static yL_draw, Cond.initialized RL]
def wsL_law0_r7 : List Cond := [Cond.code yL_draw cL_draw 2 (some .int), Cond.constant RL 7 (2147483647), Cond.constant RL 8 (104729), Cond.constant RL 9 (65521), Cond.methodLink RL 118 yL_step, Cond.static yL_step, Cond.code yL_step cL_step 11 (some .boolean), Cond.methodLink RL 10 yX5_setRule, Cond.instanceMethod yX5_setRule, Cond.selects RX5 yX5_setRule yX5_setRule, Cond.code yX5_setRule cX5_setRule 7 (some .int), Cond.classLink RX5 63 "java/lang/IllegalArgumentException", Cond.initialized "java/lang/IllegalArgumentException", Cond.methodLink RX5 76 yX5_ruleAt, Cond.instanceMethod yX5_ruleAt, Cond.selects RX5 yX5_ruleAt yX5_ruleAt, Cond.code yX5_ruleAt cX5_ruleAt 2 (some (.object "LogSpooler$Rule")), Cond.methodLink RX5 59 yX5_isWithin, Cond.static yX5_isWithin, Cond.code yX5_isWithin cX5_isWithin 3 (some .boolean), Cond.methodLink RX5 87 yX3_put, Cond.instanceMethod yX3_put, Cond.selects RX3 yX3_put yX3_put, Cond.code yX3_put cX3_put 5 none]
def wsL_law0_r8 : List Cond := [Cond.methodLink RX5 91 yX5_rulesThatAreSet, Cond.instanceMethod yX5_rulesThatAreSet, Cond.selects RX5 yX5_rulesThatAreSet yX5_rulesThatAreSet, Cond.code yX5_rulesThatAreSet cX5_rulesThatAreSet 3 (some .int), Cond.fieldLink RX5 95 "LogSpooler$Rule" "isSet" "Z", Cond.methodLink RL 16 yX5_setRate, Cond.instanceMethod yX5_setRate, Cond.selects RX5 yX5_setRate yX5_setRate, Cond.code yX5_setRate cX5_setRate 5 (some .int), Cond.methodLink RX5 70 yX4_capTokens, Cond.instanceMethod yX4_capTokens, Cond.selects RX4 yX4_capTokens yX4_capTokens, Cond.code yX4_capTokens cX4_capTokens 2 none, Cond.methodLink RL 20 yX5_setFold, Cond.instanceMethod yX5_setFold, Cond.selects RX5 yX5_setFold yX5_setFold, Cond.code yX5_setFold cX5_setFold 3 (some .int), Cond.methodLink RL 24 yX5_setFile, Cond.instanceMethod yX5_setFile, Cond.selects RX5 yX5_setFile yX5_setFile, Cond.code yX5_setFile cX5_setFile 6 (some .int), Cond.fieldLink RX5 109 "LogSpooler$LogFile" "sumOfLengths" "I", Cond.methodLink RX5 105 yX2_limit, Cond.instanceMethod yX2_limit]
def wsL_law0_r9 : List Cond := [Cond.selects RX2 yX2_limit yX2_limit, Cond.code yX2_limit cX2_limit 4 none, Cond.methodLink RL 28 yX5_size, Cond.instanceMethod yX5_size, Cond.selects RX5 yX5_size yX5_size, Cond.code yX5_size cX5_size 2 (some .int), Cond.methodLink RL 34 yL_passes, Cond.static yL_passes, Cond.code yL_passes cL_passes 5 (some .boolean), Cond.methodLink RL 53 yX5_pass, Cond.instanceMethod yX5_pass, Cond.selects RX5 yX5_pass yX5_pass, Cond.code yX5_pass cX5_pass 4 (some .int), Cond.methodLink RX5 161 yX5_rotationsOfAllFiles, Cond.instanceMethod yX5_rotationsOfAllFiles, Cond.selects RX5 yX5_rotationsOfAllFiles yX5_rotationsOfAllFiles, Cond.code yX5_rotationsOfAllFiles cX5_rotationsOfAllFiles 3 (some .int), Cond.fieldLink RX5 295 "LogSpooler$LogFile" "rotations" "I", Cond.methodLink RX5 164 yX5_passOneSecond, Cond.instanceMethod yX5_passOneSecond, Cond.selects RX5 yX5_passOneSecond yX5_passOneSecond, Cond.code yX5_passOneSecond cX5_passOneSecond 1 none, Cond.methodLink RX5 273 yX5_giveTokens, Cond.instanceMethod yX5_giveTokens]
def wsL_law0_r10 : List Cond := [Cond.selects RX5 yX5_giveTokens yX5_giveTokens, Cond.code yX5_giveTokens cX5_giveTokens 2 none, Cond.methodLink RX5 282 yX4_gainToken, Cond.instanceMethod yX4_gainToken, Cond.selects RX4 yX4_gainToken yX4_gainToken, Cond.code yX4_gainToken cX4_gainToken 2 none, Cond.methodLink RX5 276 yX5_tellDueRepeats, Cond.instanceMethod yX5_tellDueRepeats, Cond.selects RX5 yX5_tellDueRepeats yX5_tellDueRepeats, Cond.code yX5_tellDueRepeats cX5_tellDueRepeats 3 none, Cond.methodLink RX5 285 yX5_firstWithDueRepeats, Cond.instanceMethod yX5_firstWithDueRepeats, Cond.selects RX5 yX5_firstWithDueRepeats yX5_firstWithDueRepeats, Cond.code yX5_firstWithDueRepeats cX5_firstWithDueRepeats 5 (some (.object "LogSpooler$Sender")), Cond.fieldLink RX5 207 "LogSpooler$Sender" "untoldRepeats" "I", Cond.fieldLink RX5 289 "LogSpooler$Sender" "firstRepeat" "I", Cond.methodLink RX5 138 yX5_tellRepeats, Cond.instanceMethod yX5_tellRepeats, Cond.selects RX5 yX5_tellRepeats yX5_tellRepeats, Cond.code yX5_tellRepeats cX5_tellRepeats 3 none, Cond.fieldLink RX5 251 "LogSpooler$Sender" "number" "I", Cond.fieldLink RX5 254 "LogSpooler$Sender" "lastFacility" "I", Cond.fieldLink RX5 257 "LogSpooler$Sender" "lastSeverity" "I", Cond.methodLink RX5 157 yX5_route]
def wsL_law0_r11 : List Cond := [Cond.instanceMethod yX5_route, Cond.selects RX5 yX5_route yX5_route, Cond.code yX5_route cX5_route 10 (some .int), Cond.fieldLink RX5 261 "LogSpooler$Rule" "target" "I", Cond.methodLink RX5 264 yX3_fits, Cond.instanceMethod yX3_fits, Cond.selects RX3 yX3_fits yX3_fits, Cond.code yX3_fits cX3_fits 4 (some .boolean), Cond.methodLink RX5 267 yX2_add, Cond.instanceMethod yX2_add, Cond.selects RX2 yX2_add yX2_add, Cond.code yX2_add cX2_add 4 none, Cond.methodLink RX2 43 yX2_isEmpty, Cond.instanceMethod yX2_isEmpty, Cond.selects RX2 yX2_isEmpty yX2_isEmpty, Cond.code yX2_isEmpty cX2_isEmpty 1 (some .boolean), Cond.methodLink RX2 47 yX2_turnOver, Cond.instanceMethod yX2_turnOver, Cond.selects RX2 yX2_turnOver yX2_turnOver, Cond.code yX2_turnOver cX2_turnOver 2 none, Cond.methodLink RX5 270 yX0_take, Cond.instanceMethod yX0_take, Cond.selects RX0 yX0_take yX0_take, Cond.code yX0_take cX0_take 2 none]
def wsL_law0_r12 : List Cond := [Cond.methodLink RX5 279 yX5_rotateAgedFiles, Cond.instanceMethod yX5_rotateAgedFiles, Cond.selects RX5 yX5_rotateAgedFiles yX5_rotateAgedFiles, Cond.code yX5_rotateAgedFiles cX5_rotateAgedFiles 2 none, Cond.methodLink RX5 292 yX2_isAged, Cond.instanceMethod yX2_isAged, Cond.selects RX2 yX2_isAged yX2_isAged, Cond.code yX2_isAged cX2_isAged 2 (some .boolean), Cond.methodLink RX5 172 yX2_turnOver, Cond.methodLink RL 60 yX5_repeats, Cond.instanceMethod yX5_repeats, Cond.selects RX5 yX5_repeats yX5_repeats, Cond.code yX5_repeats cX5_repeats 2 (some .int), Cond.methodLink RL 43 yX5_rotate, Cond.instanceMethod yX5_rotate, Cond.selects RX5 yX5_rotate yX5_rotate, Cond.code yX5_rotate cX5_rotate 3 (some .int), Cond.classLink RX5 122 "java/lang/IllegalStateException", Cond.initialized "java/lang/IllegalStateException", Cond.methodLink RX5 167 yX2_isEmpty, Cond.methodLink RL 46 yL_forwards, Cond.static yL_forwards, Cond.code yL_forwards cL_forwards 6 (some .boolean), Cond.methodLink RL 69 yX5_inFlight]
def wsL_law0_r13 : List Cond := [Cond.instanceMethod yX5_inFlight, Cond.selects RX5 yX5_inFlight yX5_inFlight, Cond.code yX5_inFlight cX5_inFlight 1 (some .int), Cond.methodLink RX5 188 yX0_flying, Cond.instanceMethod yX0_flying, Cond.selects RX0 yX0_flying yX0_flying, Cond.code yX0_flying cX0_flying 1 (some .int), Cond.methodLink RL 72 yX5_connect, Cond.instanceMethod yX5_connect, Cond.selects RX5 yX5_connect yX5_connect, Cond.code yX5_connect cX5_connect 1 (some .int), Cond.fieldLink RX5 178 "LogSpooler$Forwarder" "isConnected" "Z", Cond.methodLink RL 75 yX5_disconnect, Cond.instanceMethod yX5_disconnect, Cond.selects RX5 yX5_disconnect yX5_disconnect, Cond.code yX5_disconnect cX5_disconnect 2 (some .int), Cond.methodLink RX5 191 yX0_loseConnection, Cond.instanceMethod yX0_loseConnection, Cond.selects RX0 yX0_loseConnection yX0_loseConnection, Cond.code yX0_loseConnection cX0_loseConnection 1 none, Cond.methodLink RL 78 yX5_acknowledged, Cond.instanceMethod yX5_acknowledged, Cond.selects RX5 yX5_acknowledged yX5_acknowledged, Cond.code yX5_acknowledged cX5_acknowledged 1 (some .int)]
def wsL_law0_r14 : List Cond := [Cond.fieldLink RX5 225 "LogSpooler$Forwarder" "acknowledgedOnes" "I", Cond.methodLink RL 81 yX5_acknowledge, Cond.instanceMethod yX5_acknowledge, Cond.selects RX5 yX5_acknowledge yX5_acknowledge, Cond.code yX5_acknowledge cX5_acknowledge 1 (some .int), Cond.methodLink RX5 204 yX0_acknowledgeFirst, Cond.instanceMethod yX0_acknowledgeFirst, Cond.selects RX0 yX0_acknowledgeFirst yX0_acknowledgeFirst, Cond.code yX0_acknowledgeFirst cX0_acknowledgeFirst 2 (some .int), Cond.methodLink RX0 39 yX0_lineAt, Cond.instanceMethod yX0_lineAt, Cond.selects RX0 yX0_lineAt yX0_lineAt, Cond.code yX0_lineAt cX0_lineAt 2 (some .int), Cond.methodLink RL 84 yX5_send, Cond.instanceMethod yX5_send, Cond.selects RX5 yX5_send yX5_send, Cond.code yX5_send cX5_send 1 (some .int), Cond.methodLink RX5 194 yX0_canSend, Cond.instanceMethod yX0_canSend, Cond.selects RX0 yX0_canSend yX0_canSend, Cond.code yX0_canSend cX0_canSend 1 (some .boolean), Cond.methodLink RX0 32 yX0_waiting, Cond.methodLink RX0 36 yX0_flying, Cond.methodLink RX5 199 yX0_sendFirst]
def wsL_law0_r15 : List Cond := [Cond.instanceMethod yX0_sendFirst, Cond.selects RX0 yX0_sendFirst yX0_sendFirst, Cond.code yX0_sendFirst cX0_sendFirst 2 (some .int), Cond.methodLink RL 49 yL_comes, Cond.static yL_comes, Cond.code yL_comes cL_comes 15 (some .boolean), Cond.methodLink RL 87 yX5_drops, Cond.instanceMethod yX5_drops, Cond.selects RX5 yX5_drops yX5_drops, Cond.code yX5_drops cX5_drops 2 (some .int), Cond.fieldLink RX5 145 "LogSpooler$Sender" "untoldDrops" "I", Cond.methodLink RL 90 yX5_message, Cond.instanceMethod yX5_message, Cond.selects RX5 yX5_message yX5_message, Cond.code yX5_message cX5_message 8 (some .int), Cond.methodLink RX5 118 yX1_isFull, Cond.instanceMethod yX1_isFull, Cond.selects RX1 yX1_isFull yX1_isFull, Cond.code yX1_isFull cX1_isFull 1 (some .boolean), Cond.methodLink RX5 127 yX4_lastIs, Cond.instanceMethod yX4_lastIs, Cond.selects RX4 yX4_lastIs yX4_lastIs, Cond.code yX4_lastIs cX4_lastIs 5 (some .boolean), Cond.methodLink RX5 131 yX4_countRepeat]
def wsL_law0_r16 : List Cond := [Cond.instanceMethod yX4_countRepeat, Cond.selects RX4 yX4_countRepeat yX4_countRepeat, Cond.code yX4_countRepeat cX4_countRepeat 2 none, Cond.methodLink RX5 134 yX1_enter, Cond.instanceMethod yX1_enter, Cond.selects RX1 yX1_enter yX1_enter, Cond.code yX1_enter cX1_enter 3 (some .int), Cond.methodLink RX5 148 yX5_tellDrops, Cond.instanceMethod yX5_tellDrops, Cond.selects RX5 yX5_tellDrops yX5_tellDrops, Cond.code yX5_tellDrops cX5_tellDrops 3 none, Cond.constant RX5 260 (100000), Cond.methodLink RX5 151 yX4_setLast, Cond.instanceMethod yX4_setLast, Cond.selects RX4 yX4_setLast yX4_setLast, Cond.code yX4_setLast cX4_setLast 5 none, Cond.methodLink RL 96 yX5_fateOf, Cond.instanceMethod yX5_fateOf, Cond.selects RX5 yX5_fateOf yX5_fateOf, Cond.code yX5_fateOf cX5_fateOf 2 (some .int), Cond.methodLink RX5 231 yX1_has, Cond.instanceMethod yX1_has, Cond.selects RX1 yX1_has yX1_has, Cond.code yX1_has cX1_has 2 (some .boolean)]
def wsL_law0_r17 : List Cond := [Cond.methodLink RX5 234 yX1_fateAt, Cond.instanceMethod yX1_fateAt, Cond.selects RX1 yX1_fateAt yX1_fateAt, Cond.code yX1_fateAt cX1_fateAt 2 (some .int), Cond.methodLink RL 99 yX5_targetsOf, Cond.instanceMethod yX5_targetsOf, Cond.selects RX5 yX5_targetsOf yX5_targetsOf, Cond.code yX5_targetsOf cX5_targetsOf 2 (some .int), Cond.methodLink RX5 242 yX1_targetsAt, Cond.instanceMethod yX1_targetsAt, Cond.selects RX1 yX1_targetsAt yX1_targetsAt, Cond.code yX1_targetsAt cX1_targetsAt 2 (some .int), Cond.methodLink RL 102 yX5_line, Cond.instanceMethod yX5_line, Cond.selects RX5 yX5_line yX5_line, Cond.code yX5_line cX5_line 5 (some .int), Cond.methodLink RX5 222 yX2_lineAt, Cond.instanceMethod yX2_lineAt, Cond.selects RX2 yX2_lineAt yX2_lineAt, Cond.code yX2_lineAt cX2_lineAt 4 (some .int), Cond.methodLink RL 122 yL_areFiles, Cond.static yL_areFiles, Cond.code yL_areFiles cL_areFiles 12 (some .boolean), Cond.constant RL 106 (100000)]
def wsL_law0_r18 : List Cond := [Cond.methodLink RL 126 yL_isLedger, Cond.static yL_isLedger, Cond.code yL_isLedger cL_isLedger 8 (some .boolean), Cond.methodLink RL 107 yX5_count, Cond.instanceMethod yX5_count, Cond.selects RX5 yX5_count yX5_count, Cond.code yX5_count cX5_count 2 (some .int), Cond.methodLink RX5 239 yX1_entriesWith, Cond.instanceMethod yX1_entriesWith, Cond.selects RX1 yX1_entriesWith yX1_entriesWith, Cond.code yX1_entriesWith cX1_entriesWith 4 (some .int)]
def wsL_law0 : List Cond := (wsL_law0_r1 ++ (wsL_law0_r2 ++ (wsL_law0_r3 ++ (wsL_law0_r4 ++ (wsL_law0_r5 ++ (wsL_law0_r6 ++ (wsL_law0_r7 ++ (wsL_law0_r8 ++ (wsL_law0_r9 ++ (wsL_law0_r10 ++ (wsL_law0_r11 ++ (wsL_law0_r12 ++ (wsL_law0_r13 ++ (wsL_law0_r14 ++ (wsL_law0_r15 ++ (wsL_law0_r16 ++ (wsL_law0_r17 ++ wsL_law0_r18))))))))))))))))) ++ wsX50 ++ wsX00 ++ wsX10 ++ wsX40 ++ wsX30 ++ wsX20 ++ ([] : List Cond)
def wsL_law : List Cond := wsL_law0 ++ (vx_atS RX5 84 "java/lang/IndexOutOfBoundsException" ["java/lang/RuntimeException", "java/lang/Exception"]).filter goodWord ++ (vx_atS RX5 67 "java/lang/IllegalArgumentException" ["java/lang/RuntimeException", "java/lang/Exception"]).filter goodWord ++ (vx_atS RX5 126 "java/lang/IllegalStateException" ["java/lang/RuntimeException", "java/lang/Exception"]).filter goodWord
abbrev vwCl : List vw_C := [(RX0, TX0, 6), (RX1, TX1, 3), (RX2, TX2, 10), (RX3, TX3, 5), (RX4, TX4, 9), (RX5, TX5, 9)]
end
section
/-! THE STATIC WORLD: all objects of the class and of the reference are made in constructors; each has a number (its id); `ad` gives the address of an id; the whole mutable state is one function `xH`: id, place (slot or index) to int. -/
abbrev xH : Type := Nat → Nat → Int32
def xup (h : xH) (k j : Nat) (x : Int32) : xH := fun a b => if a = k then (if b = j then x else h a b) else h a b
theorem xup_same {h : xH} {k j : Nat} {x : Int32} : xup h k j x k j = x := by simp [xup]
theorem xup_ne {h : xH} {k j a b : Nat} {x : Int32} (hn : a ≠ k ∨ b ≠ j) : xup h k j x a b = h a b := by
  unfold xup
  by_cases h1 : a = k
  · by_cases h2 : b = j
    · exact absurd h2 (hn.resolve_left (fun q => q h1))
    · rw [if_pos h1, if_neg h2]
  · rw [if_neg h1]
abbrev xL : Type := List (Option Nat)
abbrev xSh : Type := (Nat × Nat × Option Nat) ⊕ (Nat × xL)
def xsh (ad : Nat → Nat) (k : Nat) : Option xSh :=
  if 10 ≤ k ∧ k < 16 then some (.inr (4, [none, none, none, none, none, none, none, none, none]))
  else if 20 ≤ k ∧ k < 26 then some (.inr (3, [none, none, none, none, none]))
  else if 30 ≤ k ∧ k < 34 then some (.inr (2, [some (k + 10), some (k + 20), none, none, none, none, none, none, none, none]))
  else if 40 ≤ k ∧ k < 44 then some (.inl (0, 400, none))
  else if 50 ≤ k ∧ k < 54 then some (.inl (0, 6, none))
  else if k = 0 then some (.inr (5, [some 1, some 2, some 3, some 4, some 6, none, none, none, none]))
  else if k = 1 then some (.inl (1, 6, some 10))
  else if k = 2 then some (.inl (2, 6, some 20))
  else if k = 3 then some (.inl (3, 4, some 30))
  else if k = 4 then some (.inr (0, [some 5, none, none, none, none, none]))
  else if k = 5 ∨ k = 7 ∨ k = 8 then some (.inl (0, 400, none))
  else if k = 6 then some (.inr (1, [some 7, some 8, none]))
  else if k = 101 then some (.inl (0, 60, none))
  else if k = 102 then some (.inl (0, 14, none))
  else if k = 103 ∧ ad 103 ≠ 0 then some (.inl (0, 4, none))
  else none
theorem xsS {ad : Nat → Nat} {k : Nat} (hk : 10 ≤ k ∧ k < 16) : xsh ad k = some (.inr (4, [none, none, none, none, none, none, none, none, none])) := by rw [xsh, if_pos hk]
theorem xsR {ad : Nat → Nat} {k : Nat} (hk : 20 ≤ k ∧ k < 26) : xsh ad k = some (.inr (3, [none, none, none, none, none])) := by rw [xsh, if_neg (by omega), if_pos hk]
theorem xsF {ad : Nat → Nat} {k : Nat} (hk : 30 ≤ k ∧ k < 34) : xsh ad k = some (.inr (2, [some (k + 10), some (k + 20), none, none, none, none, none, none, none, none])) := by rw [xsh, if_neg (by omega), if_neg (by omega), if_pos hk]
theorem xsFr {ad : Nat → Nat} {k : Nat} (hk : 30 ≤ k ∧ k < 34) : xsh ad (k + 10) = some (.inl (0, 400, none)) := by rw [xsh, if_neg (by omega), if_neg (by omega), if_neg (by omega), if_pos (by omega)]
theorem xsFs {ad : Nat → Nat} {k : Nat} (hk : 30 ≤ k ∧ k < 34) : xsh ad (k + 20) = some (.inl (0, 6, none)) := by rw [xsh, if_neg (by omega), if_neg (by omega), if_neg (by omega), if_neg (by omega), if_pos (by omega)]
theorem xs0 {ad : Nat → Nat} : xsh ad 0 = some (.inr (5, [some 1, some 2, some 3, some 4, some 6, none, none, none, none])) := rfl
theorem xs1 {ad : Nat → Nat} : xsh ad 1 = some (.inl (1, 6, some 10)) := rfl
theorem xs2 {ad : Nat → Nat} : xsh ad 2 = some (.inl (2, 6, some 20)) := rfl
theorem xs3 {ad : Nat → Nat} : xsh ad 3 = some (.inl (3, 4, some 30)) := rfl
theorem xs4 {ad : Nat → Nat} : xsh ad 4 = some (.inr (0, [some 5, none, none, none, none, none])) := rfl
theorem xs5 {ad : Nat → Nat} : xsh ad 5 = some (.inl (0, 400, none)) := rfl
theorem xs6 {ad : Nat → Nat} : xsh ad 6 = some (.inr (1, [some 7, some 8, none])) := rfl
theorem xs7 {ad : Nat → Nat} : xsh ad 7 = some (.inl (0, 400, none)) := rfl
theorem xs8 {ad : Nat → Nat} : xsh ad 8 = some (.inl (0, 400, none)) := rfl
theorem xs101 {ad : Nat → Nat} : xsh ad 101 = some (.inl (0, 60, none)) := rfl
theorem xs102 {ad : Nat → Nat} : xsh ad 102 = some (.inl (0, 14, none)) := rfl
theorem xs103 {ad : Nat → Nat} (h : ad 103 ≠ 0) : xsh ad 103 = some (.inl (0, 4, none)) := by
  rw [xsh, if_neg (by omega), if_neg (by omega), if_neg (by omega), if_neg (by omega), if_neg (by omega), if_neg (by omega), if_neg (by omega), if_neg (by omega), if_neg (by omega), if_neg (by omega), if_neg (by omega), if_neg (by omega), if_neg (by omega), if_neg (by omega), if_pos ⟨rfl, h⟩]
theorem xsh_ne {ad ad' : Nat → Nat} {k : Nat} (h : k ≠ 103) : xsh ad' k = xsh ad k := by
  unfold xsh
  rw [if_neg (fun q : k = 103 ∧ ad' 103 ≠ 0 => h q.1), if_neg (fun q : k = 103 ∧ ad 103 ≠ 0 => h q.1)]
theorem xsh_no {ad : Nat → Nat} (h : ad 103 = 0) : xsh ad 103 = none := by
  rw [xsh, if_neg (by omega), if_neg (by omega), if_neg (by omega), if_neg (by omega), if_neg (by omega), if_neg (by omega), if_neg (by omega), if_neg (by omega), if_neg (by omega), if_neg (by omega), if_neg (by omega), if_neg (by omega), if_neg (by omega), if_neg (by omega), if_neg (fun q => q.2 h)]
def xfv (ad : Nat → Nat) (h : xH) (k j : Nat) (r : Option Nat) : Value := match r with
  | none => .int (h k j)
  | some q => .ref (ad q)
def xfs (ad : Nat → Nat) (h : xH) (k : Nat) (lay : xL) : List Value := lay.mapIdx (fun j r => xfv ad h k j r)
def xent (ad : Nat → Nat) (T : Nat → ClassId) (h : xH) (k : Nat) (sh : xSh) : va_E := match sh with
  | .inl (t, n, none) => .inl (T t, n, .inl (h k))
  | .inl (t, n, some b) => .inl (T t, n, .inr (.inr (.inr (.inr (fun j => some (ad (b + j)))))))
  | .inr (ci, lay) => .inr (ci, xfs ad h k lay)
theorem xfs_int {ad : Nat → Nat} {h : xH} {k j : Nat} {lay : xL} (hl : lay[j]? = some none) : (xfs ad h k lay)[j]? = some (.int (h k j)) := by
  simp [xfs, hl, xfv]
theorem xfs_ref {ad : Nat → Nat} {h : xH} {k j q : Nat} {lay : xL} (hl : lay[j]? = some (some q)) : (xfs ad h k lay)[j]? = some (.ref (ad q)) := by
  simp [xfs, hl, xfv]
theorem xfs_len {ad : Nat → Nat} {h : xH} {k : Nat} {lay : xL} : (xfs ad h k lay).length = lay.length := by simp [xfs]
theorem xfs_set {ad : Nat → Nat} {h : xH} {k j : Nat} {lay : xL} {x : Int32} (hl : lay[j]? = some none) : (xfs ad h k lay).set j (.int x) = xfs ad (xup h k j x) k lay := by
  apply List.ext_getElem?
  intro i
  have hj : j < lay.length := (List.getElem?_eq_some_iff.mp hl).1
  by_cases e : i = j
  · subst e
    rw [List.getElem?_set_self (by rw [xfs_len]; exact hj), xfs_int hl, xup_same]
  · rw [List.getElem?_set_ne (Ne.symm e)]
    simp only [xfs, List.getElem?_mapIdx]
    cases hq : lay[i]? with
    | none => rfl
    | some r =>
      cases r with
      | none => simp [xfv, xup_ne (Or.inr e)]
      | some q => simp [xfv]
theorem xfs_other {ad : Nat → Nat} {h : xH} {k k' j : Nat} {lay : xL} {x : Int32} (hk : k' ≠ k) : xfs ad (xup h k j x) k' lay = xfs ad h k' lay := by
  apply List.ext_getElem?
  intro i
  simp only [xfs, List.getElem?_mapIdx]
  cases hq : lay[i]? with
  | none => rfl
  | some r =>
    cases r with
    | none => simp [xfv, xup_ne (Or.inl hk)]
    | some q => simp [xfv]
theorem xup_row {h : xH} {k j k' : Nat} {x : Int32} (hk : k' ≠ k) : xup h k j x k' = h k' := by
  funext b
  exact xup_ne (Or.inl hk)
theorem xent_other {ad : Nat → Nat} {T : Nat → ClassId} {h : xH} {k k' j : Nat} {x : Int32} (sh : xSh) (hk : k' ≠ k) : xent ad T (xup h k j x) k' sh = xent ad T h k' sh := by
  match sh with
  | .inl (t, n, none) => simp only [xent, xup_row hk]
  | .inl (t, n, some b) => rfl
  | .inr (ci, lay) => simp only [xent, xfs_other hk]
def XP (ad : Nat → Nat) (D : va_G) (T : Nat → ClassId) (h : xH) (H : Heap) : Prop := ∀ (k : Nat) (sh : xSh), xsh ad k = some sh → va_at D vwCl (ad k, xent ad T h k sh) H
def XA (B0 : Nat) (ad : Nat → Nat) : Prop := (∀ (i j : Nat) (a b : xSh), xsh ad i = some a → xsh ad j = some b → ad i = ad j → i = j) ∧ ∀ (i : Nat) (a : xSh), xsh ad i = some a → B0 ≤ ad i
abbrev xtys (T : Nat → ClassId) : List (ClassId × FieldType) := [(T 0, .int), (T 1, .object RX4), (T 2, .object RX3), (T 3, .object RX2)]
abbrev XK (D : va_G) (T : Nat → ClassId) (U : State) : Prop := va_K D vwCl (xtys T) U
theorem XP.one {ad : Nat → Nat} {D : va_G} {T : Nat → ClassId} {h : xH} {H : Heap} (hP : XP ad D T h H) {k : Nat} {sh : xSh} (hs : xsh ad k = some sh) : va_P D vwCl [(ad k, xent ad T h k sh)] H := by
  intro i q hq
  match i, hq with
  | 0, hq => cases hq; exact hP k sh hs
  | i + 1, hq => simp at hq
theorem XP.set {ad : Nat → Nat} {D : va_G} {T : Nat → ClassId} {h : xH} {H H1 : Heap} {B0 : Nat} (hA : XA B0 ad) (hP : XP ad D T h H) {k j : Nat} {x : Int32} {sh : xSh} (hs : xsh ad k = some sh) (he : va_at D vwCl (ad k, xent ad T (xup h k j x) k sh) H1) (oq : ∀ q : Nat, q ≠ ad k → H1[q]? = H[q]?) : XP ad D T (xup h k j x) H1 := by
  intro k' sh' hs'
  by_cases e : k' = k
  · subst e
    cases hs.symm.trans hs'
    exact he
  · rw [xent_other sh' e]
    exact (hP k' sh' hs').kept (oq (ad k') (fun z => e (hA.1 _ _ _ _ hs' hs z)))
theorem XP.kept {ad : Nat → Nat} {D : va_G} {T : Nat → ClassId} {h : xH} {H H1 : Heap} (hP : XP ad D T h H) (hq : ∀ k sh, xsh ad k = some sh → H1[ad k]? = H[ad k]?) : XP ad D T h H1 := fun k sh hs => (hP k sh hs).kept (hq k sh hs)
theorem XP.lt {ad : Nat → Nat} {D : va_G} {T : Nat → ClassId} {h : xH} {H : Heap} (hP : XP ad D T h H) {k : Nat} {sh : xSh} (hs : xsh ad k = some sh) : ad k < H.size := (hP k sh hs).lt
-- what the throws need of the start: words that no method's list holds, texts, two statics
def XN (_ : Nat) (_ : State) (_ : Heap) : Prop := True
theorem XN.warm {B0 : Nat} {s U : State} {H : Heap} (_ : s.WarmedH U.vm) (_ : XN B0 s H) : XN B0 U H := trivial
theorem XN.kept {B0 : Nat} {U : State} {H H1 : Heap} (_ : XN B0 U H) (_ : ∀ a : Nat, a < H.size → ¬ B0 ≤ a → H1[a]? = H[a]?) : XN B0 U H1 := trivial
theorem XN.call {B0 : Nat} {U : State} {H : Heap} {g : JFrame} {mk : MethodId} {a : Array Value} (_ : XN B0 U H) : XN B0 (U.calling g mk a) H := trivial
/-- THE WORLD of a state -/
def XW (B0 : Nat) (ad : Nat → Nat) (D : va_G) (T : Nat → ClassId) (h : xH) (U : State) : Prop := B0 ≤ U.heap.size ∧ XP ad D T h U.heap ∧ XK D T U ∧ XN B0 U U.heap
theorem XW.call {B0 : Nat} {ad : Nat → Nat} {D : va_G} {T : Nat → ClassId} {h : xH} {U : State} {g : JFrame} {mk : MethodId} {a : Array Value} (q : XW B0 ad D T h U) : XW B0 ad D T h (U.calling g mk a) := ⟨q.1, q.2.1, va_K.moved (u := U) (U := U.calling g mk a) (Vm.Alike.refl U.vm) q.2.2.1, q.2.2.2.call⟩
theorem XW.mk {B0 : Nat} {ad : Nat → Nat} {D : va_G} {T : Nat → ClassId} {h : xH} {s U : State} {H : Heap} {locs : List Loc} (hB0 : B0 ≤ s.heap.size) (hP : XP ad D T h H) (hK : XK D T s) (hN : XN B0 s s.heap) (hS : va_S (fun q => B0 ≤ q) s.heap H locs) (hU : U.heap = H) (hW : s.WarmedH U.vm) : XW B0 ad D T h U :=
  ⟨by rw [hU]; exact Nat.le_trans hB0 hS.1, by rw [hU]; exact hP, va_K.moved hW.alike hK, by rw [hU]; exact (hN.kept (fun a h1 h2 => hS.2.1 a h1 h2)).warm hW⟩
-- CONTRACTS: what a method does to the world, by a predicate K on its answer and the new world (its 'wp' is a premise of the contract's theorem)
def XQ {α : Type} (B0 : Nat) (ad : Nat → Nat) (D : va_G) (T : Nat → ClassId) (enc : α → Option Value) (K : α → xH → Prop) : Array Value → State → Outcome → State → Prop := fun _ st o t => (∃ (r : α) (h' : xH), o = .returned (enc r) ∧ K r h' ∧ XP ad D T h' t.heap) ∧ va_F (fun q => B0 ≤ q) st t
abbrev xei : Int32 → Option Value := fun x => some (.int x)
abbrev xev : Unit → Option Value := fun _ => none
abbrev xer (ad : Nat → Nat) : Nat → Option Value := fun k => some (.ref (ad k))
abbrev xeq (ad : Nat → Nat) : Option Nat → Option Value := fun o => some (va_rf (o.map ad))
def XM {α : Type} (l : Launch) (y : MethodName) (ws : List Cond) (rm : Room) (B0 : Nat) (ad : Nat → Nat) (D : va_G) (T : Nat → ClassId) (h : xH) (As : List Value) (enc : α → Option Value) (K : α → xH → Prop) (mc ms : Nat) : Prop :=
  Met l y ws rm (va_Pc As (XW B0 ad D T h)) (XQ B0 ad D T enc K) mc ms (fun q => B0 ≤ q)
theorem xblind {B0 : Nat} {ad : Nat → Nat} {D : va_G} {T : Nat → ClassId} {h : xH} {As : List Value} : FrameBlind (va_Pc As (XW B0 ad D T h)) := fun _ _ _ _ q => ⟨q.1, q.2.call⟩
section XROWS
variable {p : Program} {l : Launch} {e : Env} {R : Room} {s : State} {m : MethodId} {args : Array Value} {below : List Frame} {meth : Method} {c : Code} {H : Heap} {locs : List Loc} {cells slots : Nat} {Q : State → Prop}
variable {cc : ByteArray} {pc : Nat} {ls : Array Slot} {rest : List Value} {ad : Nat → Nat} {D : va_G} {T : Nat → ClassId} {h : xH} {B0 : Nat} {H0 : Heap}
theorem xg_get (hexec : p.tables.exec = Jvm.exec) (hb : c.code = cc) {own ref C : String} {TC : u_T} {N ci index : Nat} {Ts : List Cond} (hts : ∀ w ∈ Ts, w.before args s = true) (hin : ∀ w ∈ u_ws C TC N, w ∈ Ts) (hown : s.vm.findClass own = some m.cls) (hK : XK D T s) (hP : XP ad D T h H) {k : Nat} {lay : xL} (hsh : xsh ad k = some (.inr (ci, lay))) (hc : vwCl[ci]? = some (C, TC, N)) (j : Nat) (hj : j < N) (hlink : (Cond.fieldLink own index ref (TC j).2.1 (TC j).2.2.1).before args s = true) (hsame : ∀ x, s.fieldFound? (TC j).1 (TC j).2.1 (TC j).2.2.1 = some x → s.fieldFound? ref (TC j).2.1 (TC j).2.2.1 = some x) (hl : lay[j]? = some none) (hdg : decode cc pc = .ok (.getfield index, 3))
    (kk : W p l e R s m args below meth c H locs cells slots Q (F0 m (pc + 3) ls (.int (h k j) :: rest))) : W p l e R s m args below meth c H locs cells slots Q (F0 m pc ls (.ref (ad k) :: rest)) :=
  va_get hexec hb hts hin hown hK (hP.one hsh) 0 rfl hc j hj hlink hsame (xfs_int hl) hdg kk
theorem xg_getr (hexec : p.tables.exec = Jvm.exec) (hb : c.code = cc) {own ref C : String} {TC : u_T} {N ci index : Nat} {Ts : List Cond} (hts : ∀ w ∈ Ts, w.before args s = true) (hin : ∀ w ∈ u_ws C TC N, w ∈ Ts) (hown : s.vm.findClass own = some m.cls) (hK : XK D T s) (hP : XP ad D T h H) {k : Nat} {lay : xL} (hsh : xsh ad k = some (.inr (ci, lay))) (hc : vwCl[ci]? = some (C, TC, N)) (j : Nat) (hj : j < N) (hlink : (Cond.fieldLink own index ref (TC j).2.1 (TC j).2.2.1).before args s = true) (hsame : ∀ x, s.fieldFound? (TC j).1 (TC j).2.1 (TC j).2.2.1 = some x → s.fieldFound? ref (TC j).2.1 (TC j).2.2.1 = some x) {q : Nat} (hl : lay[j]? = some (some q)) (hdg : decode cc pc = .ok (.getfield index, 3))
    (kk : W p l e R s m args below meth c H locs cells slots Q (F0 m (pc + 3) ls (.ref (ad q) :: rest))) : W p l e R s m args below meth c H locs cells slots Q (F0 m pc ls (.ref (ad k) :: rest)) :=
  va_get hexec hb hts hin hown hK (hP.one hsh) 0 rfl hc j hj hlink hsame (xfs_ref hl) hdg kk
theorem xg_put (hexec : p.tables.exec = Jvm.exec) (hb : c.code = cc) {own ref C : String} {TC : u_T} {N ci index : Nat} {Ts : List Cond} (hts : ∀ w ∈ Ts, w.before args s = true) (hin : ∀ w ∈ u_ws C TC N, w ∈ Ts) (ty0 : Nat → FieldType) (hty : ∀ k, k < N → parseFieldDescriptor (TC k).2.2.1 = some (ty0 k)) (hnm : ∀ a, a < N → ∀ b, b < N → a ≠ b → (TC a).2.1 ≠ (TC b).2.1) (hown : s.vm.findClass own = some m.cls) (hK : XK D T s) (hP : XP ad D T h H) (hA : XA B0 ad) (hS0 : va_S (fun q => B0 ≤ q) H0 H locs) {k : Nat} {lay : xL} (hsh : xsh ad k = some (.inr (ci, lay))) (hc : vwCl[ci]? = some (C, TC, N)) (j : Nat) (hj : j < N) (hlink : (Cond.fieldLink own index ref (TC j).2.1 (TC j).2.2.1).before args s = true) (hsame : ∀ x, s.fieldFound? (TC j).1 (TC j).2.1 (TC j).2.2.1 = some x → s.fieldFound? ref (TC j).2.1 (TC j).2.2.1 = some x) (hl : lay[j]? = some none) (hfin : (TC j).2.2.2 = false) {ty : FieldType} {x : Int32} (hd : parseFieldDescriptor (TC j).2.2.1 = some ty) (hn : narrow ty (.int x) = .int x) (hfit : fits ty (.int x) = true)
    (hdg : decode cc pc = .ok (.putfield index, 3)) (kk : ∀ (H1 : Heap) (locs1 : List Loc) (h1 : xH), h1 = xup h k j x → XP ad D T h1 H1 → va_S (fun q => B0 ≤ q) H0 H1 locs1 → W p l e R s m args below meth c H1 locs1 cells slots Q (F0 m (pc + 3) ls rest)) : W p l e R s m args below meth c H locs cells slots Q (F0 m pc ls (.int x :: .ref (ad k) :: rest)) := by
  have hap := va_apart (own := own) hts hin ty0 hty hnm hK hc
  obtain ⟨r, h1, cell, q1, q2, q3, q4⟩ := hP k _ hsh
  have hr : r = (C, TC, N) := Option.some.inj (h1.symm.trans hc)
  subst hr
  obtain ⟨hSl, hfc, kC, hkC, hkind⟩ := hK.1 ci _ hc
  obtain ⟨cf, kf, fi, f, hi, hsl⟩ := hSl j hj
  have hlay := hts _ (hin _ (u_in_lay hj))
  unfold u_lay at hlay
  rw [if_neg (by rw [hfin]; decide)] at hlay
  have hst := (u_facts hfc hkC (u_lays hts hin hj) hi).1
  have h6 := u_store hfc hkC hkind hlay hi hd hn hfit
  have hjl : j < (xfs ad h k lay).length := by rw [xfs_len]; exact (List.getElem?_eq_some_iff.mp hl).1
  refine W.putK hexec hb (f := f) ⟨hown, hlink, ⟨_, _, _, hsame _ hi⟩, hst⟩ (by rw [q2]; exact h6) q1 q3 (by rw [hsl]; exact k2_hasslot (q4 j hj)) rfl rfl hdg fun H' e1 e2 e3 => ?_
  rw [hsl] at e1 ⊢
  refine kk H' _ _ rfl (XP.set hA hP hsh ?_ e3) (hS0.put e2 e3 (hA.2 k _ hsh))
  refine ⟨_, hc, ?_⟩
  rw [← xfs_set hl]
  exact t_OB.to (V := updV (vp_V (xfs ad h k lay)) j (.int x)) ⟨_, e1, q2, q3, t_set q4 hap hj (.int x)⟩ (fun i _ => vp_updV_set hjl (.int x) i)
theorem xcell_i {t n : Nat} {k : Nat} : xent ad T h k (.inl (t, n, none)) = .inl (T t, n, .inl (h k)) := rfl
theorem xupd {k j : Nat} {x : Int32} : upd (h k) j x = xup h k j x k := by
  funext b
  simp only [upd, xup, if_true]
theorem xg_iald (hexec : p.tables.exec = Jvm.exec) (hb : c.code = cc) (hK : XK D T s) (hP : XP ad D T h H) {k n : Nat} (hsh : xsh ad k = some (.inl (0, n, none))) {i : Int32} (hin : vp_in i n) (hdg : decode cc pc = .ok (.iaload, 1))
    (kk : W p l e R s m args below meth c H locs cells slots Q (F0 m (pc + 1) ls (.int (h k i.toNatClampNeg) :: rest))) : W p l e R s m args below meth c H locs cells slots Q (F0 m pc ls (.int i :: .ref (ad k) :: rest)) :=
  va_iald hexec hb hK (hP.one hsh) 0 0 rfl rfl hin hdg kk
theorem xg_aald (hexec : p.tables.exec = Jvm.exec) (hb : c.code = cc) (hK : XK D T s) (hP : XP ad D T h H) {k t n b : Nat} {C : String} (hsh : xsh ad k = some (.inl (t, n, some b))) (ht : (xtys T)[t]? = some (T t, .object C)) {i : Int32} (hin : vp_in i n) (hdg : decode cc pc = .ok (.aaload, 1))
    (kk : i.toNatClampNeg < n → W p l e R s m args below meth c H locs cells slots Q (F0 m (pc + 1) ls (.ref (ad (b + i.toNatClampNeg)) :: rest))) : W p l e R s m args below meth c H locs cells slots Q (F0 m pc ls (.int i :: .ref (ad k) :: rest)) :=
  va_aldq hexec hb hK (hP.one hsh) 0 t rfl ht hin hdg (kk (Nat.not_le.mp fun q => hin (Or.inr q)))
theorem xg_alen (hexec : p.tables.exec = Jvm.exec) (hb : c.code = cc) (hK : XK D T s) (hP : XP ad D T h H) {k n : Nat} (hsh : xsh ad k = some (.inl (0, n, none))) {v : Int32} (hv : Int32.ofNat n = v) (hdg : decode cc pc = .ok (.arraylength, 1))
    (kk : W p l e R s m args below meth c H locs cells slots Q (F0 m (pc + 1) ls (.int v :: rest))) : W p l e R s m args below meth c H locs cells slots Q (F0 m pc ls (.ref (ad k) :: rest)) :=
  va_alen hexec hb hK (hP.one hsh) 0 0 rfl rfl hv hdg kk
theorem xg_iast (hexec : p.tables.exec = Jvm.exec) (hb : c.code = cc) (hK : XK D T s) (hP : XP ad D T h H) (hA : XA B0 ad) (hS : va_S (fun q => B0 ≤ q) H0 H locs) {k n : Nat} (hsh : xsh ad k = some (.inl (0, n, none))) {i : Int32} {x : Int32} (hin : vp_in i n) (hdg : decode cc pc = .ok (.iastore, 1))
    (kk : ∀ (H1 : Heap) (locs1 : List Loc) (h1 : xH), h1 = xup h k i.toNatClampNeg x → XP ad D T h1 H1 → va_S (fun q => B0 ≤ q) H0 H1 locs1 → W p l e R s m args below meth c H1 locs1 cells slots Q (F0 m (pc + 1) ls rest)) : W p l e R s m args below meth c H locs cells slots Q (F0 m pc ls (.int x :: .int i :: .ref (ad k) :: rest)) := by
  refine W.iast hexec hb (hP k _ hsh) ((hK.2 0 _ rfl).1 n (fun j => .int (h k j))) (fun q => by cases q) (by show ¬ (i < 0 ∨ (arrV _ _ _).slots.size ≤ _); rw [arrV_size]; exact hin) rfl rfl hdg fun H1 e z oq => ?_
  refine kk H1 _ _ rfl (XP.set hA hP hsh ?_ oq) (hS.put z oq (hA.2 k _ hsh))
  rw [xcell_i]
  show H1[ad k]? = some (vp_cell _ _)
  rw [e, ← xupd]
  show some ((vp_cell _ (n, .inl (h k))).setSlot _ _) = _
  rw [vp_cell_i, vp_cell_i, arrV_store]
  congr 2
  funext q
  by_cases hq : q = i.toNatClampNeg
  · subst hq
    simp [updV, upd]
  · simp [updV, upd, hq]
theorem xg_recv {k ci : Nat} {lay : xL} {C : String} {TC : u_T} {N : Nat} (hK : XK D T s) (hP : XP ad D T h H) (hsh : xsh ad k = some (.inr (ci, lay))) (hc : vwCl[ci]? = some (C, TC, N)) : ∃ cell : Cell, H[ad k]? = some cell ∧ cell.vm.isStatics = false ∧ s.vm.findClass C = some cell.cls :=
  va_recv hK (hP.one hsh) hc (q0 := 0) rfl
theorem xg_preV {k ci : Nat} {lay : xL} {C : String} {TC : u_T} {N : Nat} {As : List Value} (hB0 : B0 ≤ s.heap.size) (hP : XP ad D T h H) (hK : XK D T s) (hN : XN B0 s s.heap) (hS : va_S (fun q => B0 ≤ q) s.heap H locs) (hsh : xsh ad k = some (.inr (ci, lay))) (hc : vwCl[ci]? = some (C, TC, N)) : PreV s H C (ad k) (va_Pc (.ref (ad k) :: As) (XW B0 ad D T h)) As :=
  ⟨xblind, xg_recv hK hP hsh hc, fun U hU hW => ⟨rfl, XW.mk hB0 hP hK hN hS hU hW⟩⟩
theorem xg_preS {As : List Value} (hB0 : B0 ≤ s.heap.size) (hP : XP ad D T h H) (hK : XK D T s) (hN : XN B0 s s.heap) (hS : va_S (fun q => B0 ≤ q) s.heap H locs) : PreS s H (va_Pc As (XW B0 ad D T h)) As :=
  ⟨xblind, fun U hU hW => ⟨rfl, XW.mk hB0 hP hK hN hS hU hW⟩⟩
variable {mc ms : Nat} {a : Array Value} {st0 : List Value}
theorem xg_keep {st₀ t T' : State} {L : List Loc} (h0 : st₀.heap = H) (e1 : T'.heap = t.heap) (hS : va_S (fun q => B0 ≤ q) H0 H locs) (hL : ∀ q ∈ L, B0 ≤ q.base) (hF : va_F (fun q => B0 ≤ q) st₀ t) : va_S (fun q => B0 ≤ q) H0 T'.heap (locs ++ L) :=
  (vx_keep h0 e1 hS (fun _ _ q => q) (fun _ q => q) hL hF).2.2
theorem xg_call {α : Type} {enc : α → Option Value} {K : α → xH → Prop} (hr : va_Run p l e R s m args below meth c H locs cells slots mc ms (F0 m pc ls st0) rest (XQ B0 ad D T enc K a) (fun q => B0 ≤ q)) (hS : va_S (fun q => B0 ≤ q) H0 H locs)
    (kk : ∀ (r : α) (h' : xH) (H1 : Heap) (locs1 : List Loc), K r h' → XP ad D T h' H1 → va_S (fun q => B0 ≤ q) H0 H1 locs1 → W p l e R s m args below meth c H1 locs1 (cells + mc) (slots + ms) Q (F0 m (pc + 3) ls ((enc r).toList ++ rest))) : W p l e R s m args below meth c H locs cells slots Q (F0 m pc ls st0) := by
  intro U hU X
  obtain ⟨v, st₀, t, T', L, h0, X', hL, e1, e2, ⟨⟨r, h', hv, hq, hw⟩, hF⟩, st⟩ := hr U hU X
  cases hv
  obtain ⟨t2, a1, b1⟩ := kk r h' T'.heap (locs ++ L) hq (by rw [e1]; exact hw) (xg_keep h0 e1 hS hL hF) T' rfl X'
  exact ⟨t2, st t2 a1, b1⟩
theorem xg_calli {K : Int32 → xH → Prop} (hr : va_Run p l e R s m args below meth c H locs cells slots mc ms (F0 m pc ls st0) rest (XQ B0 ad D T xei K a) (fun q => B0 ≤ q)) (hS : va_S (fun q => B0 ≤ q) H0 H locs)
    (kk : ∀ (r : Int32) (h' : xH) (H1 : Heap) (locs1 : List Loc), K r h' → XP ad D T h' H1 → va_S (fun q => B0 ≤ q) H0 H1 locs1 → W p l e R s m args below meth c H1 locs1 (cells + mc) (slots + ms) Q (F0 m (pc + 3) ls (.int r :: rest))) : W p l e R s m args below meth c H locs cells slots Q (F0 m pc ls st0) := xg_call hr hS kk
theorem xg_callv {K : Unit → xH → Prop} (hr : va_Run p l e R s m args below meth c H locs cells slots mc ms (F0 m pc ls st0) rest (XQ B0 ad D T xev K a) (fun q => B0 ≤ q)) (hS : va_S (fun q => B0 ≤ q) H0 H locs)
    (kk : ∀ (r : Unit) (h' : xH) (H1 : Heap) (locs1 : List Loc), K r h' → XP ad D T h' H1 → va_S (fun q => B0 ≤ q) H0 H1 locs1 → W p l e R s m args below meth c H1 locs1 (cells + mc) (slots + ms) Q (F0 m (pc + 3) ls rest)) : W p l e R s m args below meth c H locs cells slots Q (F0 m pc ls st0) := xg_call hr hS kk
theorem xg_callr {K : Nat → xH → Prop} (hr : va_Run p l e R s m args below meth c H locs cells slots mc ms (F0 m pc ls st0) rest (XQ B0 ad D T (xer ad) K a) (fun q => B0 ≤ q)) (hS : va_S (fun q => B0 ≤ q) H0 H locs)
    (kk : ∀ (r : Nat) (h' : xH) (H1 : Heap) (locs1 : List Loc), K r h' → XP ad D T h' H1 → va_S (fun q => B0 ≤ q) H0 H1 locs1 → W p l e R s m args below meth c H1 locs1 (cells + mc) (slots + ms) Q (F0 m (pc + 3) ls (.ref (ad r) :: rest))) : W p l e R s m args below meth c H locs cells slots Q (F0 m pc ls st0) := xg_call hr hS kk
theorem xg_callq {K : Option Nat → xH → Prop} (hr : va_Run p l e R s m args below meth c H locs cells slots mc ms (F0 m pc ls st0) rest (XQ B0 ad D T (xeq ad) K a) (fun q => B0 ≤ q)) (hS : va_S (fun q => B0 ≤ q) H0 H locs)
    (kk : ∀ (r : Option Nat) (h' : xH) (H1 : Heap) (locs1 : List Loc), K r h' → XP ad D T h' H1 → va_S (fun q => B0 ≤ q) H0 H1 locs1 → W p l e R s m args below meth c H1 locs1 (cells + mc) (slots + ms) Q (F0 m (pc + 3) ls (va_rf (r.map ad) :: rest))) : W p l e R s m args below meth c H locs cells slots Q (F0 m pc ls st0) := xg_call hr hS kk
-- ends
theorem xg_irets {K : Int32 → xH → Prop} {v : Int32} {ty : FieldType} (hexec : p.tables.exec = Jvm.exec) (hb : c.code = cc) (hr : meth.sig.returnType = some ty) (hn : narrow ty (.int v) = .int v) (hlocks : meth.locks = false) (hB0 : B0 ≤ s.heap.size) (hP : XP ad D T h H) (hK : XK D T s) (hN : XN B0 s s.heap) (hS : va_S (fun q => B0 ≤ q) s.heap H locs) (hdg : decode cc pc = .ok (.ireturn, 1)) (hc : cells ≤ mc) (hs : slots ≤ ms) (hw : K v h) : W p l e R s m args below meth c H locs cells slots (MQ below (XQ B0 ad D T xei K) args s mc ms (fun q => B0 ≤ q)) (F0 m pc ls [.int v]) :=
  W.widen hc hs (W.zret hexec hb hr hn (fun t ht hW => ⟨⟨v, h, rfl, hw, by rw [ht]; exact hP⟩, hS.F ht⟩) hS.2.2 hdg)
theorem xg_vrets {K : Unit → xH → Prop} (hexec : p.tables.exec = Jvm.exec) (hb : c.code = cc) (hr : meth.sig.returnType = none) (hlocks : meth.locks = false) (hB0 : B0 ≤ s.heap.size) (hP : XP ad D T h H) (hK : XK D T s) (hN : XN B0 s s.heap) (hS : va_S (fun q => B0 ≤ q) s.heap H locs) (hdg : decode cc pc = .ok (.return_, 1)) (hc : cells ≤ mc) (hs : slots ≤ ms) (hw : K () h) : W p l e R s m args below meth c H locs cells slots (MQ below (XQ B0 ad D T xev K) args s mc ms (fun q => B0 ≤ q)) (F0 m pc ls []) :=
  W.widen hc hs (W.vret hexec hb hr (fun t ht hW => ⟨⟨(), h, rfl, hw, by rw [ht]; exact hP⟩, hS.F ht⟩) hS.2.2 hdg)
theorem xg_arets {α : Type} {enc : α → Option Value} {K : α → xH → Prop} {r : α} {v : Value} {ty : FieldType} (hexec : p.tables.exec = Jvm.exec) (hb : c.code = cc) (hr : meth.sig.returnType = some ty) (hrt : (∃ n, ty = .object n) ∨ ∃ t, ty = .array t) (hv : v = .null ∨ ∃ a, v = .ref a) (hv2 : enc r = some v) (hlocks : meth.locks = false) (hB0 : B0 ≤ s.heap.size) (hP : XP ad D T h H) (hK : XK D T s) (hN : XN B0 s s.heap) (hS : va_S (fun q => B0 ≤ q) s.heap H locs) (hdg : decode cc pc = .ok (.areturn, 1)) (hc : cells ≤ mc) (hs : slots ≤ ms) (hw : K r h) : W p l e R s m args below meth c H locs cells slots (MQ below (XQ B0 ad D T enc K) args s mc ms (fun q => B0 ≤ q)) (F0 m pc ls [v]) :=
  W.widen hc hs (W.aret hexec hb hr hrt hv (fun t ht hW => ⟨⟨r, h, by rw [hv2], hw, by rw [ht]; exact hP⟩, hS.F ht⟩) hS.2.2 hdg)
theorem xcatq (o : Option Nat) : (va_rf o).category = 1 := by cases o <;> rfl
end XROWS
end
section
theorem dX0_init_0 : decode cX0_init 0 = .ok (.aload_n 0, 1) := by decide +kernel
theorem dX0_init_1 : decode cX0_init 1 = .ok (.invokespecial 3, 3) := by decide +kernel
theorem dX0_init_4 : decode cX0_init 4 = .ok (.aload_n 0, 1) := by decide +kernel
theorem dX0_init_5 : decode cX0_init 5 = .ok (.sipush 400, 3) := by decide +kernel
theorem dX0_init_8 : decode cX0_init 8 = .ok (.newarray .int, 2) := by decide +kernel
theorem dX0_init_10 : decode cX0_init 10 = .ok (.putfield 9, 3) := by decide +kernel
theorem dX0_init_13 : decode cX0_init 13 = .ok (.aload_n 0, 1) := by decide +kernel
theorem dX0_init_14 : decode cX0_init 14 = .ok (.iconst 0, 1) := by decide +kernel
theorem dX0_init_15 : decode cX0_init 15 = .ok (.putfield 15, 3) := by decide +kernel
theorem dX0_init_18 : decode cX0_init 18 = .ok (.aload_n 0, 1) := by decide +kernel
theorem dX0_init_19 : decode cX0_init 19 = .ok (.iconst 0, 1) := by decide +kernel
theorem dX0_init_20 : decode cX0_init 20 = .ok (.putfield 19, 3) := by decide +kernel
theorem dX0_init_23 : decode cX0_init 23 = .ok (.aload_n 0, 1) := by decide +kernel
theorem dX0_init_24 : decode cX0_init 24 = .ok (.iconst 0, 1) := by decide +kernel
theorem dX0_init_25 : decode cX0_init 25 = .ok (.putfield 22, 3) := by decide +kernel
theorem dX0_init_28 : decode cX0_init 28 = .ok (.aload_n 0, 1) := by decide +kernel
theorem dX0_init_29 : decode cX0_init 29 = .ok (.iconst 0, 1) := by decide +kernel
theorem dX0_init_30 : decode cX0_init 30 = .ok (.putfield 25, 3) := by decide +kernel
theorem dX0_init_33 : decode cX0_init 33 = .ok (.aload_n 0, 1) := by decide +kernel
theorem dX0_init_34 : decode cX0_init 34 = .ok (.iconst 0, 1) := by decide +kernel
theorem dX0_init_35 : decode cX0_init 35 = .ok (.putfield 28, 3) := by decide +kernel
theorem dX0_init_38 : decode cX0_init 38 = .ok (.return_, 1) := by decide +kernel
theorem dX0_waiting_0 : decode cX0_waiting 0 = .ok (.aload_n 0, 1) := by decide +kernel
theorem dX0_waiting_1 : decode cX0_waiting 1 = .ok (.getfield 15, 3) := by decide +kernel
theorem dX0_waiting_4 : decode cX0_waiting 4 = .ok (.aload_n 0, 1) := by decide +kernel
theorem dX0_waiting_5 : decode cX0_waiting 5 = .ok (.getfield 19, 3) := by decide +kernel
theorem dX0_waiting_8 : decode cX0_waiting 8 = .ok (.isub, 1) := by decide +kernel
theorem dX0_waiting_9 : decode cX0_waiting 9 = .ok (.ireturn, 1) := by decide +kernel
theorem dX0_flying_0 : decode cX0_flying 0 = .ok (.aload_n 0, 1) := by decide +kernel
theorem dX0_flying_1 : decode cX0_flying 1 = .ok (.getfield 19, 3) := by decide +kernel
theorem dX0_flying_4 : decode cX0_flying 4 = .ok (.aload_n 0, 1) := by decide +kernel
theorem dX0_flying_5 : decode cX0_flying 5 = .ok (.getfield 22, 3) := by decide +kernel
theorem dX0_flying_8 : decode cX0_flying 8 = .ok (.isub, 1) := by decide +kernel
theorem dX0_flying_9 : decode cX0_flying 9 = .ok (.ireturn, 1) := by decide +kernel
theorem dX0_take_0 : decode cX0_take 0 = .ok (.aload_n 0, 1) := by decide +kernel
theorem dX0_take_1 : decode cX0_take 1 = .ok (.getfield 15, 3) := by decide +kernel
theorem dX0_take_4 : decode cX0_take 4 = .ok (.aload_n 0, 1) := by decide +kernel
theorem dX0_take_5 : decode cX0_take 5 = .ok (.getfield 22, 3) := by decide +kernel
theorem dX0_take_8 : decode cX0_take 8 = .ok (.isub, 1) := by decide +kernel
theorem dX0_take_9 : decode cX0_take 9 = .ok (.bipush 30, 2) := by decide +kernel
theorem dX0_take_11 : decode cX0_take 11 = .ok (.if_icmp .ge 45, 3) := by decide +kernel
theorem dX0_take_14 : decode cX0_take 14 = .ok (.aload_n 0, 1) := by decide +kernel
theorem dX0_take_15 : decode cX0_take 15 = .ok (.getfield 15, 3) := by decide +kernel
theorem dX0_take_18 : decode cX0_take 18 = .ok (.ifCond .lt 38, 3) := by decide +kernel
theorem dX0_take_21 : decode cX0_take 21 = .ok (.aload_n 0, 1) := by decide +kernel
theorem dX0_take_22 : decode cX0_take 22 = .ok (.getfield 15, 3) := by decide +kernel
theorem dX0_take_25 : decode cX0_take 25 = .ok (.aload_n 0, 1) := by decide +kernel
theorem dX0_take_26 : decode cX0_take 26 = .ok (.getfield 9, 3) := by decide +kernel
theorem dX0_take_29 : decode cX0_take 29 = .ok (.arraylength, 1) := by decide +kernel
theorem dX0_take_30 : decode cX0_take 30 = .ok (.if_icmp .ge 26, 3) := by decide +kernel
theorem dX0_take_33 : decode cX0_take 33 = .ok (.aload_n 0, 1) := by decide +kernel
theorem dX0_take_34 : decode cX0_take 34 = .ok (.getfield 9, 3) := by decide +kernel
theorem dX0_take_37 : decode cX0_take 37 = .ok (.aload_n 0, 1) := by decide +kernel
theorem dX0_take_38 : decode cX0_take 38 = .ok (.getfield 15, 3) := by decide +kernel
theorem dX0_take_41 : decode cX0_take 41 = .ok (.iload_n 1, 1) := by decide +kernel
theorem dX0_take_42 : decode cX0_take 42 = .ok (.iastore, 1) := by decide +kernel
theorem dX0_take_43 : decode cX0_take 43 = .ok (.aload_n 0, 1) := by decide +kernel
theorem dX0_take_44 : decode cX0_take 44 = .ok (.dup, 1) := by decide +kernel
theorem dX0_take_45 : decode cX0_take 45 = .ok (.getfield 15, 3) := by decide +kernel
theorem dX0_take_48 : decode cX0_take 48 = .ok (.iconst 1, 1) := by decide +kernel
theorem dX0_take_49 : decode cX0_take 49 = .ok (.iadd, 1) := by decide +kernel
theorem dX0_take_50 : decode cX0_take 50 = .ok (.putfield 15, 3) := by decide +kernel
theorem dX0_take_53 : decode cX0_take 53 = .ok (.goto 13, 3) := by decide +kernel
theorem dX0_take_56 : decode cX0_take 56 = .ok (.aload_n 0, 1) := by decide +kernel
theorem dX0_take_57 : decode cX0_take 57 = .ok (.dup, 1) := by decide +kernel
theorem dX0_take_58 : decode cX0_take 58 = .ok (.getfield 25, 3) := by decide +kernel
theorem dX0_take_61 : decode cX0_take 61 = .ok (.iconst 1, 1) := by decide +kernel
theorem dX0_take_62 : decode cX0_take 62 = .ok (.iadd, 1) := by decide +kernel
theorem dX0_take_63 : decode cX0_take 63 = .ok (.putfield 25, 3) := by decide +kernel
theorem dX0_take_66 : decode cX0_take 66 = .ok (.return_, 1) := by decide +kernel
set_option maxRecDepth 20000 in
theorem ggX0_canSend_X0_waiting : GoodIn wsX0_canSend wsX0_waiting := goodIn_r _ [6, 7, 8, 14, 15, 16, 17, 18, 19] (by decide +kernel) (by decide +kernel)
set_option maxRecDepth 20000 in
theorem gX0_canSend_X0_waiting : GoodIn wsX0_canSend (wsV RX0 32 RX0 yX0_waiting wsX0_waiting) := goodIn_app (goodIn_of _ (by decide +kernel)) ggX0_canSend_X0_waiting
set_option maxRecDepth 20000 in
theorem ggX0_canSend_X0_flying : GoodIn wsX0_canSend wsX0_flying := goodIn_r _ [12, 8, 13, 14, 15, 16, 17, 18, 19] (by decide +kernel) (by decide +kernel)
set_option maxRecDepth 20000 in
theorem gX0_canSend_X0_flying : GoodIn wsX0_canSend (wsV RX0 36 RX0 yX0_flying wsX0_flying) := goodIn_app (goodIn_of _ (by decide +kernel)) ggX0_canSend_X0_flying
theorem dX0_canSend_0 : decode cX0_canSend 0 = .ok (.aload_n 0, 1) := by decide +kernel
theorem dX0_canSend_1 : decode cX0_canSend 1 = .ok (.getfield 28, 3) := by decide +kernel
theorem dX0_canSend_4 : decode cX0_canSend 4 = .ok (.ifCond .eq 22, 3) := by decide +kernel
theorem dX0_canSend_7 : decode cX0_canSend 7 = .ok (.aload_n 0, 1) := by decide +kernel
theorem dX0_canSend_8 : decode cX0_canSend 8 = .ok (.invokevirtual 32, 3) := by decide +kernel
theorem dX0_canSend_11 : decode cX0_canSend 11 = .ok (.ifCond .le 15, 3) := by decide +kernel
theorem dX0_canSend_14 : decode cX0_canSend 14 = .ok (.aload_n 0, 1) := by decide +kernel
theorem dX0_canSend_15 : decode cX0_canSend 15 = .ok (.invokevirtual 36, 3) := by decide +kernel
theorem dX0_canSend_18 : decode cX0_canSend 18 = .ok (.iconst 5, 1) := by decide +kernel
theorem dX0_canSend_19 : decode cX0_canSend 19 = .ok (.if_icmp .ge 7, 3) := by decide +kernel
theorem dX0_canSend_22 : decode cX0_canSend 22 = .ok (.iconst 1, 1) := by decide +kernel
theorem dX0_canSend_23 : decode cX0_canSend 23 = .ok (.goto 4, 3) := by decide +kernel
theorem dX0_canSend_26 : decode cX0_canSend 26 = .ok (.iconst 0, 1) := by decide +kernel
theorem dX0_canSend_27 : decode cX0_canSend 27 = .ok (.ireturn, 1) := by decide +kernel
set_option maxRecDepth 20000 in
theorem ggX0_sendFirst_X0_lineAt : GoodIn wsX0_sendFirst wsX0_lineAt := goodIn_r _ [6, 7, 8, 9, 10, 11, 12, 13] (by decide +kernel) (by decide +kernel)
set_option maxRecDepth 20000 in
theorem gX0_sendFirst_X0_lineAt : GoodIn wsX0_sendFirst (wsV RX0 39 RX0 yX0_lineAt wsX0_lineAt) := goodIn_app (goodIn_of _ (by decide +kernel)) ggX0_sendFirst_X0_lineAt
theorem dX0_sendFirst_0 : decode cX0_sendFirst 0 = .ok (.aload_n 0, 1) := by decide +kernel
theorem dX0_sendFirst_1 : decode cX0_sendFirst 1 = .ok (.aload_n 0, 1) := by decide +kernel
theorem dX0_sendFirst_2 : decode cX0_sendFirst 2 = .ok (.getfield 19, 3) := by decide +kernel
theorem dX0_sendFirst_5 : decode cX0_sendFirst 5 = .ok (.invokevirtual 39, 3) := by decide +kernel
theorem dX0_sendFirst_8 : decode cX0_sendFirst 8 = .ok (.istore_n 1, 1) := by decide +kernel
theorem dX0_sendFirst_9 : decode cX0_sendFirst 9 = .ok (.aload_n 0, 1) := by decide +kernel
theorem dX0_sendFirst_10 : decode cX0_sendFirst 10 = .ok (.dup, 1) := by decide +kernel
theorem dX0_sendFirst_11 : decode cX0_sendFirst 11 = .ok (.getfield 19, 3) := by decide +kernel
theorem dX0_sendFirst_14 : decode cX0_sendFirst 14 = .ok (.iconst 1, 1) := by decide +kernel
theorem dX0_sendFirst_15 : decode cX0_sendFirst 15 = .ok (.iadd, 1) := by decide +kernel
theorem dX0_sendFirst_16 : decode cX0_sendFirst 16 = .ok (.putfield 19, 3) := by decide +kernel
theorem dX0_sendFirst_19 : decode cX0_sendFirst 19 = .ok (.iload_n 1, 1) := by decide +kernel
theorem dX0_sendFirst_20 : decode cX0_sendFirst 20 = .ok (.ireturn, 1) := by decide +kernel
set_option maxRecDepth 20000 in
theorem ggX0_acknowledgeFirst_X0_lineAt : GoodIn wsX0_acknowledgeFirst wsX0_lineAt := goodIn_r _ [6, 7, 8, 9, 10, 11, 12, 13] (by decide +kernel) (by decide +kernel)
set_option maxRecDepth 20000 in
theorem gX0_acknowledgeFirst_X0_lineAt : GoodIn wsX0_acknowledgeFirst (wsV RX0 39 RX0 yX0_lineAt wsX0_lineAt) := goodIn_app (goodIn_of _ (by decide +kernel)) ggX0_acknowledgeFirst_X0_lineAt
theorem dX0_acknowledgeFirst_0 : decode cX0_acknowledgeFirst 0 = .ok (.aload_n 0, 1) := by decide +kernel
theorem dX0_acknowledgeFirst_1 : decode cX0_acknowledgeFirst 1 = .ok (.aload_n 0, 1) := by decide +kernel
theorem dX0_acknowledgeFirst_2 : decode cX0_acknowledgeFirst 2 = .ok (.getfield 22, 3) := by decide +kernel
theorem dX0_acknowledgeFirst_5 : decode cX0_acknowledgeFirst 5 = .ok (.invokevirtual 39, 3) := by decide +kernel
theorem dX0_acknowledgeFirst_8 : decode cX0_acknowledgeFirst 8 = .ok (.istore_n 1, 1) := by decide +kernel
theorem dX0_acknowledgeFirst_9 : decode cX0_acknowledgeFirst 9 = .ok (.aload_n 0, 1) := by decide +kernel
theorem dX0_acknowledgeFirst_10 : decode cX0_acknowledgeFirst 10 = .ok (.dup, 1) := by decide +kernel
theorem dX0_acknowledgeFirst_11 : decode cX0_acknowledgeFirst 11 = .ok (.getfield 22, 3) := by decide +kernel
theorem dX0_acknowledgeFirst_14 : decode cX0_acknowledgeFirst 14 = .ok (.iconst 1, 1) := by decide +kernel
theorem dX0_acknowledgeFirst_15 : decode cX0_acknowledgeFirst 15 = .ok (.iadd, 1) := by decide +kernel
theorem dX0_acknowledgeFirst_16 : decode cX0_acknowledgeFirst 16 = .ok (.putfield 22, 3) := by decide +kernel
theorem dX0_acknowledgeFirst_19 : decode cX0_acknowledgeFirst 19 = .ok (.iload_n 1, 1) := by decide +kernel
theorem dX0_acknowledgeFirst_20 : decode cX0_acknowledgeFirst 20 = .ok (.ireturn, 1) := by decide +kernel
theorem dX0_loseConnection_0 : decode cX0_loseConnection 0 = .ok (.aload_n 0, 1) := by decide +kernel
theorem dX0_loseConnection_1 : decode cX0_loseConnection 1 = .ok (.iconst 0, 1) := by decide +kernel
theorem dX0_loseConnection_2 : decode cX0_loseConnection 2 = .ok (.putfield 28, 3) := by decide +kernel
theorem dX0_loseConnection_5 : decode cX0_loseConnection 5 = .ok (.aload_n 0, 1) := by decide +kernel
theorem dX0_loseConnection_6 : decode cX0_loseConnection 6 = .ok (.aload_n 0, 1) := by decide +kernel
theorem dX0_loseConnection_7 : decode cX0_loseConnection 7 = .ok (.getfield 22, 3) := by decide +kernel
theorem dX0_loseConnection_10 : decode cX0_loseConnection 10 = .ok (.putfield 19, 3) := by decide +kernel
theorem dX0_loseConnection_13 : decode cX0_loseConnection 13 = .ok (.return_, 1) := by decide +kernel
theorem dX0_lineAt_0 : decode cX0_lineAt 0 = .ok (.iload_n 1, 1) := by decide +kernel
theorem dX0_lineAt_1 : decode cX0_lineAt 1 = .ok (.ifCond .lt 21, 3) := by decide +kernel
theorem dX0_lineAt_4 : decode cX0_lineAt 4 = .ok (.iload_n 1, 1) := by decide +kernel
theorem dX0_lineAt_5 : decode cX0_lineAt 5 = .ok (.aload_n 0, 1) := by decide +kernel
theorem dX0_lineAt_6 : decode cX0_lineAt 6 = .ok (.getfield 9, 3) := by decide +kernel
theorem dX0_lineAt_9 : decode cX0_lineAt 9 = .ok (.arraylength, 1) := by decide +kernel
theorem dX0_lineAt_10 : decode cX0_lineAt 10 = .ok (.if_icmp .ge 12, 3) := by decide +kernel
theorem dX0_lineAt_13 : decode cX0_lineAt 13 = .ok (.aload_n 0, 1) := by decide +kernel
theorem dX0_lineAt_14 : decode cX0_lineAt 14 = .ok (.getfield 9, 3) := by decide +kernel
theorem dX0_lineAt_17 : decode cX0_lineAt 17 = .ok (.iload_n 1, 1) := by decide +kernel
theorem dX0_lineAt_18 : decode cX0_lineAt 18 = .ok (.iaload, 1) := by decide +kernel
theorem dX0_lineAt_19 : decode cX0_lineAt 19 = .ok (.goto 4, 3) := by decide +kernel
theorem dX0_lineAt_22 : decode cX0_lineAt 22 = .ok (.iconst (-1), 1) := by decide +kernel
theorem dX0_lineAt_23 : decode cX0_lineAt 23 = .ok (.ireturn, 1) := by decide +kernel
theorem dX1_init_0 : decode cX1_init 0 = .ok (.aload_n 0, 1) := by decide +kernel
theorem dX1_init_1 : decode cX1_init 1 = .ok (.invokespecial 3, 3) := by decide +kernel
theorem dX1_init_4 : decode cX1_init 4 = .ok (.aload_n 0, 1) := by decide +kernel
theorem dX1_init_5 : decode cX1_init 5 = .ok (.sipush 400, 3) := by decide +kernel
theorem dX1_init_8 : decode cX1_init 8 = .ok (.newarray .int, 2) := by decide +kernel
theorem dX1_init_10 : decode cX1_init 10 = .ok (.putfield 9, 3) := by decide +kernel
theorem dX1_init_13 : decode cX1_init 13 = .ok (.aload_n 0, 1) := by decide +kernel
theorem dX1_init_14 : decode cX1_init 14 = .ok (.sipush 400, 3) := by decide +kernel
theorem dX1_init_17 : decode cX1_init 17 = .ok (.newarray .int, 2) := by decide +kernel
theorem dX1_init_19 : decode cX1_init 19 = .ok (.putfield 15, 3) := by decide +kernel
theorem dX1_init_22 : decode cX1_init 22 = .ok (.aload_n 0, 1) := by decide +kernel
theorem dX1_init_23 : decode cX1_init 23 = .ok (.iconst 0, 1) := by decide +kernel
theorem dX1_init_24 : decode cX1_init 24 = .ok (.putfield 18, 3) := by decide +kernel
theorem dX1_init_27 : decode cX1_init 27 = .ok (.return_, 1) := by decide +kernel
theorem dX1_isFull_0 : decode cX1_isFull 0 = .ok (.aload_n 0, 1) := by decide +kernel
theorem dX1_isFull_1 : decode cX1_isFull 1 = .ok (.getfield 18, 3) := by decide +kernel
theorem dX1_isFull_4 : decode cX1_isFull 4 = .ok (.sipush 400, 3) := by decide +kernel
theorem dX1_isFull_7 : decode cX1_isFull 7 = .ok (.if_icmp .lt 7, 3) := by decide +kernel
theorem dX1_isFull_10 : decode cX1_isFull 10 = .ok (.iconst 1, 1) := by decide +kernel
theorem dX1_isFull_11 : decode cX1_isFull 11 = .ok (.goto 4, 3) := by decide +kernel
theorem dX1_isFull_14 : decode cX1_isFull 14 = .ok (.iconst 0, 1) := by decide +kernel
theorem dX1_isFull_15 : decode cX1_isFull 15 = .ok (.ireturn, 1) := by decide +kernel
theorem dX1_has_0 : decode cX1_has 0 = .ok (.iload_n 1, 1) := by decide +kernel
theorem dX1_has_1 : decode cX1_has 1 = .ok (.ifCond .lt 15, 3) := by decide +kernel
theorem dX1_has_4 : decode cX1_has 4 = .ok (.iload_n 1, 1) := by decide +kernel
theorem dX1_has_5 : decode cX1_has 5 = .ok (.aload_n 0, 1) := by decide +kernel
theorem dX1_has_6 : decode cX1_has 6 = .ok (.getfield 18, 3) := by decide +kernel
theorem dX1_has_9 : decode cX1_has 9 = .ok (.if_icmp .ge 7, 3) := by decide +kernel
theorem dX1_has_12 : decode cX1_has 12 = .ok (.iconst 1, 1) := by decide +kernel
theorem dX1_has_13 : decode cX1_has 13 = .ok (.goto 4, 3) := by decide +kernel
theorem dX1_has_16 : decode cX1_has 16 = .ok (.iconst 0, 1) := by decide +kernel
theorem dX1_has_17 : decode cX1_has 17 = .ok (.ireturn, 1) := by decide +kernel
theorem dX1_enter_0 : decode cX1_enter 0 = .ok (.aload_n 0, 1) := by decide +kernel
theorem dX1_enter_1 : decode cX1_enter 1 = .ok (.getfield 18, 3) := by decide +kernel
theorem dX1_enter_4 : decode cX1_enter 4 = .ok (.ifCond .lt 43, 3) := by decide +kernel
theorem dX1_enter_7 : decode cX1_enter 7 = .ok (.aload_n 0, 1) := by decide +kernel
theorem dX1_enter_8 : decode cX1_enter 8 = .ok (.getfield 18, 3) := by decide +kernel
theorem dX1_enter_11 : decode cX1_enter 11 = .ok (.sipush 400, 3) := by decide +kernel
theorem dX1_enter_14 : decode cX1_enter 14 = .ok (.if_icmp .ge 33, 3) := by decide +kernel
theorem dX1_enter_17 : decode cX1_enter 17 = .ok (.aload_n 0, 1) := by decide +kernel
theorem dX1_enter_18 : decode cX1_enter 18 = .ok (.getfield 9, 3) := by decide +kernel
theorem dX1_enter_21 : decode cX1_enter 21 = .ok (.aload_n 0, 1) := by decide +kernel
theorem dX1_enter_22 : decode cX1_enter 22 = .ok (.getfield 18, 3) := by decide +kernel
theorem dX1_enter_25 : decode cX1_enter 25 = .ok (.iload_n 1, 1) := by decide +kernel
theorem dX1_enter_26 : decode cX1_enter 26 = .ok (.iastore, 1) := by decide +kernel
theorem dX1_enter_27 : decode cX1_enter 27 = .ok (.aload_n 0, 1) := by decide +kernel
theorem dX1_enter_28 : decode cX1_enter 28 = .ok (.getfield 15, 3) := by decide +kernel
theorem dX1_enter_31 : decode cX1_enter 31 = .ok (.aload_n 0, 1) := by decide +kernel
theorem dX1_enter_32 : decode cX1_enter 32 = .ok (.getfield 18, 3) := by decide +kernel
theorem dX1_enter_35 : decode cX1_enter 35 = .ok (.iload_n 2, 1) := by decide +kernel
theorem dX1_enter_36 : decode cX1_enter 36 = .ok (.iastore, 1) := by decide +kernel
theorem dX1_enter_37 : decode cX1_enter 37 = .ok (.aload_n 0, 1) := by decide +kernel
theorem dX1_enter_38 : decode cX1_enter 38 = .ok (.dup, 1) := by decide +kernel
theorem dX1_enter_39 : decode cX1_enter 39 = .ok (.getfield 18, 3) := by decide +kernel
theorem dX1_enter_42 : decode cX1_enter 42 = .ok (.iconst 1, 1) := by decide +kernel
theorem dX1_enter_43 : decode cX1_enter 43 = .ok (.iadd, 1) := by decide +kernel
theorem dX1_enter_44 : decode cX1_enter 44 = .ok (.putfield 18, 3) := by decide +kernel
theorem dX1_enter_47 : decode cX1_enter 47 = .ok (.iload_n 1, 1) := by decide +kernel
theorem dX1_enter_48 : decode cX1_enter 48 = .ok (.ireturn, 1) := by decide +kernel
theorem dX1_fateAt_0 : decode cX1_fateAt 0 = .ok (.iload_n 1, 1) := by decide +kernel
theorem dX1_fateAt_1 : decode cX1_fateAt 1 = .ok (.ifCond .lt 19, 3) := by decide +kernel
theorem dX1_fateAt_4 : decode cX1_fateAt 4 = .ok (.iload_n 1, 1) := by decide +kernel
theorem dX1_fateAt_5 : decode cX1_fateAt 5 = .ok (.sipush 400, 3) := by decide +kernel
theorem dX1_fateAt_8 : decode cX1_fateAt 8 = .ok (.if_icmp .ge 12, 3) := by decide +kernel
theorem dX1_fateAt_11 : decode cX1_fateAt 11 = .ok (.aload_n 0, 1) := by decide +kernel
theorem dX1_fateAt_12 : decode cX1_fateAt 12 = .ok (.getfield 9, 3) := by decide +kernel
theorem dX1_fateAt_15 : decode cX1_fateAt 15 = .ok (.iload_n 1, 1) := by decide +kernel
theorem dX1_fateAt_16 : decode cX1_fateAt 16 = .ok (.iaload, 1) := by decide +kernel
theorem dX1_fateAt_17 : decode cX1_fateAt 17 = .ok (.goto 4, 3) := by decide +kernel
theorem dX1_fateAt_20 : decode cX1_fateAt 20 = .ok (.iconst (-1), 1) := by decide +kernel
theorem dX1_fateAt_21 : decode cX1_fateAt 21 = .ok (.ireturn, 1) := by decide +kernel
theorem dX1_targetsAt_0 : decode cX1_targetsAt 0 = .ok (.iload_n 1, 1) := by decide +kernel
theorem dX1_targetsAt_1 : decode cX1_targetsAt 1 = .ok (.ifCond .lt 19, 3) := by decide +kernel
theorem dX1_targetsAt_4 : decode cX1_targetsAt 4 = .ok (.iload_n 1, 1) := by decide +kernel
theorem dX1_targetsAt_5 : decode cX1_targetsAt 5 = .ok (.sipush 400, 3) := by decide +kernel
theorem dX1_targetsAt_8 : decode cX1_targetsAt 8 = .ok (.if_icmp .ge 12, 3) := by decide +kernel
theorem dX1_targetsAt_11 : decode cX1_targetsAt 11 = .ok (.aload_n 0, 1) := by decide +kernel
theorem dX1_targetsAt_12 : decode cX1_targetsAt 12 = .ok (.getfield 15, 3) := by decide +kernel
theorem dX1_targetsAt_15 : decode cX1_targetsAt 15 = .ok (.iload_n 1, 1) := by decide +kernel
theorem dX1_targetsAt_16 : decode cX1_targetsAt 16 = .ok (.iaload, 1) := by decide +kernel
theorem dX1_targetsAt_17 : decode cX1_targetsAt 17 = .ok (.goto 4, 3) := by decide +kernel
theorem dX1_targetsAt_20 : decode cX1_targetsAt 20 = .ok (.iconst 0, 1) := by decide +kernel
theorem dX1_targetsAt_21 : decode cX1_targetsAt 21 = .ok (.ireturn, 1) := by decide +kernel
theorem dX1_entriesWith_0 : decode cX1_entriesWith 0 = .ok (.iconst 0, 1) := by decide +kernel
theorem dX1_entriesWith_1 : decode cX1_entriesWith 1 = .ok (.istore_n 2, 1) := by decide +kernel
theorem dX1_entriesWith_2 : decode cX1_entriesWith 2 = .ok (.iconst 0, 1) := by decide +kernel
theorem dX1_entriesWith_3 : decode cX1_entriesWith 3 = .ok (.istore_n 3, 1) := by decide +kernel
theorem dX1_entriesWith_4 : decode cX1_entriesWith 4 = .ok (.iload_n 3, 1) := by decide +kernel
theorem dX1_entriesWith_5 : decode cX1_entriesWith 5 = .ok (.aload_n 0, 1) := by decide +kernel
theorem dX1_entriesWith_6 : decode cX1_entriesWith 6 = .ok (.getfield 18, 3) := by decide +kernel
theorem dX1_entriesWith_9 : decode cX1_entriesWith 9 = .ok (.if_icmp .ge 29, 3) := by decide +kernel
theorem dX1_entriesWith_12 : decode cX1_entriesWith 12 = .ok (.iload_n 3, 1) := by decide +kernel
theorem dX1_entriesWith_13 : decode cX1_entriesWith 13 = .ok (.sipush 400, 3) := by decide +kernel
theorem dX1_entriesWith_16 : decode cX1_entriesWith 16 = .ok (.if_icmp .ge 22, 3) := by decide +kernel
theorem dX1_entriesWith_19 : decode cX1_entriesWith 19 = .ok (.aload_n 0, 1) := by decide +kernel
theorem dX1_entriesWith_20 : decode cX1_entriesWith 20 = .ok (.getfield 9, 3) := by decide +kernel
theorem dX1_entriesWith_23 : decode cX1_entriesWith 23 = .ok (.iload_n 3, 1) := by decide +kernel
theorem dX1_entriesWith_24 : decode cX1_entriesWith 24 = .ok (.iaload, 1) := by decide +kernel
theorem dX1_entriesWith_25 : decode cX1_entriesWith 25 = .ok (.iload_n 1, 1) := by decide +kernel
theorem dX1_entriesWith_26 : decode cX1_entriesWith 26 = .ok (.if_icmp .ne 6, 3) := by decide +kernel
theorem dX1_entriesWith_29 : decode cX1_entriesWith 29 = .ok (.iinc 2 1, 3) := by decide +kernel
theorem dX1_entriesWith_32 : decode cX1_entriesWith 32 = .ok (.iinc 3 1, 3) := by decide +kernel
theorem dX1_entriesWith_35 : decode cX1_entriesWith 35 = .ok (.goto (-31), 3) := by decide +kernel
theorem dX1_entriesWith_38 : decode cX1_entriesWith 38 = .ok (.iload_n 2, 1) := by decide +kernel
theorem dX1_entriesWith_39 : decode cX1_entriesWith 39 = .ok (.ireturn, 1) := by decide +kernel
theorem dX2_init_0 : decode cX2_init 0 = .ok (.aload_n 0, 1) := by decide +kernel
theorem dX2_init_1 : decode cX2_init 1 = .ok (.invokespecial 3, 3) := by decide +kernel
theorem dX2_init_4 : decode cX2_init 4 = .ok (.aload_n 0, 1) := by decide +kernel
theorem dX2_init_5 : decode cX2_init 5 = .ok (.sipush 400, 3) := by decide +kernel
theorem dX2_init_8 : decode cX2_init 8 = .ok (.newarray .int, 2) := by decide +kernel
theorem dX2_init_10 : decode cX2_init 10 = .ok (.putfield 9, 3) := by decide +kernel
theorem dX2_init_13 : decode cX2_init 13 = .ok (.aload_n 0, 1) := by decide +kernel
theorem dX2_init_14 : decode cX2_init 14 = .ok (.bipush 6, 2) := by decide +kernel
theorem dX2_init_16 : decode cX2_init 16 = .ok (.newarray .int, 2) := by decide +kernel
theorem dX2_init_18 : decode cX2_init 18 = .ok (.putfield 15, 3) := by decide +kernel
theorem dX2_init_21 : decode cX2_init 21 = .ok (.aload_n 0, 1) := by decide +kernel
theorem dX2_init_22 : decode cX2_init 22 = .ok (.iconst 0, 1) := by decide +kernel
theorem dX2_init_23 : decode cX2_init 23 = .ok (.putfield 18, 3) := by decide +kernel
theorem dX2_init_26 : decode cX2_init 26 = .ok (.aload_n 0, 1) := by decide +kernel
theorem dX2_init_27 : decode cX2_init 27 = .ok (.sipush 1000, 3) := by decide +kernel
theorem dX2_init_30 : decode cX2_init 30 = .ok (.putfield 22, 3) := by decide +kernel
theorem dX2_init_33 : decode cX2_init 33 = .ok (.aload_n 0, 1) := by decide +kernel
theorem dX2_init_34 : decode cX2_init 34 = .ok (.iconst 0, 1) := by decide +kernel
theorem dX2_init_35 : decode cX2_init 35 = .ok (.putfield 25, 3) := by decide +kernel
theorem dX2_init_38 : decode cX2_init 38 = .ok (.aload_n 0, 1) := by decide +kernel
theorem dX2_init_39 : decode cX2_init 39 = .ok (.iconst 2, 1) := by decide +kernel
theorem dX2_init_40 : decode cX2_init 40 = .ok (.putfield 28, 3) := by decide +kernel
theorem dX2_init_43 : decode cX2_init 43 = .ok (.aload_n 0, 1) := by decide +kernel
theorem dX2_init_44 : decode cX2_init 44 = .ok (.iconst 0, 1) := by decide +kernel
theorem dX2_init_45 : decode cX2_init 45 = .ok (.putfield 31, 3) := by decide +kernel
theorem dX2_init_48 : decode cX2_init 48 = .ok (.aload_n 0, 1) := by decide +kernel
theorem dX2_init_49 : decode cX2_init 49 = .ok (.iconst 0, 1) := by decide +kernel
theorem dX2_init_50 : decode cX2_init 50 = .ok (.putfield 34, 3) := by decide +kernel
theorem dX2_init_53 : decode cX2_init 53 = .ok (.aload_n 0, 1) := by decide +kernel
theorem dX2_init_54 : decode cX2_init 54 = .ok (.iconst 0, 1) := by decide +kernel
theorem dX2_init_55 : decode cX2_init 55 = .ok (.putfield 37, 3) := by decide +kernel
theorem dX2_init_58 : decode cX2_init 58 = .ok (.aload_n 0, 1) := by decide +kernel
theorem dX2_init_59 : decode cX2_init 59 = .ok (.iconst 0, 1) := by decide +kernel
theorem dX2_init_60 : decode cX2_init 60 = .ok (.putfield 40, 3) := by decide +kernel
theorem dX2_init_63 : decode cX2_init 63 = .ok (.return_, 1) := by decide +kernel
theorem dX2_limit_0 : decode cX2_limit 0 = .ok (.aload_n 0, 1) := by decide +kernel
theorem dX2_limit_1 : decode cX2_limit 1 = .ok (.iload_n 1, 1) := by decide +kernel
theorem dX2_limit_2 : decode cX2_limit 2 = .ok (.putfield 22, 3) := by decide +kernel
theorem dX2_limit_5 : decode cX2_limit 5 = .ok (.aload_n 0, 1) := by decide +kernel
theorem dX2_limit_6 : decode cX2_limit 6 = .ok (.iload_n 2, 1) := by decide +kernel
theorem dX2_limit_7 : decode cX2_limit 7 = .ok (.putfield 25, 3) := by decide +kernel
theorem dX2_limit_10 : decode cX2_limit 10 = .ok (.aload_n 0, 1) := by decide +kernel
theorem dX2_limit_11 : decode cX2_limit 11 = .ok (.iload_n 3, 1) := by decide +kernel
theorem dX2_limit_12 : decode cX2_limit 12 = .ok (.putfield 28, 3) := by decide +kernel
theorem dX2_limit_15 : decode cX2_limit 15 = .ok (.aload_n 0, 1) := by decide +kernel
theorem dX2_limit_16 : decode cX2_limit 16 = .ok (.getfield 37, 3) := by decide +kernel
theorem dX2_limit_19 : decode cX2_limit 19 = .ok (.iload_n 3, 1) := by decide +kernel
theorem dX2_limit_20 : decode cX2_limit 20 = .ok (.if_icmp .le 8, 3) := by decide +kernel
theorem dX2_limit_23 : decode cX2_limit 23 = .ok (.aload_n 0, 1) := by decide +kernel
theorem dX2_limit_24 : decode cX2_limit 24 = .ok (.iload_n 3, 1) := by decide +kernel
theorem dX2_limit_25 : decode cX2_limit 25 = .ok (.putfield 37, 3) := by decide +kernel
theorem dX2_limit_28 : decode cX2_limit 28 = .ok (.return_, 1) := by decide +kernel
theorem dX2_isEmpty_0 : decode cX2_isEmpty 0 = .ok (.aload_n 0, 1) := by decide +kernel
theorem dX2_isEmpty_1 : decode cX2_isEmpty 1 = .ok (.getfield 18, 3) := by decide +kernel
theorem dX2_isEmpty_4 : decode cX2_isEmpty 4 = .ok (.aload_n 0, 1) := by decide +kernel
theorem dX2_isEmpty_5 : decode cX2_isEmpty 5 = .ok (.getfield 15, 3) := by decide +kernel
theorem dX2_isEmpty_8 : decode cX2_isEmpty 8 = .ok (.iconst 0, 1) := by decide +kernel
theorem dX2_isEmpty_9 : decode cX2_isEmpty 9 = .ok (.iaload, 1) := by decide +kernel
theorem dX2_isEmpty_10 : decode cX2_isEmpty 10 = .ok (.if_icmp .ne 7, 3) := by decide +kernel
theorem dX2_isEmpty_13 : decode cX2_isEmpty 13 = .ok (.iconst 1, 1) := by decide +kernel
theorem dX2_isEmpty_14 : decode cX2_isEmpty 14 = .ok (.goto 4, 3) := by decide +kernel
theorem dX2_isEmpty_17 : decode cX2_isEmpty 17 = .ok (.iconst 0, 1) := by decide +kernel
theorem dX2_isEmpty_18 : decode cX2_isEmpty 18 = .ok (.ireturn, 1) := by decide +kernel
set_option maxRecDepth 20000 in
theorem ggX2_isAged_X2_isEmpty : GoodIn wsX2_isAged wsX2_isEmpty := goodIn_r _ [7, 8, 9, 10, 11, 12, 13, 14, 15, 16, 17, 18, 19] (by decide +kernel) (by decide +kernel)
set_option maxRecDepth 20000 in
theorem gX2_isAged_X2_isEmpty : GoodIn wsX2_isAged (wsV RX2 43 RX2 yX2_isEmpty wsX2_isEmpty) := goodIn_app (goodIn_of _ (by decide +kernel)) ggX2_isAged_X2_isEmpty
theorem dX2_isAged_0 : decode cX2_isAged 0 = .ok (.aload_n 0, 1) := by decide +kernel
theorem dX2_isAged_1 : decode cX2_isAged 1 = .ok (.getfield 25, 3) := by decide +kernel
theorem dX2_isAged_4 : decode cX2_isAged 4 = .ok (.ifCond .eq 27, 3) := by decide +kernel
theorem dX2_isAged_7 : decode cX2_isAged 7 = .ok (.aload_n 0, 1) := by decide +kernel
theorem dX2_isAged_8 : decode cX2_isAged 8 = .ok (.invokevirtual 43, 3) := by decide +kernel
theorem dX2_isAged_11 : decode cX2_isAged 11 = .ok (.ifCond .ne 20, 3) := by decide +kernel
theorem dX2_isAged_14 : decode cX2_isAged 14 = .ok (.iload_n 1, 1) := by decide +kernel
theorem dX2_isAged_15 : decode cX2_isAged 15 = .ok (.aload_n 0, 1) := by decide +kernel
theorem dX2_isAged_16 : decode cX2_isAged 16 = .ok (.getfield 31, 3) := by decide +kernel
theorem dX2_isAged_19 : decode cX2_isAged 19 = .ok (.isub, 1) := by decide +kernel
theorem dX2_isAged_20 : decode cX2_isAged 20 = .ok (.aload_n 0, 1) := by decide +kernel
theorem dX2_isAged_21 : decode cX2_isAged 21 = .ok (.getfield 25, 3) := by decide +kernel
theorem dX2_isAged_24 : decode cX2_isAged 24 = .ok (.if_icmp .lt 7, 3) := by decide +kernel
theorem dX2_isAged_27 : decode cX2_isAged 27 = .ok (.iconst 1, 1) := by decide +kernel
theorem dX2_isAged_28 : decode cX2_isAged 28 = .ok (.goto 4, 3) := by decide +kernel
theorem dX2_isAged_31 : decode cX2_isAged 31 = .ok (.iconst 0, 1) := by decide +kernel
theorem dX2_isAged_32 : decode cX2_isAged 32 = .ok (.ireturn, 1) := by decide +kernel
set_option maxRecDepth 20000 in
theorem ggX2_add_X2_isEmpty : GoodIn wsX2_add wsX2_isEmpty := goodIn_r _ [10, 4, 11, 19, 20, 21, 22, 23, 24, 25, 26, 27, 28] (by decide +kernel) (by decide +kernel)
set_option maxRecDepth 20000 in
theorem gX2_add_X2_isEmpty : GoodIn wsX2_add (wsV RX2 43 RX2 yX2_isEmpty wsX2_isEmpty) := goodIn_app (goodIn_of _ (by decide +kernel)) ggX2_add_X2_isEmpty
set_option maxRecDepth 20000 in
theorem ggX2_add_X2_turnOver : GoodIn wsX2_add wsX2_turnOver := goodIn_r _ [15, 11, 4, 1, 16, 17, 18, 19, 20, 21, 22, 23, 24, 25, 26, 27, 28] (by decide +kernel) (by decide +kernel)
set_option maxRecDepth 20000 in
theorem gX2_add_X2_turnOver : GoodIn wsX2_add (wsV RX2 47 RX2 yX2_turnOver wsX2_turnOver) := goodIn_app (goodIn_of _ (by decide +kernel)) ggX2_add_X2_turnOver
theorem dX2_add_0 : decode cX2_add 0 = .ok (.aload_n 0, 1) := by decide +kernel
theorem dX2_add_1 : decode cX2_add 1 = .ok (.invokevirtual 43, 3) := by decide +kernel
theorem dX2_add_4 : decode cX2_add 4 = .ok (.ifCond .ne 20, 3) := by decide +kernel
theorem dX2_add_7 : decode cX2_add 7 = .ok (.aload_n 0, 1) := by decide +kernel
theorem dX2_add_8 : decode cX2_add 8 = .ok (.getfield 34, 3) := by decide +kernel
theorem dX2_add_11 : decode cX2_add 11 = .ok (.iload_n 2, 1) := by decide +kernel
theorem dX2_add_12 : decode cX2_add 12 = .ok (.iadd, 1) := by decide +kernel
theorem dX2_add_13 : decode cX2_add 13 = .ok (.aload_n 0, 1) := by decide +kernel
theorem dX2_add_14 : decode cX2_add 14 = .ok (.getfield 22, 3) := by decide +kernel
theorem dX2_add_17 : decode cX2_add 17 = .ok (.if_icmp .le 7, 3) := by decide +kernel
theorem dX2_add_20 : decode cX2_add 20 = .ok (.aload_n 0, 1) := by decide +kernel
theorem dX2_add_21 : decode cX2_add 21 = .ok (.invokevirtual 47, 3) := by decide +kernel
theorem dX2_add_24 : decode cX2_add 24 = .ok (.aload_n 0, 1) := by decide +kernel
theorem dX2_add_25 : decode cX2_add 25 = .ok (.invokevirtual 43, 3) := by decide +kernel
theorem dX2_add_28 : decode cX2_add 28 = .ok (.ifCond .eq 8, 3) := by decide +kernel
theorem dX2_add_31 : decode cX2_add 31 = .ok (.aload_n 0, 1) := by decide +kernel
theorem dX2_add_32 : decode cX2_add 32 = .ok (.iload_n 3, 1) := by decide +kernel
theorem dX2_add_33 : decode cX2_add 33 = .ok (.putfield 31, 3) := by decide +kernel
theorem dX2_add_36 : decode cX2_add 36 = .ok (.aload_n 0, 1) := by decide +kernel
theorem dX2_add_37 : decode cX2_add 37 = .ok (.getfield 18, 3) := by decide +kernel
theorem dX2_add_40 : decode cX2_add 40 = .ok (.ifCond .lt 45, 3) := by decide +kernel
theorem dX2_add_43 : decode cX2_add 43 = .ok (.aload_n 0, 1) := by decide +kernel
theorem dX2_add_44 : decode cX2_add 44 = .ok (.getfield 18, 3) := by decide +kernel
theorem dX2_add_47 : decode cX2_add 47 = .ok (.aload_n 0, 1) := by decide +kernel
theorem dX2_add_48 : decode cX2_add 48 = .ok (.getfield 9, 3) := by decide +kernel
theorem dX2_add_51 : decode cX2_add 51 = .ok (.arraylength, 1) := by decide +kernel
theorem dX2_add_52 : decode cX2_add 52 = .ok (.if_icmp .ge 33, 3) := by decide +kernel
theorem dX2_add_55 : decode cX2_add 55 = .ok (.aload_n 0, 1) := by decide +kernel
theorem dX2_add_56 : decode cX2_add 56 = .ok (.getfield 9, 3) := by decide +kernel
theorem dX2_add_59 : decode cX2_add 59 = .ok (.aload_n 0, 1) := by decide +kernel
theorem dX2_add_60 : decode cX2_add 60 = .ok (.getfield 18, 3) := by decide +kernel
theorem dX2_add_63 : decode cX2_add 63 = .ok (.iload_n 1, 1) := by decide +kernel
theorem dX2_add_64 : decode cX2_add 64 = .ok (.iastore, 1) := by decide +kernel
theorem dX2_add_65 : decode cX2_add 65 = .ok (.aload_n 0, 1) := by decide +kernel
theorem dX2_add_66 : decode cX2_add 66 = .ok (.dup, 1) := by decide +kernel
theorem dX2_add_67 : decode cX2_add 67 = .ok (.getfield 18, 3) := by decide +kernel
theorem dX2_add_70 : decode cX2_add 70 = .ok (.iconst 1, 1) := by decide +kernel
theorem dX2_add_71 : decode cX2_add 71 = .ok (.iadd, 1) := by decide +kernel
theorem dX2_add_72 : decode cX2_add 72 = .ok (.putfield 18, 3) := by decide +kernel
theorem dX2_add_75 : decode cX2_add 75 = .ok (.aload_n 0, 1) := by decide +kernel
theorem dX2_add_76 : decode cX2_add 76 = .ok (.dup, 1) := by decide +kernel
theorem dX2_add_77 : decode cX2_add 77 = .ok (.getfield 34, 3) := by decide +kernel
theorem dX2_add_80 : decode cX2_add 80 = .ok (.iload_n 2, 1) := by decide +kernel
theorem dX2_add_81 : decode cX2_add 81 = .ok (.iadd, 1) := by decide +kernel
theorem dX2_add_82 : decode cX2_add 82 = .ok (.putfield 34, 3) := by decide +kernel
theorem dX2_add_85 : decode cX2_add 85 = .ok (.return_, 1) := by decide +kernel
theorem dX2_turnOver_0 : decode cX2_turnOver 0 = .ok (.iconst 5, 1) := by decide +kernel
theorem dX2_turnOver_1 : decode cX2_turnOver 1 = .ok (.istore_n 1, 1) := by decide +kernel
theorem dX2_turnOver_2 : decode cX2_turnOver 2 = .ok (.iload_n 1, 1) := by decide +kernel
theorem dX2_turnOver_3 : decode cX2_turnOver 3 = .ok (.ifCond .le 23, 3) := by decide +kernel
theorem dX2_turnOver_6 : decode cX2_turnOver 6 = .ok (.aload_n 0, 1) := by decide +kernel
theorem dX2_turnOver_7 : decode cX2_turnOver 7 = .ok (.getfield 15, 3) := by decide +kernel
theorem dX2_turnOver_10 : decode cX2_turnOver 10 = .ok (.iload_n 1, 1) := by decide +kernel
theorem dX2_turnOver_11 : decode cX2_turnOver 11 = .ok (.aload_n 0, 1) := by decide +kernel
theorem dX2_turnOver_12 : decode cX2_turnOver 12 = .ok (.getfield 15, 3) := by decide +kernel
theorem dX2_turnOver_15 : decode cX2_turnOver 15 = .ok (.iload_n 1, 1) := by decide +kernel
theorem dX2_turnOver_16 : decode cX2_turnOver 16 = .ok (.iconst 1, 1) := by decide +kernel
theorem dX2_turnOver_17 : decode cX2_turnOver 17 = .ok (.isub, 1) := by decide +kernel
theorem dX2_turnOver_18 : decode cX2_turnOver 18 = .ok (.iaload, 1) := by decide +kernel
theorem dX2_turnOver_19 : decode cX2_turnOver 19 = .ok (.iastore, 1) := by decide +kernel
theorem dX2_turnOver_20 : decode cX2_turnOver 20 = .ok (.iinc 1 (-1), 3) := by decide +kernel
theorem dX2_turnOver_23 : decode cX2_turnOver 23 = .ok (.goto (-21), 3) := by decide +kernel
theorem dX2_turnOver_26 : decode cX2_turnOver 26 = .ok (.aload_n 0, 1) := by decide +kernel
theorem dX2_turnOver_27 : decode cX2_turnOver 27 = .ok (.getfield 15, 3) := by decide +kernel
theorem dX2_turnOver_30 : decode cX2_turnOver 30 = .ok (.iconst 0, 1) := by decide +kernel
theorem dX2_turnOver_31 : decode cX2_turnOver 31 = .ok (.aload_n 0, 1) := by decide +kernel
theorem dX2_turnOver_32 : decode cX2_turnOver 32 = .ok (.getfield 18, 3) := by decide +kernel
theorem dX2_turnOver_35 : decode cX2_turnOver 35 = .ok (.iastore, 1) := by decide +kernel
theorem dX2_turnOver_36 : decode cX2_turnOver 36 = .ok (.aload_n 0, 1) := by decide +kernel
theorem dX2_turnOver_37 : decode cX2_turnOver 37 = .ok (.iconst 0, 1) := by decide +kernel
theorem dX2_turnOver_38 : decode cX2_turnOver 38 = .ok (.putfield 34, 3) := by decide +kernel
theorem dX2_turnOver_41 : decode cX2_turnOver 41 = .ok (.aload_n 0, 1) := by decide +kernel
theorem dX2_turnOver_42 : decode cX2_turnOver 42 = .ok (.dup, 1) := by decide +kernel
theorem dX2_turnOver_43 : decode cX2_turnOver 43 = .ok (.getfield 40, 3) := by decide +kernel
theorem dX2_turnOver_46 : decode cX2_turnOver 46 = .ok (.iconst 1, 1) := by decide +kernel
theorem dX2_turnOver_47 : decode cX2_turnOver 47 = .ok (.iadd, 1) := by decide +kernel
theorem dX2_turnOver_48 : decode cX2_turnOver 48 = .ok (.putfield 40, 3) := by decide +kernel
theorem dX2_turnOver_51 : decode cX2_turnOver 51 = .ok (.aload_n 0, 1) := by decide +kernel
theorem dX2_turnOver_52 : decode cX2_turnOver 52 = .ok (.getfield 37, 3) := by decide +kernel
theorem dX2_turnOver_55 : decode cX2_turnOver 55 = .ok (.aload_n 0, 1) := by decide +kernel
theorem dX2_turnOver_56 : decode cX2_turnOver 56 = .ok (.getfield 28, 3) := by decide +kernel
theorem dX2_turnOver_59 : decode cX2_turnOver 59 = .ok (.if_icmp .ge 13, 3) := by decide +kernel
theorem dX2_turnOver_62 : decode cX2_turnOver 62 = .ok (.aload_n 0, 1) := by decide +kernel
theorem dX2_turnOver_63 : decode cX2_turnOver 63 = .ok (.dup, 1) := by decide +kernel
theorem dX2_turnOver_64 : decode cX2_turnOver 64 = .ok (.getfield 37, 3) := by decide +kernel
theorem dX2_turnOver_67 : decode cX2_turnOver 67 = .ok (.iconst 1, 1) := by decide +kernel
theorem dX2_turnOver_68 : decode cX2_turnOver 68 = .ok (.iadd, 1) := by decide +kernel
theorem dX2_turnOver_69 : decode cX2_turnOver 69 = .ok (.putfield 37, 3) := by decide +kernel
theorem dX2_turnOver_72 : decode cX2_turnOver 72 = .ok (.return_, 1) := by decide +kernel
theorem dX2_has_0 : decode cX2_has 0 = .ok (.iload_n 1, 1) := by decide +kernel
theorem dX2_has_1 : decode cX2_has 1 = .ok (.iconst (-1), 1) := by decide +kernel
theorem dX2_has_2 : decode cX2_has 2 = .ok (.if_icmp .lt 15, 3) := by decide +kernel
theorem dX2_has_5 : decode cX2_has 5 = .ok (.iload_n 1, 1) := by decide +kernel
theorem dX2_has_6 : decode cX2_has 6 = .ok (.aload_n 0, 1) := by decide +kernel
theorem dX2_has_7 : decode cX2_has 7 = .ok (.getfield 37, 3) := by decide +kernel
theorem dX2_has_10 : decode cX2_has 10 = .ok (.if_icmp .ge 7, 3) := by decide +kernel
theorem dX2_has_13 : decode cX2_has 13 = .ok (.iconst 1, 1) := by decide +kernel
theorem dX2_has_14 : decode cX2_has 14 = .ok (.goto 4, 3) := by decide +kernel
theorem dX2_has_17 : decode cX2_has 17 = .ok (.iconst 0, 1) := by decide +kernel
theorem dX2_has_18 : decode cX2_has 18 = .ok (.ireturn, 1) := by decide +kernel
set_option maxRecDepth 20000 in
theorem ggX2_linesOf_X2_startOf : GoodIn wsX2_linesOf wsX2_startOf := goodIn_r _ [6, 7, 1, 8, 9, 10, 11, 12, 13, 14, 15, 16, 17] (by decide +kernel) (by decide +kernel)
set_option maxRecDepth 20000 in
theorem gX2_linesOf_X2_startOf : GoodIn wsX2_linesOf (wsV RX2 50 RX2 yX2_startOf wsX2_startOf) := goodIn_app (goodIn_of _ (by decide +kernel)) ggX2_linesOf_X2_startOf
theorem dX2_linesOf_0 : decode cX2_linesOf 0 = .ok (.iload_n 1, 1) := by decide +kernel
theorem dX2_linesOf_1 : decode cX2_linesOf 1 = .ok (.iconst (-1), 1) := by decide +kernel
theorem dX2_linesOf_2 : decode cX2_linesOf 2 = .ok (.if_icmp .ne 10, 3) := by decide +kernel
theorem dX2_linesOf_5 : decode cX2_linesOf 5 = .ok (.aload_n 0, 1) := by decide +kernel
theorem dX2_linesOf_6 : decode cX2_linesOf 6 = .ok (.getfield 18, 3) := by decide +kernel
theorem dX2_linesOf_9 : decode cX2_linesOf 9 = .ok (.goto 10, 3) := by decide +kernel
theorem dX2_linesOf_12 : decode cX2_linesOf 12 = .ok (.aload_n 0, 1) := by decide +kernel
theorem dX2_linesOf_13 : decode cX2_linesOf 13 = .ok (.iload_n 1, 1) := by decide +kernel
theorem dX2_linesOf_14 : decode cX2_linesOf 14 = .ok (.iconst 1, 1) := by decide +kernel
theorem dX2_linesOf_15 : decode cX2_linesOf 15 = .ok (.isub, 1) := by decide +kernel
theorem dX2_linesOf_16 : decode cX2_linesOf 16 = .ok (.invokevirtual 50, 3) := by decide +kernel
theorem dX2_linesOf_19 : decode cX2_linesOf 19 = .ok (.istore_n 2, 1) := by decide +kernel
theorem dX2_linesOf_20 : decode cX2_linesOf 20 = .ok (.iload_n 2, 1) := by decide +kernel
theorem dX2_linesOf_21 : decode cX2_linesOf 21 = .ok (.aload_n 0, 1) := by decide +kernel
theorem dX2_linesOf_22 : decode cX2_linesOf 22 = .ok (.iload_n 1, 1) := by decide +kernel
theorem dX2_linesOf_23 : decode cX2_linesOf 23 = .ok (.invokevirtual 50, 3) := by decide +kernel
theorem dX2_linesOf_26 : decode cX2_linesOf 26 = .ok (.isub, 1) := by decide +kernel
theorem dX2_linesOf_27 : decode cX2_linesOf 27 = .ok (.ireturn, 1) := by decide +kernel
set_option maxRecDepth 20000 in
theorem ggX2_lineAt_X2_startOf : GoodIn wsX2_lineAt wsX2_startOf := goodIn_r _ [6, 7, 8, 9, 10, 11, 12, 13, 14, 15, 16, 17, 18] (by decide +kernel) (by decide +kernel)
set_option maxRecDepth 20000 in
theorem gX2_lineAt_X2_startOf : GoodIn wsX2_lineAt (wsV RX2 50 RX2 yX2_startOf wsX2_startOf) := goodIn_app (goodIn_of _ (by decide +kernel)) ggX2_lineAt_X2_startOf
theorem dX2_lineAt_0 : decode cX2_lineAt 0 = .ok (.aload_n 0, 1) := by decide +kernel
theorem dX2_lineAt_1 : decode cX2_lineAt 1 = .ok (.iload_n 1, 1) := by decide +kernel
theorem dX2_lineAt_2 : decode cX2_lineAt 2 = .ok (.invokevirtual 50, 3) := by decide +kernel
theorem dX2_lineAt_5 : decode cX2_lineAt 5 = .ok (.iload_n 2, 1) := by decide +kernel
theorem dX2_lineAt_6 : decode cX2_lineAt 6 = .ok (.iadd, 1) := by decide +kernel
theorem dX2_lineAt_7 : decode cX2_lineAt 7 = .ok (.istore_n 3, 1) := by decide +kernel
theorem dX2_lineAt_8 : decode cX2_lineAt 8 = .ok (.iload_n 3, 1) := by decide +kernel
theorem dX2_lineAt_9 : decode cX2_lineAt 9 = .ok (.ifCond .lt 21, 3) := by decide +kernel
theorem dX2_lineAt_12 : decode cX2_lineAt 12 = .ok (.iload_n 3, 1) := by decide +kernel
theorem dX2_lineAt_13 : decode cX2_lineAt 13 = .ok (.aload_n 0, 1) := by decide +kernel
theorem dX2_lineAt_14 : decode cX2_lineAt 14 = .ok (.getfield 9, 3) := by decide +kernel
theorem dX2_lineAt_17 : decode cX2_lineAt 17 = .ok (.arraylength, 1) := by decide +kernel
theorem dX2_lineAt_18 : decode cX2_lineAt 18 = .ok (.if_icmp .ge 12, 3) := by decide +kernel
theorem dX2_lineAt_21 : decode cX2_lineAt 21 = .ok (.aload_n 0, 1) := by decide +kernel
theorem dX2_lineAt_22 : decode cX2_lineAt 22 = .ok (.getfield 9, 3) := by decide +kernel
theorem dX2_lineAt_25 : decode cX2_lineAt 25 = .ok (.iload_n 3, 1) := by decide +kernel
theorem dX2_lineAt_26 : decode cX2_lineAt 26 = .ok (.iaload, 1) := by decide +kernel
theorem dX2_lineAt_27 : decode cX2_lineAt 27 = .ok (.goto 4, 3) := by decide +kernel
theorem dX2_lineAt_30 : decode cX2_lineAt 30 = .ok (.iconst (-1), 1) := by decide +kernel
theorem dX2_lineAt_31 : decode cX2_lineAt 31 = .ok (.ireturn, 1) := by decide +kernel
theorem dX2_startOf_0 : decode cX2_startOf 0 = .ok (.iload_n 1, 1) := by decide +kernel
theorem dX2_startOf_1 : decode cX2_startOf 1 = .ok (.iconst 1, 1) := by decide +kernel
theorem dX2_startOf_2 : decode cX2_startOf 2 = .ok (.iadd, 1) := by decide +kernel
theorem dX2_startOf_3 : decode cX2_startOf 3 = .ok (.istore_n 2, 1) := by decide +kernel
theorem dX2_startOf_4 : decode cX2_startOf 4 = .ok (.iload_n 2, 1) := by decide +kernel
theorem dX2_startOf_5 : decode cX2_startOf 5 = .ok (.ifCond .lt 21, 3) := by decide +kernel
theorem dX2_startOf_8 : decode cX2_startOf 8 = .ok (.iload_n 2, 1) := by decide +kernel
theorem dX2_startOf_9 : decode cX2_startOf 9 = .ok (.aload_n 0, 1) := by decide +kernel
theorem dX2_startOf_10 : decode cX2_startOf 10 = .ok (.getfield 15, 3) := by decide +kernel
theorem dX2_startOf_13 : decode cX2_startOf 13 = .ok (.arraylength, 1) := by decide +kernel
theorem dX2_startOf_14 : decode cX2_startOf 14 = .ok (.if_icmp .ge 12, 3) := by decide +kernel
theorem dX2_startOf_17 : decode cX2_startOf 17 = .ok (.aload_n 0, 1) := by decide +kernel
theorem dX2_startOf_18 : decode cX2_startOf 18 = .ok (.getfield 15, 3) := by decide +kernel
theorem dX2_startOf_21 : decode cX2_startOf 21 = .ok (.iload_n 2, 1) := by decide +kernel
theorem dX2_startOf_22 : decode cX2_startOf 22 = .ok (.iaload, 1) := by decide +kernel
theorem dX2_startOf_23 : decode cX2_startOf 23 = .ok (.goto 7, 3) := by decide +kernel
theorem dX2_startOf_26 : decode cX2_startOf 26 = .ok (.aload_n 0, 1) := by decide +kernel
theorem dX2_startOf_27 : decode cX2_startOf 27 = .ok (.getfield 18, 3) := by decide +kernel
theorem dX2_startOf_30 : decode cX2_startOf 30 = .ok (.ireturn, 1) := by decide +kernel
theorem dX3_init_0 : decode cX3_init 0 = .ok (.aload_n 0, 1) := by decide +kernel
theorem dX3_init_1 : decode cX3_init 1 = .ok (.invokespecial 3, 3) := by decide +kernel
theorem dX3_init_4 : decode cX3_init 4 = .ok (.aload_n 0, 1) := by decide +kernel
theorem dX3_init_5 : decode cX3_init 5 = .ok (.iconst 0, 1) := by decide +kernel
theorem dX3_init_6 : decode cX3_init 6 = .ok (.putfield 9, 3) := by decide +kernel
theorem dX3_init_9 : decode cX3_init 9 = .ok (.aload_n 0, 1) := by decide +kernel
theorem dX3_init_10 : decode cX3_init 10 = .ok (.iconst 0, 1) := by decide +kernel
theorem dX3_init_11 : decode cX3_init 11 = .ok (.putfield 15, 3) := by decide +kernel
theorem dX3_init_14 : decode cX3_init 14 = .ok (.aload_n 0, 1) := by decide +kernel
theorem dX3_init_15 : decode cX3_init 15 = .ok (.iconst 0, 1) := by decide +kernel
theorem dX3_init_16 : decode cX3_init 16 = .ok (.putfield 19, 3) := by decide +kernel
theorem dX3_init_19 : decode cX3_init 19 = .ok (.aload_n 0, 1) := by decide +kernel
theorem dX3_init_20 : decode cX3_init 20 = .ok (.iconst (-1), 1) := by decide +kernel
theorem dX3_init_21 : decode cX3_init 21 = .ok (.putfield 22, 3) := by decide +kernel
theorem dX3_init_24 : decode cX3_init 24 = .ok (.aload_n 0, 1) := by decide +kernel
theorem dX3_init_25 : decode cX3_init 25 = .ok (.iconst 0, 1) := by decide +kernel
theorem dX3_init_26 : decode cX3_init 26 = .ok (.putfield 25, 3) := by decide +kernel
theorem dX3_init_29 : decode cX3_init 29 = .ok (.return_, 1) := by decide +kernel
theorem dX3_put_0 : decode cX3_put 0 = .ok (.aload_n 0, 1) := by decide +kernel
theorem dX3_put_1 : decode cX3_put 1 = .ok (.iconst 1, 1) := by decide +kernel
theorem dX3_put_2 : decode cX3_put 2 = .ok (.putfield 9, 3) := by decide +kernel
theorem dX3_put_5 : decode cX3_put 5 = .ok (.aload_n 0, 1) := by decide +kernel
theorem dX3_put_6 : decode cX3_put 6 = .ok (.iload_n 1, 1) := by decide +kernel
theorem dX3_put_7 : decode cX3_put 7 = .ok (.putfield 15, 3) := by decide +kernel
theorem dX3_put_10 : decode cX3_put 10 = .ok (.aload_n 0, 1) := by decide +kernel
theorem dX3_put_11 : decode cX3_put 11 = .ok (.iload_n 2, 1) := by decide +kernel
theorem dX3_put_12 : decode cX3_put 12 = .ok (.putfield 19, 3) := by decide +kernel
theorem dX3_put_15 : decode cX3_put 15 = .ok (.aload_n 0, 1) := by decide +kernel
theorem dX3_put_16 : decode cX3_put 16 = .ok (.iload_n 3, 1) := by decide +kernel
theorem dX3_put_17 : decode cX3_put 17 = .ok (.putfield 22, 3) := by decide +kernel
theorem dX3_put_20 : decode cX3_put 20 = .ok (.aload_n 0, 1) := by decide +kernel
theorem dX3_put_21 : decode cX3_put 21 = .ok (.iload 4, 2) := by decide +kernel
theorem dX3_put_23 : decode cX3_put 23 = .ok (.putfield 25, 3) := by decide +kernel
theorem dX3_put_26 : decode cX3_put 26 = .ok (.return_, 1) := by decide +kernel
theorem dX3_fits_0 : decode cX3_fits 0 = .ok (.aload_n 0, 1) := by decide +kernel
theorem dX3_fits_1 : decode cX3_fits 1 = .ok (.getfield 9, 3) := by decide +kernel
theorem dX3_fits_4 : decode cX3_fits 4 = .ok (.ifCond .eq 43, 3) := by decide +kernel
theorem dX3_fits_7 : decode cX3_fits 7 = .ok (.aload_n 0, 1) := by decide +kernel
theorem dX3_fits_8 : decode cX3_fits 8 = .ok (.getfield 15, 3) := by decide +kernel
theorem dX3_fits_11 : decode cX3_fits 11 = .ok (.iload_n 2, 1) := by decide +kernel
theorem dX3_fits_12 : decode cX3_fits 12 = .ok (.ishr, 1) := by decide +kernel
theorem dX3_fits_13 : decode cX3_fits 13 = .ok (.iconst 1, 1) := by decide +kernel
theorem dX3_fits_14 : decode cX3_fits 14 = .ok (.iand, 1) := by decide +kernel
theorem dX3_fits_15 : decode cX3_fits 15 = .ok (.iconst 1, 1) := by decide +kernel
theorem dX3_fits_16 : decode cX3_fits 16 = .ok (.if_icmp .ne 31, 3) := by decide +kernel
theorem dX3_fits_19 : decode cX3_fits 19 = .ok (.iload_n 3, 1) := by decide +kernel
theorem dX3_fits_20 : decode cX3_fits 20 = .ok (.aload_n 0, 1) := by decide +kernel
theorem dX3_fits_21 : decode cX3_fits 21 = .ok (.getfield 19, 3) := by decide +kernel
theorem dX3_fits_24 : decode cX3_fits 24 = .ok (.if_icmp .gt 23, 3) := by decide +kernel
theorem dX3_fits_27 : decode cX3_fits 27 = .ok (.aload_n 0, 1) := by decide +kernel
theorem dX3_fits_28 : decode cX3_fits 28 = .ok (.getfield 22, 3) := by decide +kernel
theorem dX3_fits_31 : decode cX3_fits 31 = .ok (.iconst (-1), 1) := by decide +kernel
theorem dX3_fits_32 : decode cX3_fits 32 = .ok (.if_icmp .eq 11, 3) := by decide +kernel
theorem dX3_fits_35 : decode cX3_fits 35 = .ok (.aload_n 0, 1) := by decide +kernel
theorem dX3_fits_36 : decode cX3_fits 36 = .ok (.getfield 22, 3) := by decide +kernel
theorem dX3_fits_39 : decode cX3_fits 39 = .ok (.iload_n 1, 1) := by decide +kernel
theorem dX3_fits_40 : decode cX3_fits 40 = .ok (.if_icmp .ne 7, 3) := by decide +kernel
theorem dX3_fits_43 : decode cX3_fits 43 = .ok (.iconst 1, 1) := by decide +kernel
theorem dX3_fits_44 : decode cX3_fits 44 = .ok (.goto 4, 3) := by decide +kernel
theorem dX3_fits_47 : decode cX3_fits 47 = .ok (.iconst 0, 1) := by decide +kernel
theorem dX3_fits_48 : decode cX3_fits 48 = .ok (.ireturn, 1) := by decide +kernel
theorem dX4_init_0 : decode cX4_init 0 = .ok (.aload_n 0, 1) := by decide +kernel
theorem dX4_init_1 : decode cX4_init 1 = .ok (.invokespecial 3, 3) := by decide +kernel
theorem dX4_init_4 : decode cX4_init 4 = .ok (.aload_n 0, 1) := by decide +kernel
theorem dX4_init_5 : decode cX4_init 5 = .ok (.iconst 0, 1) := by decide +kernel
theorem dX4_init_6 : decode cX4_init 6 = .ok (.putfield 9, 3) := by decide +kernel
theorem dX4_init_9 : decode cX4_init 9 = .ok (.aload_n 0, 1) := by decide +kernel
theorem dX4_init_10 : decode cX4_init 10 = .ok (.iconst 0, 1) := by decide +kernel
theorem dX4_init_11 : decode cX4_init 11 = .ok (.putfield 15, 3) := by decide +kernel
theorem dX4_init_14 : decode cX4_init 14 = .ok (.aload_n 0, 1) := by decide +kernel
theorem dX4_init_15 : decode cX4_init 15 = .ok (.iconst 0, 1) := by decide +kernel
theorem dX4_init_16 : decode cX4_init 16 = .ok (.putfield 18, 3) := by decide +kernel
theorem dX4_init_19 : decode cX4_init 19 = .ok (.aload_n 0, 1) := by decide +kernel
theorem dX4_init_20 : decode cX4_init 20 = .ok (.iconst (-1), 1) := by decide +kernel
theorem dX4_init_21 : decode cX4_init 21 = .ok (.putfield 21, 3) := by decide +kernel
theorem dX4_init_24 : decode cX4_init 24 = .ok (.aload_n 0, 1) := by decide +kernel
theorem dX4_init_25 : decode cX4_init 25 = .ok (.iconst (-1), 1) := by decide +kernel
theorem dX4_init_26 : decode cX4_init 26 = .ok (.putfield 24, 3) := by decide +kernel
theorem dX4_init_29 : decode cX4_init 29 = .ok (.aload_n 0, 1) := by decide +kernel
theorem dX4_init_30 : decode cX4_init 30 = .ok (.iconst (-1), 1) := by decide +kernel
theorem dX4_init_31 : decode cX4_init 31 = .ok (.putfield 27, 3) := by decide +kernel
theorem dX4_init_34 : decode cX4_init 34 = .ok (.aload_n 0, 1) := by decide +kernel
theorem dX4_init_35 : decode cX4_init 35 = .ok (.iconst (-1), 1) := by decide +kernel
theorem dX4_init_36 : decode cX4_init 36 = .ok (.putfield 30, 3) := by decide +kernel
theorem dX4_init_39 : decode cX4_init 39 = .ok (.aload_n 0, 1) := by decide +kernel
theorem dX4_init_40 : decode cX4_init 40 = .ok (.iload_n 1, 1) := by decide +kernel
theorem dX4_init_41 : decode cX4_init 41 = .ok (.putfield 33, 3) := by decide +kernel
theorem dX4_init_44 : decode cX4_init 44 = .ok (.aload_n 0, 1) := by decide +kernel
theorem dX4_init_45 : decode cX4_init 45 = .ok (.iload_n 2, 1) := by decide +kernel
theorem dX4_init_46 : decode cX4_init 46 = .ok (.putfield 36, 3) := by decide +kernel
theorem dX4_init_49 : decode cX4_init 49 = .ok (.return_, 1) := by decide +kernel
theorem dX4_capTokens_0 : decode cX4_capTokens 0 = .ok (.aload_n 0, 1) := by decide +kernel
theorem dX4_capTokens_1 : decode cX4_capTokens 1 = .ok (.getfield 36, 3) := by decide +kernel
theorem dX4_capTokens_4 : decode cX4_capTokens 4 = .ok (.iload_n 1, 1) := by decide +kernel
theorem dX4_capTokens_5 : decode cX4_capTokens 5 = .ok (.if_icmp .le 8, 3) := by decide +kernel
theorem dX4_capTokens_8 : decode cX4_capTokens 8 = .ok (.aload_n 0, 1) := by decide +kernel
theorem dX4_capTokens_9 : decode cX4_capTokens 9 = .ok (.iload_n 1, 1) := by decide +kernel
theorem dX4_capTokens_10 : decode cX4_capTokens 10 = .ok (.putfield 36, 3) := by decide +kernel
theorem dX4_capTokens_13 : decode cX4_capTokens 13 = .ok (.return_, 1) := by decide +kernel
theorem dX4_gainToken_0 : decode cX4_gainToken 0 = .ok (.aload_n 0, 1) := by decide +kernel
theorem dX4_gainToken_1 : decode cX4_gainToken 1 = .ok (.getfield 36, 3) := by decide +kernel
theorem dX4_gainToken_4 : decode cX4_gainToken 4 = .ok (.iload_n 1, 1) := by decide +kernel
theorem dX4_gainToken_5 : decode cX4_gainToken 5 = .ok (.if_icmp .ge 13, 3) := by decide +kernel
theorem dX4_gainToken_8 : decode cX4_gainToken 8 = .ok (.aload_n 0, 1) := by decide +kernel
theorem dX4_gainToken_9 : decode cX4_gainToken 9 = .ok (.dup, 1) := by decide +kernel
theorem dX4_gainToken_10 : decode cX4_gainToken 10 = .ok (.getfield 36, 3) := by decide +kernel
theorem dX4_gainToken_13 : decode cX4_gainToken 13 = .ok (.iconst 1, 1) := by decide +kernel
theorem dX4_gainToken_14 : decode cX4_gainToken 14 = .ok (.iadd, 1) := by decide +kernel
theorem dX4_gainToken_15 : decode cX4_gainToken 15 = .ok (.putfield 36, 3) := by decide +kernel
theorem dX4_gainToken_18 : decode cX4_gainToken 18 = .ok (.return_, 1) := by decide +kernel
theorem dX4_lastIs_0 : decode cX4_lastIs 0 = .ok (.aload_n 0, 1) := by decide +kernel
theorem dX4_lastIs_1 : decode cX4_lastIs 1 = .ok (.getfield 21, 3) := by decide +kernel
theorem dX4_lastIs_4 : decode cX4_lastIs 4 = .ok (.iload_n 1, 1) := by decide +kernel
theorem dX4_lastIs_5 : decode cX4_lastIs 5 = .ok (.if_icmp .ne 32, 3) := by decide +kernel
theorem dX4_lastIs_8 : decode cX4_lastIs 8 = .ok (.aload_n 0, 1) := by decide +kernel
theorem dX4_lastIs_9 : decode cX4_lastIs 9 = .ok (.getfield 24, 3) := by decide +kernel
theorem dX4_lastIs_12 : decode cX4_lastIs 12 = .ok (.iload_n 2, 1) := by decide +kernel
theorem dX4_lastIs_13 : decode cX4_lastIs 13 = .ok (.if_icmp .ne 24, 3) := by decide +kernel
theorem dX4_lastIs_16 : decode cX4_lastIs 16 = .ok (.aload_n 0, 1) := by decide +kernel
theorem dX4_lastIs_17 : decode cX4_lastIs 17 = .ok (.getfield 27, 3) := by decide +kernel
theorem dX4_lastIs_20 : decode cX4_lastIs 20 = .ok (.iload_n 3, 1) := by decide +kernel
theorem dX4_lastIs_21 : decode cX4_lastIs 21 = .ok (.if_icmp .ne 16, 3) := by decide +kernel
theorem dX4_lastIs_24 : decode cX4_lastIs 24 = .ok (.aload_n 0, 1) := by decide +kernel
theorem dX4_lastIs_25 : decode cX4_lastIs 25 = .ok (.getfield 30, 3) := by decide +kernel
theorem dX4_lastIs_28 : decode cX4_lastIs 28 = .ok (.iload 4, 2) := by decide +kernel
theorem dX4_lastIs_30 : decode cX4_lastIs 30 = .ok (.if_icmp .ne 7, 3) := by decide +kernel
theorem dX4_lastIs_33 : decode cX4_lastIs 33 = .ok (.iconst 1, 1) := by decide +kernel
theorem dX4_lastIs_34 : decode cX4_lastIs 34 = .ok (.goto 4, 3) := by decide +kernel
theorem dX4_lastIs_37 : decode cX4_lastIs 37 = .ok (.iconst 0, 1) := by decide +kernel
theorem dX4_lastIs_38 : decode cX4_lastIs 38 = .ok (.ireturn, 1) := by decide +kernel
theorem dX4_setLast_0 : decode cX4_setLast 0 = .ok (.aload_n 0, 1) := by decide +kernel
theorem dX4_setLast_1 : decode cX4_setLast 1 = .ok (.iload_n 1, 1) := by decide +kernel
theorem dX4_setLast_2 : decode cX4_setLast 2 = .ok (.putfield 21, 3) := by decide +kernel
theorem dX4_setLast_5 : decode cX4_setLast 5 = .ok (.aload_n 0, 1) := by decide +kernel
theorem dX4_setLast_6 : decode cX4_setLast 6 = .ok (.iload_n 2, 1) := by decide +kernel
theorem dX4_setLast_7 : decode cX4_setLast 7 = .ok (.putfield 24, 3) := by decide +kernel
theorem dX4_setLast_10 : decode cX4_setLast 10 = .ok (.aload_n 0, 1) := by decide +kernel
theorem dX4_setLast_11 : decode cX4_setLast 11 = .ok (.iload_n 3, 1) := by decide +kernel
theorem dX4_setLast_12 : decode cX4_setLast 12 = .ok (.putfield 27, 3) := by decide +kernel
theorem dX4_setLast_15 : decode cX4_setLast 15 = .ok (.aload_n 0, 1) := by decide +kernel
theorem dX4_setLast_16 : decode cX4_setLast 16 = .ok (.iload 4, 2) := by decide +kernel
theorem dX4_setLast_18 : decode cX4_setLast 18 = .ok (.putfield 30, 3) := by decide +kernel
theorem dX4_setLast_21 : decode cX4_setLast 21 = .ok (.return_, 1) := by decide +kernel
theorem dX4_countRepeat_0 : decode cX4_countRepeat 0 = .ok (.aload_n 0, 1) := by decide +kernel
theorem dX4_countRepeat_1 : decode cX4_countRepeat 1 = .ok (.getfield 9, 3) := by decide +kernel
theorem dX4_countRepeat_4 : decode cX4_countRepeat 4 = .ok (.ifCond .ne 8, 3) := by decide +kernel
theorem dX4_countRepeat_7 : decode cX4_countRepeat 7 = .ok (.aload_n 0, 1) := by decide +kernel
theorem dX4_countRepeat_8 : decode cX4_countRepeat 8 = .ok (.iload_n 1, 1) := by decide +kernel
theorem dX4_countRepeat_9 : decode cX4_countRepeat 9 = .ok (.putfield 15, 3) := by decide +kernel
theorem dX4_countRepeat_12 : decode cX4_countRepeat 12 = .ok (.aload_n 0, 1) := by decide +kernel
theorem dX4_countRepeat_13 : decode cX4_countRepeat 13 = .ok (.dup, 1) := by decide +kernel
theorem dX4_countRepeat_14 : decode cX4_countRepeat 14 = .ok (.getfield 9, 3) := by decide +kernel
theorem dX4_countRepeat_17 : decode cX4_countRepeat 17 = .ok (.iconst 1, 1) := by decide +kernel
theorem dX4_countRepeat_18 : decode cX4_countRepeat 18 = .ok (.iadd, 1) := by decide +kernel
theorem dX4_countRepeat_19 : decode cX4_countRepeat 19 = .ok (.putfield 9, 3) := by decide +kernel
theorem dX4_countRepeat_22 : decode cX4_countRepeat 22 = .ok (.return_, 1) := by decide +kernel
end
section
set_option maxRecDepth 20000 in
theorem ggX5_init_X0_init : GoodIn wsX5_init wsX0_init := goodIn_r _ [29, 30, 2, 3, 31, 32, 33, 34, 35, 36, 37, 87, 88, 89, 90, 91, 92] (by decide +kernel) (by decide +kernel)
set_option maxRecDepth 20000 in
theorem gX5_init_X0_init_n29 : GoodIn wsX5_init (wsX0_init) := ggX5_init_X0_init
set_option maxRecDepth 20000 in
theorem ggX5_init_X1_init : GoodIn wsX5_init wsX1_init := goodIn_r _ [39, 40, 2, 3, 31, 41, 42, 43, 93, 94, 95] (by decide +kernel) (by decide +kernel)
set_option maxRecDepth 20000 in
theorem gX5_init_X1_init_n36 : GoodIn wsX5_init (wsX1_init) := ggX5_init_X1_init
set_option maxRecDepth 20000 in
theorem ggX5_init_X4_init : GoodIn wsX5_init wsX4_init := goodIn_r _ [46, 47, 2, 3, 48, 49, 50, 51, 52, 53, 54, 55, 56, 96, 97, 98, 99, 100, 101, 102, 103, 104] (by decide +kernel) (by decide +kernel)
set_option maxRecDepth 20000 in
theorem gX5_init_X4_init : GoodIn wsX5_init (wsX4_init) := ggX5_init_X4_init
set_option maxRecDepth 20000 in
theorem ggX5_init_X3_init : GoodIn wsX5_init wsX3_init := goodIn_r _ [58, 59, 2, 3, 60, 61, 62, 63, 64, 105, 106, 107, 108, 109] (by decide +kernel) (by decide +kernel)
set_option maxRecDepth 20000 in
theorem gX5_init_X3_init_n57 : GoodIn wsX5_init (wsX3_init) := ggX5_init_X3_init
set_option maxRecDepth 20000 in
theorem ggX5_init_X2_init : GoodIn wsX5_init wsX2_init := goodIn_r _ [66, 67, 2, 3, 31, 68, 69, 70, 71, 72, 73, 74, 75, 76, 77, 110, 111, 112, 113, 114, 115, 116, 117, 118, 119] (by decide +kernel) (by decide +kernel)
set_option maxRecDepth 20000 in
theorem gX5_init_X2_init_n58 : GoodIn wsX5_init (wsX2_init) := ggX5_init_X2_init
theorem dX5_init_0 : decode cX5_init 0 = .ok (.aload_n 0, 1) := by decide +kernel
theorem dX5_init_1 : decode cX5_init 1 = .ok (.invokespecial 3, 3) := by decide +kernel
theorem dX5_init_4 : decode cX5_init 4 = .ok (.aload_n 0, 1) := by decide +kernel
theorem dX5_init_5 : decode cX5_init 5 = .ok (.bipush 6, 2) := by decide +kernel
theorem dX5_init_7 : decode cX5_init 7 = .ok (.anewarray 9, 3) := by decide +kernel
theorem dX5_init_10 : decode cX5_init 10 = .ok (.putfield 11, 3) := by decide +kernel
theorem dX5_init_13 : decode cX5_init 13 = .ok (.aload_n 0, 1) := by decide +kernel
theorem dX5_init_14 : decode cX5_init 14 = .ok (.bipush 6, 2) := by decide +kernel
theorem dX5_init_16 : decode cX5_init 16 = .ok (.anewarray 15, 3) := by decide +kernel
theorem dX5_init_19 : decode cX5_init 19 = .ok (.putfield 17, 3) := by decide +kernel
theorem dX5_init_22 : decode cX5_init 22 = .ok (.aload_n 0, 1) := by decide +kernel
theorem dX5_init_23 : decode cX5_init 23 = .ok (.iconst 4, 1) := by decide +kernel
theorem dX5_init_24 : decode cX5_init 24 = .ok (.anewarray 21, 3) := by decide +kernel
theorem dX5_init_27 : decode cX5_init 27 = .ok (.putfield 23, 3) := by decide +kernel
theorem dX5_init_30 : decode cX5_init 30 = .ok (.aload_n 0, 1) := by decide +kernel
theorem dX5_init_31 : decode cX5_init 31 = .ok (.new 27, 3) := by decide +kernel
theorem dX5_init_34 : decode cX5_init 34 = .ok (.dup, 1) := by decide +kernel
theorem dX5_init_35 : decode cX5_init 35 = .ok (.invokespecial 29, 3) := by decide +kernel
theorem dX5_init_38 : decode cX5_init 38 = .ok (.putfield 30, 3) := by decide +kernel
theorem dX5_init_41 : decode cX5_init 41 = .ok (.aload_n 0, 1) := by decide +kernel
theorem dX5_init_42 : decode cX5_init 42 = .ok (.new 34, 3) := by decide +kernel
theorem dX5_init_45 : decode cX5_init 45 = .ok (.dup, 1) := by decide +kernel
theorem dX5_init_46 : decode cX5_init 46 = .ok (.invokespecial 36, 3) := by decide +kernel
theorem dX5_init_49 : decode cX5_init 49 = .ok (.putfield 37, 3) := by decide +kernel
theorem dX5_init_52 : decode cX5_init 52 = .ok (.aload_n 0, 1) := by decide +kernel
theorem dX5_init_53 : decode cX5_init 53 = .ok (.iconst 0, 1) := by decide +kernel
theorem dX5_init_54 : decode cX5_init 54 = .ok (.putfield 41, 3) := by decide +kernel
theorem dX5_init_57 : decode cX5_init 57 = .ok (.aload_n 0, 1) := by decide +kernel
theorem dX5_init_58 : decode cX5_init 58 = .ok (.iconst 5, 1) := by decide +kernel
theorem dX5_init_59 : decode cX5_init 59 = .ok (.putfield 45, 3) := by decide +kernel
theorem dX5_init_62 : decode cX5_init 62 = .ok (.aload_n 0, 1) := by decide +kernel
theorem dX5_init_63 : decode cX5_init 63 = .ok (.bipush 10, 2) := by decide +kernel
theorem dX5_init_65 : decode cX5_init 65 = .ok (.putfield 48, 3) := by decide +kernel
theorem dX5_init_68 : decode cX5_init 68 = .ok (.aload_n 0, 1) := by decide +kernel
theorem dX5_init_69 : decode cX5_init 69 = .ok (.bipush 30, 2) := by decide +kernel
theorem dX5_init_71 : decode cX5_init 71 = .ok (.putfield 51, 3) := by decide +kernel
theorem dX5_init_74 : decode cX5_init 74 = .ok (.iconst 0, 1) := by decide +kernel
theorem dX5_init_75 : decode cX5_init 75 = .ok (.istore_n 1, 1) := by decide +kernel
theorem dX5_init_76 : decode cX5_init 76 = .ok (.iload_n 1, 1) := by decide +kernel
theorem dX5_init_77 : decode cX5_init 77 = .ok (.bipush 6, 2) := by decide +kernel
theorem dX5_init_79 : decode cX5_init 79 = .ok (.if_icmp .ge 27, 3) := by decide +kernel
theorem dX5_init_82 : decode cX5_init 82 = .ok (.aload_n 0, 1) := by decide +kernel
theorem dX5_init_83 : decode cX5_init 83 = .ok (.getfield 11, 3) := by decide +kernel
theorem dX5_init_86 : decode cX5_init 86 = .ok (.iload_n 1, 1) := by decide +kernel
theorem dX5_init_87 : decode cX5_init 87 = .ok (.new 9, 3) := by decide +kernel
theorem dX5_init_90 : decode cX5_init 90 = .ok (.dup, 1) := by decide +kernel
theorem dX5_init_91 : decode cX5_init 91 = .ok (.iload_n 1, 1) := by decide +kernel
theorem dX5_init_92 : decode cX5_init 92 = .ok (.aload_n 0, 1) := by decide +kernel
theorem dX5_init_93 : decode cX5_init 93 = .ok (.getfield 45, 3) := by decide +kernel
theorem dX5_init_96 : decode cX5_init 96 = .ok (.invokespecial 54, 3) := by decide +kernel
theorem dX5_init_99 : decode cX5_init 99 = .ok (.aastore, 1) := by decide +kernel
theorem dX5_init_100 : decode cX5_init 100 = .ok (.iinc 1 1, 3) := by decide +kernel
theorem dX5_init_103 : decode cX5_init 103 = .ok (.goto (-27), 3) := by decide +kernel
theorem dX5_init_106 : decode cX5_init 106 = .ok (.iconst 0, 1) := by decide +kernel
theorem dX5_init_107 : decode cX5_init 107 = .ok (.istore_n 1, 1) := by decide +kernel
theorem dX5_init_108 : decode cX5_init 108 = .ok (.iload_n 1, 1) := by decide +kernel
theorem dX5_init_109 : decode cX5_init 109 = .ok (.bipush 6, 2) := by decide +kernel
theorem dX5_init_111 : decode cX5_init 111 = .ok (.if_icmp .ge 22, 3) := by decide +kernel
theorem dX5_init_114 : decode cX5_init 114 = .ok (.aload_n 0, 1) := by decide +kernel
theorem dX5_init_115 : decode cX5_init 115 = .ok (.getfield 17, 3) := by decide +kernel
theorem dX5_init_118 : decode cX5_init 118 = .ok (.iload_n 1, 1) := by decide +kernel
theorem dX5_init_119 : decode cX5_init 119 = .ok (.new 15, 3) := by decide +kernel
theorem dX5_init_122 : decode cX5_init 122 = .ok (.dup, 1) := by decide +kernel
theorem dX5_init_123 : decode cX5_init 123 = .ok (.invokespecial 57, 3) := by decide +kernel
theorem dX5_init_126 : decode cX5_init 126 = .ok (.aastore, 1) := by decide +kernel
theorem dX5_init_127 : decode cX5_init 127 = .ok (.iinc 1 1, 3) := by decide +kernel
theorem dX5_init_130 : decode cX5_init 130 = .ok (.goto (-22), 3) := by decide +kernel
theorem dX5_init_133 : decode cX5_init 133 = .ok (.iconst 0, 1) := by decide +kernel
theorem dX5_init_134 : decode cX5_init 134 = .ok (.istore_n 1, 1) := by decide +kernel
theorem dX5_init_135 : decode cX5_init 135 = .ok (.iload_n 1, 1) := by decide +kernel
theorem dX5_init_136 : decode cX5_init 136 = .ok (.iconst 4, 1) := by decide +kernel
theorem dX5_init_137 : decode cX5_init 137 = .ok (.if_icmp .ge 22, 3) := by decide +kernel
theorem dX5_init_140 : decode cX5_init 140 = .ok (.aload_n 0, 1) := by decide +kernel
theorem dX5_init_141 : decode cX5_init 141 = .ok (.getfield 23, 3) := by decide +kernel
theorem dX5_init_144 : decode cX5_init 144 = .ok (.iload_n 1, 1) := by decide +kernel
theorem dX5_init_145 : decode cX5_init 145 = .ok (.new 21, 3) := by decide +kernel
theorem dX5_init_148 : decode cX5_init 148 = .ok (.dup, 1) := by decide +kernel
theorem dX5_init_149 : decode cX5_init 149 = .ok (.invokespecial 58, 3) := by decide +kernel
theorem dX5_init_152 : decode cX5_init 152 = .ok (.aastore, 1) := by decide +kernel
theorem dX5_init_153 : decode cX5_init 153 = .ok (.iinc 1 1, 3) := by decide +kernel
theorem dX5_init_156 : decode cX5_init 156 = .ok (.goto (-21), 3) := by decide +kernel
theorem dX5_init_159 : decode cX5_init 159 = .ok (.return_, 1) := by decide +kernel
set_option maxRecDepth 20000 in
theorem ggX5_setRate_X5_isWithin : GoodIn wsX5_setRate wsX5_isWithin := goodIn_r _ [9] (by decide +kernel) (by decide +kernel)
set_option maxRecDepth 20000 in
theorem gX5_setRate_X5_isWithin : GoodIn wsX5_setRate (va_wsS RX5 59 yX5_isWithin wsX5_isWithin) := goodIn_app (goodIn_of _ (by decide +kernel)) ggX5_setRate_X5_isWithin
set_option maxRecDepth 20000 in
theorem ggX5_setRate_X4_capTokens : GoodIn wsX5_setRate wsX4_capTokens := goodIn_r _ [14, 15, 25, 26, 27, 28, 29, 30, 31, 32, 33] (by decide +kernel) (by decide +kernel)
set_option maxRecDepth 20000 in
theorem gX5_setRate_X4_capTokens : GoodIn wsX5_setRate (wsV RX5 70 RX4 yX4_capTokens wsX4_capTokens) := goodIn_app (goodIn_of _ (by decide +kernel)) ggX5_setRate_X4_capTokens
theorem dX5_setRate_0 : decode cX5_setRate 0 = .ok (.iload_n 1, 1) := by decide +kernel
theorem dX5_setRate_1 : decode cX5_setRate 1 = .ok (.iconst 1, 1) := by decide +kernel
theorem dX5_setRate_2 : decode cX5_setRate 2 = .ok (.bipush 50, 2) := by decide +kernel
theorem dX5_setRate_4 : decode cX5_setRate 4 = .ok (.invokestatic 59, 3) := by decide +kernel
theorem dX5_setRate_7 : decode cX5_setRate 7 = .ok (.ifCond .eq 13, 3) := by decide +kernel
theorem dX5_setRate_10 : decode cX5_setRate 10 = .ok (.iload_n 2, 1) := by decide +kernel
theorem dX5_setRate_11 : decode cX5_setRate 11 = .ok (.iconst 1, 1) := by decide +kernel
theorem dX5_setRate_12 : decode cX5_setRate 12 = .ok (.bipush 60, 2) := by decide +kernel
theorem dX5_setRate_14 : decode cX5_setRate 14 = .ok (.invokestatic 59, 3) := by decide +kernel
theorem dX5_setRate_17 : decode cX5_setRate 17 = .ok (.ifCond .ne 13, 3) := by decide +kernel
theorem dX5_setRate_20 : decode cX5_setRate 20 = .ok (.new 63, 3) := by decide +kernel
theorem dX5_setRate_23 : decode cX5_setRate 23 = .ok (.dup, 1) := by decide +kernel
theorem dX5_setRate_24 : decode cX5_setRate 24 = .ok (.ldc 65, 2) := by decide +kernel
theorem dX5_setRate_26 : decode cX5_setRate 26 = .ok (.invokespecial 67, 3) := by decide +kernel
theorem dX5_setRate_29 : decode cX5_setRate 29 = .ok (.athrow, 1) := by decide +kernel
theorem dX5_setRate_30 : decode cX5_setRate 30 = .ok (.aload_n 0, 1) := by decide +kernel
theorem dX5_setRate_31 : decode cX5_setRate 31 = .ok (.getfield 45, 3) := by decide +kernel
theorem dX5_setRate_34 : decode cX5_setRate 34 = .ok (.istore_n 3, 1) := by decide +kernel
theorem dX5_setRate_35 : decode cX5_setRate 35 = .ok (.aload_n 0, 1) := by decide +kernel
theorem dX5_setRate_36 : decode cX5_setRate 36 = .ok (.iload_n 1, 1) := by decide +kernel
theorem dX5_setRate_37 : decode cX5_setRate 37 = .ok (.putfield 45, 3) := by decide +kernel
theorem dX5_setRate_40 : decode cX5_setRate 40 = .ok (.aload_n 0, 1) := by decide +kernel
theorem dX5_setRate_41 : decode cX5_setRate 41 = .ok (.iload_n 2, 1) := by decide +kernel
theorem dX5_setRate_42 : decode cX5_setRate 42 = .ok (.putfield 48, 3) := by decide +kernel
theorem dX5_setRate_45 : decode cX5_setRate 45 = .ok (.iconst 0, 1) := by decide +kernel
theorem dX5_setRate_46 : decode cX5_setRate 46 = .ok (.istore 4, 2) := by decide +kernel
theorem dX5_setRate_48 : decode cX5_setRate 48 = .ok (.iload 4, 2) := by decide +kernel
theorem dX5_setRate_50 : decode cX5_setRate 50 = .ok (.bipush 6, 2) := by decide +kernel
theorem dX5_setRate_52 : decode cX5_setRate 52 = .ok (.if_icmp .ge 20, 3) := by decide +kernel
theorem dX5_setRate_55 : decode cX5_setRate 55 = .ok (.aload_n 0, 1) := by decide +kernel
theorem dX5_setRate_56 : decode cX5_setRate 56 = .ok (.getfield 11, 3) := by decide +kernel
theorem dX5_setRate_59 : decode cX5_setRate 59 = .ok (.iload 4, 2) := by decide +kernel
theorem dX5_setRate_61 : decode cX5_setRate 61 = .ok (.aaload, 1) := by decide +kernel
theorem dX5_setRate_62 : decode cX5_setRate 62 = .ok (.iload_n 1, 1) := by decide +kernel
theorem dX5_setRate_63 : decode cX5_setRate 63 = .ok (.invokevirtual 70, 3) := by decide +kernel
theorem dX5_setRate_66 : decode cX5_setRate 66 = .ok (.iinc 4 1, 3) := by decide +kernel
theorem dX5_setRate_69 : decode cX5_setRate 69 = .ok (.goto (-21), 3) := by decide +kernel
theorem dX5_setRate_72 : decode cX5_setRate 72 = .ok (.iload_n 3, 1) := by decide +kernel
theorem dX5_setRate_73 : decode cX5_setRate 73 = .ok (.ireturn, 1) := by decide +kernel
set_option maxRecDepth 20000 in
theorem ggX5_setFold_X5_isWithin : GoodIn wsX5_setFold wsX5_isWithin := goodIn_r _ [7] (by decide +kernel) (by decide +kernel)
set_option maxRecDepth 20000 in
theorem gX5_setFold_X5_isWithin : GoodIn wsX5_setFold (va_wsS RX5 59 yX5_isWithin wsX5_isWithin) := goodIn_app (goodIn_of _ (by decide +kernel)) ggX5_setFold_X5_isWithin
theorem dX5_setFold_0 : decode cX5_setFold 0 = .ok (.iload_n 1, 1) := by decide +kernel
theorem dX5_setFold_1 : decode cX5_setFold 1 = .ok (.iconst 0, 1) := by decide +kernel
theorem dX5_setFold_2 : decode cX5_setFold 2 = .ok (.bipush 100, 2) := by decide +kernel
theorem dX5_setFold_4 : decode cX5_setFold 4 = .ok (.invokestatic 59, 3) := by decide +kernel
theorem dX5_setFold_7 : decode cX5_setFold 7 = .ok (.ifCond .ne 13, 3) := by decide +kernel
theorem dX5_setFold_10 : decode cX5_setFold 10 = .ok (.new 63, 3) := by decide +kernel
theorem dX5_setFold_13 : decode cX5_setFold 13 = .ok (.dup, 1) := by decide +kernel
theorem dX5_setFold_14 : decode cX5_setFold 14 = .ok (.ldc 74, 2) := by decide +kernel
theorem dX5_setFold_16 : decode cX5_setFold 16 = .ok (.invokespecial 67, 3) := by decide +kernel
theorem dX5_setFold_19 : decode cX5_setFold 19 = .ok (.athrow, 1) := by decide +kernel
theorem dX5_setFold_20 : decode cX5_setFold 20 = .ok (.aload_n 0, 1) := by decide +kernel
theorem dX5_setFold_21 : decode cX5_setFold 21 = .ok (.getfield 51, 3) := by decide +kernel
theorem dX5_setFold_24 : decode cX5_setFold 24 = .ok (.istore_n 2, 1) := by decide +kernel
theorem dX5_setFold_25 : decode cX5_setFold 25 = .ok (.aload_n 0, 1) := by decide +kernel
theorem dX5_setFold_26 : decode cX5_setFold 26 = .ok (.iload_n 1, 1) := by decide +kernel
theorem dX5_setFold_27 : decode cX5_setFold 27 = .ok (.putfield 51, 3) := by decide +kernel
theorem dX5_setFold_30 : decode cX5_setFold 30 = .ok (.iload_n 2, 1) := by decide +kernel
theorem dX5_setFold_31 : decode cX5_setFold 31 = .ok (.ireturn, 1) := by decide +kernel
set_option maxRecDepth 20000 in
theorem ggX5_setRule_X5_ruleAt : GoodIn wsX5_setRule wsX5_ruleAt := goodIn_ca (goodIn_r _ [9, 1, 2, 10, 29, 30, 31, 32, 33, 34, 35, 36, 37] (by decide +kernel) (by decide +kernel)) (goodIn_sub (fun _ h => List.mem_cons_of_mem _ (List.mem_append_left _ (List.mem_append_right _ h))) (by decide +kernel))
set_option maxRecDepth 20000 in
theorem gX5_setRule_X5_ruleAt : GoodIn wsX5_setRule (wsV RX5 76 RX5 yX5_ruleAt wsX5_ruleAt) := goodIn_app (goodIn_of _ (by decide +kernel)) ggX5_setRule_X5_ruleAt
set_option maxRecDepth 20000 in
theorem ggX5_setRule_X5_isWithin : GoodIn wsX5_setRule wsX5_isWithin := goodIn_r _ [13] (by decide +kernel) (by decide +kernel)
set_option maxRecDepth 20000 in
theorem gX5_setRule_X5_isWithin : GoodIn wsX5_setRule (va_wsS RX5 59 yX5_isWithin wsX5_isWithin) := goodIn_app (goodIn_of _ (by decide +kernel)) ggX5_setRule_X5_isWithin
set_option maxRecDepth 20000 in
theorem ggX5_setRule_X3_put : GoodIn wsX5_setRule wsX3_put := goodIn_r _ [18, 19, 20, 21, 22, 23, 38, 39, 40, 41, 42] (by decide +kernel) (by decide +kernel)
set_option maxRecDepth 20000 in
theorem gX5_setRule_X3_put : GoodIn wsX5_setRule (wsV RX5 87 RX3 yX3_put wsX3_put) := goodIn_app (goodIn_of _ (by decide +kernel)) ggX5_setRule_X3_put
set_option maxRecDepth 20000 in
theorem ggX5_setRule_X5_rulesThatAreSet : GoodIn wsX5_setRule wsX5_rulesThatAreSet := goodIn_r _ [27, 10, 28, 29, 30, 31, 32, 33, 34, 35, 36, 37, 38, 39, 40, 41, 42] (by decide +kernel) (by decide +kernel)
set_option maxRecDepth 20000 in
theorem gX5_setRule_X5_rulesThatAreSet : GoodIn wsX5_setRule (wsV RX5 91 RX5 yX5_rulesThatAreSet wsX5_rulesThatAreSet) := goodIn_app (goodIn_of _ (by decide +kernel)) ggX5_setRule_X5_rulesThatAreSet
theorem dX5_setRule_0 : decode cX5_setRule 0 = .ok (.aload_n 0, 1) := by decide +kernel
theorem dX5_setRule_1 : decode cX5_setRule 1 = .ok (.iload_n 1, 1) := by decide +kernel
theorem dX5_setRule_2 : decode cX5_setRule 2 = .ok (.invokevirtual 76, 3) := by decide +kernel
theorem dX5_setRule_5 : decode cX5_setRule 5 = .ok (.astore 6, 2) := by decide +kernel
theorem dX5_setRule_7 : decode cX5_setRule 7 = .ok (.iload 4, 2) := by decide +kernel
theorem dX5_setRule_9 : decode cX5_setRule 9 = .ok (.iconst (-1), 1) := by decide +kernel
theorem dX5_setRule_10 : decode cX5_setRule 10 = .ok (.iconst 5, 1) := by decide +kernel
theorem dX5_setRule_11 : decode cX5_setRule 11 = .ok (.invokestatic 59, 3) := by decide +kernel
theorem dX5_setRule_14 : decode cX5_setRule 14 = .ok (.ifCond .ne 13, 3) := by decide +kernel
theorem dX5_setRule_17 : decode cX5_setRule 17 = .ok (.new 80, 3) := by decide +kernel
theorem dX5_setRule_20 : decode cX5_setRule 20 = .ok (.dup, 1) := by decide +kernel
theorem dX5_setRule_21 : decode cX5_setRule 21 = .ok (.ldc 82, 2) := by decide +kernel
theorem dX5_setRule_23 : decode cX5_setRule 23 = .ok (.invokespecial 84, 3) := by decide +kernel
theorem dX5_setRule_26 : decode cX5_setRule 26 = .ok (.athrow, 1) := by decide +kernel
theorem dX5_setRule_27 : decode cX5_setRule 27 = .ok (.iload_n 2, 1) := by decide +kernel
theorem dX5_setRule_28 : decode cX5_setRule 28 = .ok (.iconst 0, 1) := by decide +kernel
theorem dX5_setRule_29 : decode cX5_setRule 29 = .ok (.sipush 255, 3) := by decide +kernel
theorem dX5_setRule_32 : decode cX5_setRule 32 = .ok (.invokestatic 59, 3) := by decide +kernel
theorem dX5_setRule_35 : decode cX5_setRule 35 = .ok (.ifCond .eq 23, 3) := by decide +kernel
theorem dX5_setRule_38 : decode cX5_setRule 38 = .ok (.iload_n 3, 1) := by decide +kernel
theorem dX5_setRule_39 : decode cX5_setRule 39 = .ok (.iconst 0, 1) := by decide +kernel
theorem dX5_setRule_40 : decode cX5_setRule 40 = .ok (.bipush 7, 2) := by decide +kernel
theorem dX5_setRule_42 : decode cX5_setRule 42 = .ok (.invokestatic 59, 3) := by decide +kernel
theorem dX5_setRule_45 : decode cX5_setRule 45 = .ok (.ifCond .eq 13, 3) := by decide +kernel
theorem dX5_setRule_48 : decode cX5_setRule 48 = .ok (.iload 5, 2) := by decide +kernel
theorem dX5_setRule_50 : decode cX5_setRule 50 = .ok (.iconst 0, 1) := by decide +kernel
theorem dX5_setRule_51 : decode cX5_setRule 51 = .ok (.iconst 4, 1) := by decide +kernel
theorem dX5_setRule_52 : decode cX5_setRule 52 = .ok (.invokestatic 59, 3) := by decide +kernel
theorem dX5_setRule_55 : decode cX5_setRule 55 = .ok (.ifCond .ne 13, 3) := by decide +kernel
theorem dX5_setRule_58 : decode cX5_setRule 58 = .ok (.new 63, 3) := by decide +kernel
theorem dX5_setRule_61 : decode cX5_setRule 61 = .ok (.dup, 1) := by decide +kernel
theorem dX5_setRule_62 : decode cX5_setRule 62 = .ok (.ldc 85, 2) := by decide +kernel
theorem dX5_setRule_64 : decode cX5_setRule 64 = .ok (.invokespecial 67, 3) := by decide +kernel
theorem dX5_setRule_67 : decode cX5_setRule 67 = .ok (.athrow, 1) := by decide +kernel
theorem dX5_setRule_68 : decode cX5_setRule 68 = .ok (.aload 6, 2) := by decide +kernel
theorem dX5_setRule_70 : decode cX5_setRule 70 = .ok (.iload_n 2, 1) := by decide +kernel
theorem dX5_setRule_71 : decode cX5_setRule 71 = .ok (.iload_n 3, 1) := by decide +kernel
theorem dX5_setRule_72 : decode cX5_setRule 72 = .ok (.iload 4, 2) := by decide +kernel
theorem dX5_setRule_74 : decode cX5_setRule 74 = .ok (.iload 5, 2) := by decide +kernel
theorem dX5_setRule_76 : decode cX5_setRule 76 = .ok (.invokevirtual 87, 3) := by decide +kernel
theorem dX5_setRule_79 : decode cX5_setRule 79 = .ok (.aload_n 0, 1) := by decide +kernel
theorem dX5_setRule_80 : decode cX5_setRule 80 = .ok (.invokevirtual 91, 3) := by decide +kernel
theorem dX5_setRule_83 : decode cX5_setRule 83 = .ok (.ireturn, 1) := by decide +kernel
set_option maxRecDepth 20000 in
theorem ggX5_setFile_X5_fileAt : GoodIn wsX5_setFile wsX5_fileAt := goodIn_ca (goodIn_r _ [8, 9, 10, 11, 34, 35, 36, 37, 38, 39, 40, 41, 42] (by decide +kernel) (by decide +kernel)) (goodIn_sub (fun _ h => List.mem_cons_of_mem _ (List.mem_append_right _ h)) (by decide +kernel))
set_option maxRecDepth 20000 in
theorem gX5_setFile_X5_fileAt : GoodIn wsX5_setFile (wsV RX5 99 RX5 yX5_fileAt wsX5_fileAt) := goodIn_app (goodIn_of _ (by decide +kernel)) ggX5_setFile_X5_fileAt
set_option maxRecDepth 20000 in
theorem ggX5_setFile_X5_isWithin : GoodIn wsX5_setFile wsX5_isWithin := goodIn_r _ [14] (by decide +kernel) (by decide +kernel)
set_option maxRecDepth 20000 in
theorem gX5_setFile_X5_isWithin : GoodIn wsX5_setFile (va_wsS RX5 59 yX5_isWithin wsX5_isWithin) := goodIn_app (goodIn_of _ (by decide +kernel)) ggX5_setFile_X5_isWithin
set_option maxRecDepth 20000 in
theorem ggX5_setFile_X2_limit : GoodIn wsX5_setFile wsX2_limit := goodIn_r _ [19, 20, 21, 22, 23, 24, 25, 26, 27, 28, 29, 30, 31, 32, 33] (by decide +kernel) (by decide +kernel)
set_option maxRecDepth 20000 in
theorem gX5_setFile_X2_limit : GoodIn wsX5_setFile (wsV RX5 105 RX2 yX2_limit wsX2_limit) := goodIn_app (goodIn_of _ (by decide +kernel)) ggX5_setFile_X2_limit
theorem dX5_setFile_0 : decode cX5_setFile 0 = .ok (.aload_n 0, 1) := by decide +kernel
theorem dX5_setFile_1 : decode cX5_setFile 1 = .ok (.iload_n 1, 1) := by decide +kernel
theorem dX5_setFile_2 : decode cX5_setFile 2 = .ok (.invokevirtual 99, 3) := by decide +kernel
theorem dX5_setFile_5 : decode cX5_setFile 5 = .ok (.astore 5, 2) := by decide +kernel
theorem dX5_setFile_7 : decode cX5_setFile 7 = .ok (.iload_n 2, 1) := by decide +kernel
theorem dX5_setFile_8 : decode cX5_setFile 8 = .ok (.sipush 200, 3) := by decide +kernel
theorem dX5_setFile_11 : decode cX5_setFile 11 = .ok (.sipush 5000, 3) := by decide +kernel
theorem dX5_setFile_14 : decode cX5_setFile 14 = .ok (.invokestatic 59, 3) := by decide +kernel
theorem dX5_setFile_17 : decode cX5_setFile 17 = .ok (.ifCond .eq 24, 3) := by decide +kernel
theorem dX5_setFile_20 : decode cX5_setFile 20 = .ok (.iload_n 3, 1) := by decide +kernel
theorem dX5_setFile_21 : decode cX5_setFile 21 = .ok (.iconst 0, 1) := by decide +kernel
theorem dX5_setFile_22 : decode cX5_setFile 22 = .ok (.sipush 1000, 3) := by decide +kernel
theorem dX5_setFile_25 : decode cX5_setFile 25 = .ok (.invokestatic 59, 3) := by decide +kernel
theorem dX5_setFile_28 : decode cX5_setFile 28 = .ok (.ifCond .eq 13, 3) := by decide +kernel
theorem dX5_setFile_31 : decode cX5_setFile 31 = .ok (.iload 4, 2) := by decide +kernel
theorem dX5_setFile_33 : decode cX5_setFile 33 = .ok (.iconst 0, 1) := by decide +kernel
theorem dX5_setFile_34 : decode cX5_setFile 34 = .ok (.iconst 5, 1) := by decide +kernel
theorem dX5_setFile_35 : decode cX5_setFile 35 = .ok (.invokestatic 59, 3) := by decide +kernel
theorem dX5_setFile_38 : decode cX5_setFile 38 = .ok (.ifCond .ne 13, 3) := by decide +kernel
theorem dX5_setFile_41 : decode cX5_setFile 41 = .ok (.new 63, 3) := by decide +kernel
theorem dX5_setFile_44 : decode cX5_setFile 44 = .ok (.dup, 1) := by decide +kernel
theorem dX5_setFile_45 : decode cX5_setFile 45 = .ok (.ldc 103, 2) := by decide +kernel
theorem dX5_setFile_47 : decode cX5_setFile 47 = .ok (.invokespecial 67, 3) := by decide +kernel
theorem dX5_setFile_50 : decode cX5_setFile 50 = .ok (.athrow, 1) := by decide +kernel
theorem dX5_setFile_51 : decode cX5_setFile 51 = .ok (.aload 5, 2) := by decide +kernel
theorem dX5_setFile_53 : decode cX5_setFile 53 = .ok (.iload_n 2, 1) := by decide +kernel
theorem dX5_setFile_54 : decode cX5_setFile 54 = .ok (.iload_n 3, 1) := by decide +kernel
theorem dX5_setFile_55 : decode cX5_setFile 55 = .ok (.iload 4, 2) := by decide +kernel
theorem dX5_setFile_57 : decode cX5_setFile 57 = .ok (.invokevirtual 105, 3) := by decide +kernel
theorem dX5_setFile_60 : decode cX5_setFile 60 = .ok (.aload 5, 2) := by decide +kernel
theorem dX5_setFile_62 : decode cX5_setFile 62 = .ok (.getfield 109, 3) := by decide +kernel
theorem dX5_setFile_65 : decode cX5_setFile 65 = .ok (.ireturn, 1) := by decide +kernel
set_option maxRecDepth 20000 in
theorem ggX5_message_X5_senderAt : GoodIn wsX5_message wsX5_senderAt := goodIn_ca (goodIn_r _ [15, 16, 17, 18, 114, 115, 116, 117, 118, 119, 120, 121, 122] (by decide +kernel) (by decide +kernel)) (goodIn_sub (fun _ h => List.mem_cons_of_mem _ (List.mem_append_right _ h)) (by decide +kernel))
set_option maxRecDepth 20000 in
theorem gX5_message_X5_senderAt : GoodIn wsX5_message (wsV RX5 112 RX5 yX5_senderAt wsX5_senderAt) := goodIn_app (goodIn_of _ (by decide +kernel)) ggX5_message_X5_senderAt
set_option maxRecDepth 20000 in
theorem ggX5_message_X5_isWithin : GoodIn wsX5_message wsX5_isWithin := goodIn_r _ [21] (by decide +kernel) (by decide +kernel)
set_option maxRecDepth 20000 in
theorem gX5_message_X5_isWithin : GoodIn wsX5_message (va_wsS RX5 59 yX5_isWithin wsX5_isWithin) := goodIn_app (goodIn_of _ (by decide +kernel)) ggX5_message_X5_isWithin
set_option maxRecDepth 20000 in
theorem ggX5_message_X1_isFull : GoodIn wsX5_message wsX1_isFull := goodIn_r _ [26, 27, 132, 133, 134] (by decide +kernel) (by decide +kernel)
set_option maxRecDepth 20000 in
theorem gX5_message_X1_isFull : GoodIn wsX5_message (wsV RX5 118 RX1 yX1_isFull wsX1_isFull) := goodIn_app (goodIn_of _ (by decide +kernel)) ggX5_message_X1_isFull
set_option maxRecDepth 20000 in
theorem ggX5_message_X4_lastIs : GoodIn wsX5_message wsX4_lastIs := goodIn_r _ [32, 33, 34, 35, 36, 123, 124, 125, 126, 127, 128, 129, 130, 131] (by decide +kernel) (by decide +kernel)
set_option maxRecDepth 20000 in
theorem gX5_message_X4_lastIs : GoodIn wsX5_message (wsV RX5 127 RX4 yX4_lastIs wsX4_lastIs) := goodIn_app (goodIn_of _ (by decide +kernel)) ggX5_message_X4_lastIs
set_option maxRecDepth 20000 in
theorem ggX5_message_X4_countRepeat : GoodIn wsX5_message wsX4_countRepeat := goodIn_r _ [40, 41, 42, 123, 124, 125, 126, 127, 128, 129, 130, 131] (by decide +kernel) (by decide +kernel)
set_option maxRecDepth 20000 in
theorem gX5_message_X4_countRepeat : GoodIn wsX5_message (wsV RX5 131 RX4 yX4_countRepeat wsX4_countRepeat) := goodIn_app (goodIn_of _ (by decide +kernel)) ggX5_message_X4_countRepeat
set_option maxRecDepth 20000 in
theorem ggX5_message_X1_enter : GoodIn wsX5_message wsX1_enter := goodIn_r _ [46, 27, 47, 48, 132, 133, 134] (by decide +kernel) (by decide +kernel)
set_option maxRecDepth 20000 in
theorem gX5_message_X1_enter : GoodIn wsX5_message (wsV RX5 134 RX1 yX1_enter wsX1_enter) := goodIn_app (goodIn_of _ (by decide +kernel)) ggX5_message_X1_enter
set_option maxRecDepth 20000 in
theorem ggX5_message_X5_tellRepeats : GoodIn wsX5_message wsX5_tellRepeats := goodIn_r _ [52, 53, 54, 55, 56, 57, 58, 59, 14, 60, 61, 62, 63, 7, 64, 65, 66, 67, 68, 69, 70, 71, 72, 73, 74, 75, 76, 77, 78, 79, 80, 81, 82, 83, 84, 85, 86, 87, 88, 89, 90, 91, 92, 93, 94, 95, 96, 97, 98, 99, 100, 101, 102, 103, 104, 123, 124, 125, 126, 127, 128, 129, 130, 131, 114, 115, 116, 117, 118, 119, 120, 121, 122, 135, 136, 137, 138, 139, 140, 141, 142, 143, 144, 145, 146, 147, 148, 149, 150, 151, 152, 153, 154, 155] (by decide +kernel) (by decide +kernel)
set_option maxRecDepth 20000 in
theorem gX5_message_X5_tellRepeats : GoodIn wsX5_message (wsV RX5 138 RX5 yX5_tellRepeats wsX5_tellRepeats) := goodIn_app (goodIn_of _ (by decide +kernel)) ggX5_message_X5_tellRepeats
set_option maxRecDepth 20000 in
theorem ggX5_message_X5_tellDrops : GoodIn wsX5_message wsX5_tellDrops := goodIn_r _ [108, 9, 109, 54, 57, 58, 59, 14, 60, 61, 62, 63, 7, 64, 65, 66, 67, 68, 69, 70, 71, 72, 73, 74, 75, 76, 77, 78, 79, 80, 81, 82, 83, 84, 85, 86, 87, 88, 89, 90, 91, 92, 93, 94, 95, 96, 97, 98, 99, 100, 101, 102, 103, 104, 123, 124, 125, 126, 127, 128, 129, 130, 131, 114, 115, 116, 117, 118, 119, 120, 121, 122, 135, 136, 137, 138, 139, 140, 141, 142, 143, 144, 145, 146, 147, 148, 149, 150, 151, 152, 153, 154, 155] (by decide +kernel) (by decide +kernel)
set_option maxRecDepth 20000 in
theorem gX5_message_X5_tellDrops : GoodIn wsX5_message (wsV RX5 148 RX5 yX5_tellDrops wsX5_tellDrops) := goodIn_app (goodIn_of _ (by decide +kernel)) ggX5_message_X5_tellDrops
set_option maxRecDepth 20000 in
theorem ggX5_message_X4_setLast : GoodIn wsX5_message wsX4_setLast := goodIn_r _ [113, 33, 34, 35, 36, 123, 124, 125, 126, 127, 128, 129, 130, 131] (by decide +kernel) (by decide +kernel)
set_option maxRecDepth 20000 in
theorem gX5_message_X4_setLast : GoodIn wsX5_message (wsV RX5 151 RX4 yX4_setLast wsX4_setLast) := goodIn_app (goodIn_of _ (by decide +kernel)) ggX5_message_X4_setLast
set_option maxRecDepth 20000 in
theorem ggX5_message_X5_route : GoodIn wsX5_message wsX5_route := goodIn_r _ [60, 61, 62, 63, 7, 64, 65, 66, 67, 68, 69, 70, 71, 72, 73, 74, 75, 76, 77, 78, 79, 80, 81, 82, 83, 84, 85, 86, 87, 88, 89, 90, 91, 92, 93, 94, 95, 96, 97, 98, 99, 100, 101, 102, 103, 104, 114, 115, 116, 117, 118, 119, 120, 121, 122, 135, 136, 137, 138, 139, 140, 141, 142, 143, 144, 145, 146, 147, 148, 149, 150, 151, 152, 153, 154, 155] (by decide +kernel) (by decide +kernel)
set_option maxRecDepth 20000 in
theorem gX5_message_X5_route : GoodIn wsX5_message (wsV RX5 157 RX5 yX5_route wsX5_route) := goodIn_app (goodIn_of _ (by decide +kernel)) ggX5_message_X5_route
theorem dX5_message_0 : decode cX5_message 0 = .ok (.aload_n 0, 1) := by decide +kernel
theorem dX5_message_1 : decode cX5_message 1 = .ok (.iload_n 1, 1) := by decide +kernel
theorem dX5_message_2 : decode cX5_message 2 = .ok (.invokevirtual 112, 3) := by decide +kernel
theorem dX5_message_5 : decode cX5_message 5 = .ok (.astore 6, 2) := by decide +kernel
theorem dX5_message_7 : decode cX5_message 7 = .ok (.iload_n 2, 1) := by decide +kernel
theorem dX5_message_8 : decode cX5_message 8 = .ok (.iconst 0, 1) := by decide +kernel
theorem dX5_message_9 : decode cX5_message 9 = .ok (.bipush 7, 2) := by decide +kernel
theorem dX5_message_11 : decode cX5_message 11 = .ok (.invokestatic 59, 3) := by decide +kernel
theorem dX5_message_14 : decode cX5_message 14 = .ok (.ifCond .eq 36, 3) := by decide +kernel
theorem dX5_message_17 : decode cX5_message 17 = .ok (.iload_n 3, 1) := by decide +kernel
theorem dX5_message_18 : decode cX5_message 18 = .ok (.iconst 0, 1) := by decide +kernel
theorem dX5_message_19 : decode cX5_message 19 = .ok (.bipush 7, 2) := by decide +kernel
theorem dX5_message_21 : decode cX5_message 21 = .ok (.invokestatic 59, 3) := by decide +kernel
theorem dX5_message_24 : decode cX5_message 24 = .ok (.ifCond .eq 26, 3) := by decide +kernel
theorem dX5_message_27 : decode cX5_message 27 = .ok (.iload 4, 2) := by decide +kernel
theorem dX5_message_29 : decode cX5_message 29 = .ok (.iconst 0, 1) := by decide +kernel
theorem dX5_message_30 : decode cX5_message 30 = .ok (.bipush 99, 2) := by decide +kernel
theorem dX5_message_32 : decode cX5_message 32 = .ok (.invokestatic 59, 3) := by decide +kernel
theorem dX5_message_35 : decode cX5_message 35 = .ok (.ifCond .eq 15, 3) := by decide +kernel
theorem dX5_message_38 : decode cX5_message 38 = .ok (.iload 5, 2) := by decide +kernel
theorem dX5_message_40 : decode cX5_message 40 = .ok (.iconst 1, 1) := by decide +kernel
theorem dX5_message_41 : decode cX5_message 41 = .ok (.sipush 200, 3) := by decide +kernel
theorem dX5_message_44 : decode cX5_message 44 = .ok (.invokestatic 59, 3) := by decide +kernel
theorem dX5_message_47 : decode cX5_message 47 = .ok (.ifCond .ne 13, 3) := by decide +kernel
theorem dX5_message_50 : decode cX5_message 50 = .ok (.new 63, 3) := by decide +kernel
theorem dX5_message_53 : decode cX5_message 53 = .ok (.dup, 1) := by decide +kernel
theorem dX5_message_54 : decode cX5_message 54 = .ok (.ldc 116, 2) := by decide +kernel
theorem dX5_message_56 : decode cX5_message 56 = .ok (.invokespecial 67, 3) := by decide +kernel
theorem dX5_message_59 : decode cX5_message 59 = .ok (.athrow, 1) := by decide +kernel
theorem dX5_message_60 : decode cX5_message 60 = .ok (.aload_n 0, 1) := by decide +kernel
theorem dX5_message_61 : decode cX5_message 61 = .ok (.getfield 37, 3) := by decide +kernel
theorem dX5_message_64 : decode cX5_message 64 = .ok (.invokevirtual 118, 3) := by decide +kernel
theorem dX5_message_67 : decode cX5_message 67 = .ok (.ifCond .eq 13, 3) := by decide +kernel
theorem dX5_message_70 : decode cX5_message 70 = .ok (.new 122, 3) := by decide +kernel
theorem dX5_message_73 : decode cX5_message 73 = .ok (.dup, 1) := by decide +kernel
theorem dX5_message_74 : decode cX5_message 74 = .ok (.ldc 124, 2) := by decide +kernel
theorem dX5_message_76 : decode cX5_message 76 = .ok (.invokespecial 126, 3) := by decide +kernel
theorem dX5_message_79 : decode cX5_message 79 = .ok (.athrow, 1) := by decide +kernel
theorem dX5_message_80 : decode cX5_message 80 = .ok (.aload_n 0, 1) := by decide +kernel
theorem dX5_message_81 : decode cX5_message 81 = .ok (.getfield 51, 3) := by decide +kernel
theorem dX5_message_84 : decode cX5_message 84 = .ok (.ifCond .eq 36, 3) := by decide +kernel
theorem dX5_message_87 : decode cX5_message 87 = .ok (.aload 6, 2) := by decide +kernel
theorem dX5_message_89 : decode cX5_message 89 = .ok (.iload_n 2, 1) := by decide +kernel
theorem dX5_message_90 : decode cX5_message 90 = .ok (.iload_n 3, 1) := by decide +kernel
theorem dX5_message_91 : decode cX5_message 91 = .ok (.iload 4, 2) := by decide +kernel
theorem dX5_message_93 : decode cX5_message 93 = .ok (.iload 5, 2) := by decide +kernel
theorem dX5_message_95 : decode cX5_message 95 = .ok (.invokevirtual 127, 3) := by decide +kernel
theorem dX5_message_98 : decode cX5_message 98 = .ok (.ifCond .eq 22, 3) := by decide +kernel
theorem dX5_message_101 : decode cX5_message 101 = .ok (.aload 6, 2) := by decide +kernel
theorem dX5_message_103 : decode cX5_message 103 = .ok (.aload_n 0, 1) := by decide +kernel
theorem dX5_message_104 : decode cX5_message 104 = .ok (.getfield 41, 3) := by decide +kernel
theorem dX5_message_107 : decode cX5_message 107 = .ok (.invokevirtual 131, 3) := by decide +kernel
theorem dX5_message_110 : decode cX5_message 110 = .ok (.aload_n 0, 1) := by decide +kernel
theorem dX5_message_111 : decode cX5_message 111 = .ok (.getfield 37, 3) := by decide +kernel
theorem dX5_message_114 : decode cX5_message 114 = .ok (.iconst 0, 1) := by decide +kernel
theorem dX5_message_115 : decode cX5_message 115 = .ok (.iconst 0, 1) := by decide +kernel
theorem dX5_message_116 : decode cX5_message 116 = .ok (.invokevirtual 134, 3) := by decide +kernel
theorem dX5_message_119 : decode cX5_message 119 = .ok (.ireturn, 1) := by decide +kernel
theorem dX5_message_120 : decode cX5_message 120 = .ok (.aload_n 0, 1) := by decide +kernel
theorem dX5_message_121 : decode cX5_message 121 = .ok (.aload 6, 2) := by decide +kernel
theorem dX5_message_123 : decode cX5_message 123 = .ok (.invokevirtual 138, 3) := by decide +kernel
theorem dX5_message_126 : decode cX5_message 126 = .ok (.aload 6, 2) := by decide +kernel
theorem dX5_message_128 : decode cX5_message 128 = .ok (.getfield 142, 3) := by decide +kernel
theorem dX5_message_131 : decode cX5_message 131 = .ok (.ifCond .ne 24, 3) := by decide +kernel
theorem dX5_message_134 : decode cX5_message 134 = .ok (.aload 6, 2) := by decide +kernel
theorem dX5_message_136 : decode cX5_message 136 = .ok (.dup, 1) := by decide +kernel
theorem dX5_message_137 : decode cX5_message 137 = .ok (.getfield 145, 3) := by decide +kernel
theorem dX5_message_140 : decode cX5_message 140 = .ok (.iconst 1, 1) := by decide +kernel
theorem dX5_message_141 : decode cX5_message 141 = .ok (.iadd, 1) := by decide +kernel
theorem dX5_message_142 : decode cX5_message 142 = .ok (.putfield 145, 3) := by decide +kernel
theorem dX5_message_145 : decode cX5_message 145 = .ok (.aload_n 0, 1) := by decide +kernel
theorem dX5_message_146 : decode cX5_message 146 = .ok (.getfield 37, 3) := by decide +kernel
theorem dX5_message_149 : decode cX5_message 149 = .ok (.iconst 1, 1) := by decide +kernel
theorem dX5_message_150 : decode cX5_message 150 = .ok (.iconst 0, 1) := by decide +kernel
theorem dX5_message_151 : decode cX5_message 151 = .ok (.invokevirtual 134, 3) := by decide +kernel
theorem dX5_message_154 : decode cX5_message 154 = .ok (.ireturn, 1) := by decide +kernel
theorem dX5_message_155 : decode cX5_message 155 = .ok (.aload 6, 2) := by decide +kernel
theorem dX5_message_157 : decode cX5_message 157 = .ok (.dup, 1) := by decide +kernel
theorem dX5_message_158 : decode cX5_message 158 = .ok (.getfield 142, 3) := by decide +kernel
theorem dX5_message_161 : decode cX5_message 161 = .ok (.iconst 1, 1) := by decide +kernel
theorem dX5_message_162 : decode cX5_message 162 = .ok (.isub, 1) := by decide +kernel
theorem dX5_message_163 : decode cX5_message 163 = .ok (.putfield 142, 3) := by decide +kernel
theorem dX5_message_166 : decode cX5_message 166 = .ok (.aload_n 0, 1) := by decide +kernel
theorem dX5_message_167 : decode cX5_message 167 = .ok (.aload 6, 2) := by decide +kernel
theorem dX5_message_169 : decode cX5_message 169 = .ok (.invokevirtual 148, 3) := by decide +kernel
theorem dX5_message_172 : decode cX5_message 172 = .ok (.aload 6, 2) := by decide +kernel
theorem dX5_message_174 : decode cX5_message 174 = .ok (.iload_n 2, 1) := by decide +kernel
theorem dX5_message_175 : decode cX5_message 175 = .ok (.iload_n 3, 1) := by decide +kernel
theorem dX5_message_176 : decode cX5_message 176 = .ok (.iload 4, 2) := by decide +kernel
theorem dX5_message_178 : decode cX5_message 178 = .ok (.iload 5, 2) := by decide +kernel
theorem dX5_message_180 : decode cX5_message 180 = .ok (.invokevirtual 151, 3) := by decide +kernel
theorem dX5_message_183 : decode cX5_message 183 = .ok (.aload_n 0, 1) := by decide +kernel
theorem dX5_message_184 : decode cX5_message 184 = .ok (.aload_n 0, 1) := by decide +kernel
theorem dX5_message_185 : decode cX5_message 185 = .ok (.getfield 37, 3) := by decide +kernel
theorem dX5_message_188 : decode cX5_message 188 = .ok (.getfield 154, 3) := by decide +kernel
theorem dX5_message_191 : decode cX5_message 191 = .ok (.iload_n 1, 1) := by decide +kernel
theorem dX5_message_192 : decode cX5_message 192 = .ok (.iload_n 2, 1) := by decide +kernel
theorem dX5_message_193 : decode cX5_message 193 = .ok (.iload_n 3, 1) := by decide +kernel
theorem dX5_message_194 : decode cX5_message 194 = .ok (.iload 5, 2) := by decide +kernel
theorem dX5_message_196 : decode cX5_message 196 = .ok (.invokevirtual 157, 3) := by decide +kernel
theorem dX5_message_199 : decode cX5_message 199 = .ok (.istore 7, 2) := by decide +kernel
theorem dX5_message_201 : decode cX5_message 201 = .ok (.aload_n 0, 1) := by decide +kernel
theorem dX5_message_202 : decode cX5_message 202 = .ok (.getfield 37, 3) := by decide +kernel
theorem dX5_message_205 : decode cX5_message 205 = .ok (.iload 7, 2) := by decide +kernel
theorem dX5_message_207 : decode cX5_message 207 = .ok (.ifCond .ne 7, 3) := by decide +kernel
theorem dX5_message_210 : decode cX5_message 210 = .ok (.iconst 2, 1) := by decide +kernel
theorem dX5_message_211 : decode cX5_message 211 = .ok (.goto 4, 3) := by decide +kernel
theorem dX5_message_214 : decode cX5_message 214 = .ok (.iconst 3, 1) := by decide +kernel
theorem dX5_message_215 : decode cX5_message 215 = .ok (.iload 7, 2) := by decide +kernel
theorem dX5_message_217 : decode cX5_message 217 = .ok (.invokevirtual 134, 3) := by decide +kernel
theorem dX5_message_220 : decode cX5_message 220 = .ok (.ireturn, 1) := by decide +kernel
set_option maxRecDepth 20000 in
theorem ggX5_pass_X5_isWithin : GoodIn wsX5_pass wsX5_isWithin := goodIn_r _ [6] (by decide +kernel) (by decide +kernel)
set_option maxRecDepth 20000 in
theorem gX5_pass_X5_isWithin : GoodIn wsX5_pass (va_wsS RX5 59 yX5_isWithin wsX5_isWithin) := goodIn_app (goodIn_of _ (by decide +kernel)) ggX5_pass_X5_isWithin
set_option maxRecDepth 20000 in
theorem ggX5_pass_X5_rotationsOfAllFiles : GoodIn wsX5_pass wsX5_rotationsOfAllFiles := goodIn_r _ [10, 11, 12, 106, 107, 108, 109, 110, 111, 112, 113, 114, 115, 116, 117, 118, 119, 120, 121, 122, 123, 124] (by decide +kernel) (by decide +kernel)
set_option maxRecDepth 20000 in
theorem gX5_pass_X5_rotationsOfAllFiles : GoodIn wsX5_pass (wsV RX5 161 RX5 yX5_rotationsOfAllFiles wsX5_rotationsOfAllFiles) := goodIn_app (goodIn_of _ (by decide +kernel)) ggX5_pass_X5_rotationsOfAllFiles
set_option maxRecDepth 20000 in
theorem ggX5_pass_X5_passOneSecond : GoodIn wsX5_pass wsX5_passOneSecond := goodIn_r _ [16, 17, 18, 19, 20, 21, 5, 22, 23, 24, 25, 26, 27, 28, 29, 30, 31, 32, 33, 34, 35, 36, 37, 38, 39, 40, 41, 42, 43, 44, 45, 46, 47, 48, 49, 50, 51, 52, 53, 54, 11, 55, 56, 57, 58, 59, 60, 61, 62, 63, 64, 65, 66, 67, 68, 69, 70, 71, 72, 73, 74, 75, 76, 77, 78, 79, 80, 81, 82, 83, 84, 85, 86, 87, 88, 89, 90, 91, 92, 93, 94, 95, 96, 97, 98, 99, 100, 101, 102, 103, 104, 105, 106, 107, 108, 109, 110, 111, 112, 113, 114, 125, 126, 127, 128, 129, 130, 131, 132, 133, 134, 135, 136, 137, 138, 115, 116, 117, 118, 119, 120, 121, 122, 123, 124, 139, 140, 141, 142, 143, 144] (by decide +kernel) (by decide +kernel)
set_option maxRecDepth 20000 in
theorem gX5_pass_X5_passOneSecond : GoodIn wsX5_pass (wsV RX5 164 RX5 yX5_passOneSecond wsX5_passOneSecond) := goodIn_app (goodIn_of _ (by decide +kernel)) ggX5_pass_X5_passOneSecond
theorem dX5_pass_0 : decode cX5_pass 0 = .ok (.iload_n 1, 1) := by decide +kernel
theorem dX5_pass_1 : decode cX5_pass 1 = .ok (.iconst 1, 1) := by decide +kernel
theorem dX5_pass_2 : decode cX5_pass 2 = .ok (.bipush 100, 2) := by decide +kernel
theorem dX5_pass_4 : decode cX5_pass 4 = .ok (.invokestatic 59, 3) := by decide +kernel
theorem dX5_pass_7 : decode cX5_pass 7 = .ok (.ifCond .ne 13, 3) := by decide +kernel
theorem dX5_pass_10 : decode cX5_pass 10 = .ok (.new 63, 3) := by decide +kernel
theorem dX5_pass_13 : decode cX5_pass 13 = .ok (.dup, 1) := by decide +kernel
theorem dX5_pass_14 : decode cX5_pass 14 = .ok (.ldc 74, 2) := by decide +kernel
theorem dX5_pass_16 : decode cX5_pass 16 = .ok (.invokespecial 67, 3) := by decide +kernel
theorem dX5_pass_19 : decode cX5_pass 19 = .ok (.athrow, 1) := by decide +kernel
theorem dX5_pass_20 : decode cX5_pass 20 = .ok (.aload_n 0, 1) := by decide +kernel
theorem dX5_pass_21 : decode cX5_pass 21 = .ok (.invokevirtual 161, 3) := by decide +kernel
theorem dX5_pass_24 : decode cX5_pass 24 = .ok (.istore_n 2, 1) := by decide +kernel
theorem dX5_pass_25 : decode cX5_pass 25 = .ok (.iconst 0, 1) := by decide +kernel
theorem dX5_pass_26 : decode cX5_pass 26 = .ok (.istore_n 3, 1) := by decide +kernel
theorem dX5_pass_27 : decode cX5_pass 27 = .ok (.iload_n 3, 1) := by decide +kernel
theorem dX5_pass_28 : decode cX5_pass 28 = .ok (.iload_n 1, 1) := by decide +kernel
theorem dX5_pass_29 : decode cX5_pass 29 = .ok (.if_icmp .ge 13, 3) := by decide +kernel
theorem dX5_pass_32 : decode cX5_pass 32 = .ok (.aload_n 0, 1) := by decide +kernel
theorem dX5_pass_33 : decode cX5_pass 33 = .ok (.invokevirtual 164, 3) := by decide +kernel
theorem dX5_pass_36 : decode cX5_pass 36 = .ok (.iinc 3 1, 3) := by decide +kernel
theorem dX5_pass_39 : decode cX5_pass 39 = .ok (.goto (-12), 3) := by decide +kernel
theorem dX5_pass_42 : decode cX5_pass 42 = .ok (.aload_n 0, 1) := by decide +kernel
theorem dX5_pass_43 : decode cX5_pass 43 = .ok (.invokevirtual 161, 3) := by decide +kernel
theorem dX5_pass_46 : decode cX5_pass 46 = .ok (.iload_n 2, 1) := by decide +kernel
theorem dX5_pass_47 : decode cX5_pass 47 = .ok (.isub, 1) := by decide +kernel
theorem dX5_pass_48 : decode cX5_pass 48 = .ok (.ireturn, 1) := by decide +kernel
set_option maxRecDepth 20000 in
theorem ggX5_rotate_X5_fileAt : GoodIn wsX5_rotate wsX5_fileAt := goodIn_ca (goodIn_r _ [8, 9, 10, 11, 37, 38, 39, 40, 41, 42, 43, 44, 45] (by decide +kernel) (by decide +kernel)) (goodIn_sub (fun _ h => List.mem_cons_of_mem _ (List.mem_append_right _ h)) (by decide +kernel))
set_option maxRecDepth 20000 in
theorem gX5_rotate_X5_fileAt : GoodIn wsX5_rotate (wsV RX5 99 RX5 yX5_fileAt wsX5_fileAt) := goodIn_app (goodIn_of _ (by decide +kernel)) ggX5_rotate_X5_fileAt
set_option maxRecDepth 20000 in
theorem ggX5_rotate_X2_isEmpty : GoodIn wsX5_rotate wsX2_isEmpty := goodIn_r _ [16, 17, 18, 27, 28, 29, 30, 31, 32, 33, 34, 35, 36] (by decide +kernel) (by decide +kernel)
set_option maxRecDepth 20000 in
theorem gX5_rotate_X2_isEmpty : GoodIn wsX5_rotate (wsV RX5 167 RX2 yX2_isEmpty wsX2_isEmpty) := goodIn_app (goodIn_of _ (by decide +kernel)) ggX5_rotate_X2_isEmpty
set_option maxRecDepth 20000 in
theorem ggX5_rotate_X2_turnOver : GoodIn wsX5_rotate wsX2_turnOver := goodIn_r _ [22, 18, 17, 23, 24, 25, 26, 27, 28, 29, 30, 31, 32, 33, 34, 35, 36] (by decide +kernel) (by decide +kernel)
set_option maxRecDepth 20000 in
theorem gX5_rotate_X2_turnOver : GoodIn wsX5_rotate (wsV RX5 172 RX2 yX2_turnOver wsX2_turnOver) := goodIn_app (goodIn_of _ (by decide +kernel)) ggX5_rotate_X2_turnOver
theorem dX5_rotate_0 : decode cX5_rotate 0 = .ok (.aload_n 0, 1) := by decide +kernel
theorem dX5_rotate_1 : decode cX5_rotate 1 = .ok (.iload_n 1, 1) := by decide +kernel
theorem dX5_rotate_2 : decode cX5_rotate 2 = .ok (.invokevirtual 99, 3) := by decide +kernel
theorem dX5_rotate_5 : decode cX5_rotate 5 = .ok (.astore_n 2, 1) := by decide +kernel
theorem dX5_rotate_6 : decode cX5_rotate 6 = .ok (.aload_n 2, 1) := by decide +kernel
theorem dX5_rotate_7 : decode cX5_rotate 7 = .ok (.invokevirtual 167, 3) := by decide +kernel
theorem dX5_rotate_10 : decode cX5_rotate 10 = .ok (.ifCond .eq 13, 3) := by decide +kernel
theorem dX5_rotate_13 : decode cX5_rotate 13 = .ok (.new 122, 3) := by decide +kernel
theorem dX5_rotate_16 : decode cX5_rotate 16 = .ok (.dup, 1) := by decide +kernel
theorem dX5_rotate_17 : decode cX5_rotate 17 = .ok (.ldc 170, 2) := by decide +kernel
theorem dX5_rotate_19 : decode cX5_rotate 19 = .ok (.invokespecial 126, 3) := by decide +kernel
theorem dX5_rotate_22 : decode cX5_rotate 22 = .ok (.athrow, 1) := by decide +kernel
theorem dX5_rotate_23 : decode cX5_rotate 23 = .ok (.aload_n 2, 1) := by decide +kernel
theorem dX5_rotate_24 : decode cX5_rotate 24 = .ok (.invokevirtual 172, 3) := by decide +kernel
theorem dX5_rotate_27 : decode cX5_rotate 27 = .ok (.aload_n 2, 1) := by decide +kernel
theorem dX5_rotate_28 : decode cX5_rotate 28 = .ok (.getfield 175, 3) := by decide +kernel
theorem dX5_rotate_31 : decode cX5_rotate 31 = .ok (.ireturn, 1) := by decide +kernel
set_option maxRecDepth 20000 in
theorem ggX5_connect_X0_waiting : GoodIn wsX5_connect wsX0_waiting := goodIn_r _ [9, 10, 11, 21, 22, 23, 24, 25, 26] (by decide +kernel) (by decide +kernel)
set_option maxRecDepth 20000 in
theorem gX5_connect_X0_waiting : GoodIn wsX5_connect (wsV RX5 183 RX0 yX0_waiting wsX0_waiting) := goodIn_app (goodIn_of _ (by decide +kernel)) ggX5_connect_X0_waiting
theorem dX5_connect_0 : decode cX5_connect 0 = .ok (.aload_n 0, 1) := by decide +kernel
theorem dX5_connect_1 : decode cX5_connect 1 = .ok (.getfield 30, 3) := by decide +kernel
theorem dX5_connect_4 : decode cX5_connect 4 = .ok (.getfield 178, 3) := by decide +kernel
theorem dX5_connect_7 : decode cX5_connect 7 = .ok (.ifCond .eq 13, 3) := by decide +kernel
theorem dX5_connect_10 : decode cX5_connect 10 = .ok (.new 122, 3) := by decide +kernel
theorem dX5_connect_13 : decode cX5_connect 13 = .ok (.dup, 1) := by decide +kernel
theorem dX5_connect_14 : decode cX5_connect 14 = .ok (.ldc 181, 2) := by decide +kernel
theorem dX5_connect_16 : decode cX5_connect 16 = .ok (.invokespecial 126, 3) := by decide +kernel
theorem dX5_connect_19 : decode cX5_connect 19 = .ok (.athrow, 1) := by decide +kernel
theorem dX5_connect_20 : decode cX5_connect 20 = .ok (.aload_n 0, 1) := by decide +kernel
theorem dX5_connect_21 : decode cX5_connect 21 = .ok (.getfield 30, 3) := by decide +kernel
theorem dX5_connect_24 : decode cX5_connect 24 = .ok (.iconst 1, 1) := by decide +kernel
theorem dX5_connect_25 : decode cX5_connect 25 = .ok (.putfield 178, 3) := by decide +kernel
theorem dX5_connect_28 : decode cX5_connect 28 = .ok (.aload_n 0, 1) := by decide +kernel
theorem dX5_connect_29 : decode cX5_connect 29 = .ok (.getfield 30, 3) := by decide +kernel
theorem dX5_connect_32 : decode cX5_connect 32 = .ok (.invokevirtual 183, 3) := by decide +kernel
theorem dX5_connect_35 : decode cX5_connect 35 = .ok (.ireturn, 1) := by decide +kernel
set_option maxRecDepth 20000 in
theorem ggX5_disconnect_X0_flying : GoodIn wsX5_disconnect wsX0_flying := goodIn_r _ [9, 10, 11, 26, 27, 28, 29, 30, 31] (by decide +kernel) (by decide +kernel)
set_option maxRecDepth 20000 in
theorem gX5_disconnect_X0_flying : GoodIn wsX5_disconnect (wsV RX5 188 RX0 yX0_flying wsX0_flying) := goodIn_app (goodIn_of _ (by decide +kernel)) ggX5_disconnect_X0_flying
set_option maxRecDepth 20000 in
theorem ggX5_disconnect_X0_loseConnection : GoodIn wsX5_disconnect wsX0_loseConnection := goodIn_r _ [15, 16, 11, 10, 26, 27, 28, 29, 30, 31] (by decide +kernel) (by decide +kernel)
set_option maxRecDepth 20000 in
theorem gX5_disconnect_X0_loseConnection : GoodIn wsX5_disconnect (wsV RX5 191 RX0 yX0_loseConnection wsX0_loseConnection) := goodIn_app (goodIn_of _ (by decide +kernel)) ggX5_disconnect_X0_loseConnection
theorem dX5_disconnect_0 : decode cX5_disconnect 0 = .ok (.aload_n 0, 1) := by decide +kernel
theorem dX5_disconnect_1 : decode cX5_disconnect 1 = .ok (.getfield 30, 3) := by decide +kernel
theorem dX5_disconnect_4 : decode cX5_disconnect 4 = .ok (.getfield 178, 3) := by decide +kernel
theorem dX5_disconnect_7 : decode cX5_disconnect 7 = .ok (.ifCond .ne 13, 3) := by decide +kernel
theorem dX5_disconnect_10 : decode cX5_disconnect 10 = .ok (.new 122, 3) := by decide +kernel
theorem dX5_disconnect_13 : decode cX5_disconnect 13 = .ok (.dup, 1) := by decide +kernel
theorem dX5_disconnect_14 : decode cX5_disconnect 14 = .ok (.ldc 186, 2) := by decide +kernel
theorem dX5_disconnect_16 : decode cX5_disconnect 16 = .ok (.invokespecial 126, 3) := by decide +kernel
theorem dX5_disconnect_19 : decode cX5_disconnect 19 = .ok (.athrow, 1) := by decide +kernel
theorem dX5_disconnect_20 : decode cX5_disconnect 20 = .ok (.aload_n 0, 1) := by decide +kernel
theorem dX5_disconnect_21 : decode cX5_disconnect 21 = .ok (.getfield 30, 3) := by decide +kernel
theorem dX5_disconnect_24 : decode cX5_disconnect 24 = .ok (.invokevirtual 188, 3) := by decide +kernel
theorem dX5_disconnect_27 : decode cX5_disconnect 27 = .ok (.istore_n 1, 1) := by decide +kernel
theorem dX5_disconnect_28 : decode cX5_disconnect 28 = .ok (.aload_n 0, 1) := by decide +kernel
theorem dX5_disconnect_29 : decode cX5_disconnect 29 = .ok (.getfield 30, 3) := by decide +kernel
theorem dX5_disconnect_32 : decode cX5_disconnect 32 = .ok (.invokevirtual 191, 3) := by decide +kernel
theorem dX5_disconnect_35 : decode cX5_disconnect 35 = .ok (.iload_n 1, 1) := by decide +kernel
theorem dX5_disconnect_36 : decode cX5_disconnect 36 = .ok (.ireturn, 1) := by decide +kernel
set_option maxRecDepth 20000 in
theorem ggX5_send_X0_canSend : GoodIn wsX5_send wsX0_canSend := goodIn_r _ [8, 9, 10, 11, 12, 7, 13, 14, 15, 16, 17, 18, 19, 20, 39, 40, 41, 42, 43, 44] (by decide +kernel) (by decide +kernel)
set_option maxRecDepth 20000 in
theorem gX5_send_X0_canSend : GoodIn wsX5_send (wsV RX5 194 RX0 yX0_canSend wsX0_canSend) := goodIn_app (goodIn_of _ (by decide +kernel)) ggX5_send_X0_canSend
set_option maxRecDepth 20000 in
theorem ggX5_send_X0_sendFirst : GoodIn wsX5_send wsX0_sendFirst := goodIn_r _ [24, 15, 25, 26, 27, 7, 28, 29, 39, 40, 41, 42, 43, 44] (by decide +kernel) (by decide +kernel)
set_option maxRecDepth 20000 in
theorem gX5_send_X0_sendFirst : GoodIn wsX5_send (wsV RX5 199 RX0 yX0_sendFirst wsX0_sendFirst) := goodIn_app (goodIn_of _ (by decide +kernel)) ggX5_send_X0_sendFirst
theorem dX5_send_0 : decode cX5_send 0 = .ok (.aload_n 0, 1) := by decide +kernel
theorem dX5_send_1 : decode cX5_send 1 = .ok (.getfield 30, 3) := by decide +kernel
theorem dX5_send_4 : decode cX5_send 4 = .ok (.invokevirtual 194, 3) := by decide +kernel
theorem dX5_send_7 : decode cX5_send 7 = .ok (.ifCond .ne 13, 3) := by decide +kernel
theorem dX5_send_10 : decode cX5_send 10 = .ok (.new 122, 3) := by decide +kernel
theorem dX5_send_13 : decode cX5_send 13 = .ok (.dup, 1) := by decide +kernel
theorem dX5_send_14 : decode cX5_send 14 = .ok (.ldc 197, 2) := by decide +kernel
theorem dX5_send_16 : decode cX5_send 16 = .ok (.invokespecial 126, 3) := by decide +kernel
theorem dX5_send_19 : decode cX5_send 19 = .ok (.athrow, 1) := by decide +kernel
theorem dX5_send_20 : decode cX5_send 20 = .ok (.aload_n 0, 1) := by decide +kernel
theorem dX5_send_21 : decode cX5_send 21 = .ok (.getfield 30, 3) := by decide +kernel
theorem dX5_send_24 : decode cX5_send 24 = .ok (.invokevirtual 199, 3) := by decide +kernel
theorem dX5_send_27 : decode cX5_send 27 = .ok (.ireturn, 1) := by decide +kernel
set_option maxRecDepth 20000 in
theorem ggX5_acknowledge_X0_flying : GoodIn wsX5_acknowledge wsX0_flying := goodIn_r _ [8, 9, 10, 29, 30, 31, 32, 33, 34] (by decide +kernel) (by decide +kernel)
set_option maxRecDepth 20000 in
theorem gX5_acknowledge_X0_flying : GoodIn wsX5_acknowledge (wsV RX5 188 RX0 yX0_flying wsX0_flying) := goodIn_app (goodIn_of _ (by decide +kernel)) ggX5_acknowledge_X0_flying
set_option maxRecDepth 20000 in
theorem ggX5_acknowledge_X0_acknowledgeFirst : GoodIn wsX5_acknowledge wsX0_acknowledgeFirst := goodIn_r _ [14, 10, 15, 16, 17, 7, 18, 19, 29, 30, 31, 32, 33, 34] (by decide +kernel) (by decide +kernel)
set_option maxRecDepth 20000 in
theorem gX5_acknowledge_X0_acknowledgeFirst : GoodIn wsX5_acknowledge (wsV RX5 204 RX0 yX0_acknowledgeFirst wsX0_acknowledgeFirst) := goodIn_app (goodIn_of _ (by decide +kernel)) ggX5_acknowledge_X0_acknowledgeFirst
theorem dX5_acknowledge_0 : decode cX5_acknowledge 0 = .ok (.aload_n 0, 1) := by decide +kernel
theorem dX5_acknowledge_1 : decode cX5_acknowledge 1 = .ok (.getfield 30, 3) := by decide +kernel
theorem dX5_acknowledge_4 : decode cX5_acknowledge 4 = .ok (.invokevirtual 188, 3) := by decide +kernel
theorem dX5_acknowledge_7 : decode cX5_acknowledge 7 = .ok (.ifCond .ne 13, 3) := by decide +kernel
theorem dX5_acknowledge_10 : decode cX5_acknowledge 10 = .ok (.new 122, 3) := by decide +kernel
theorem dX5_acknowledge_13 : decode cX5_acknowledge 13 = .ok (.dup, 1) := by decide +kernel
theorem dX5_acknowledge_14 : decode cX5_acknowledge 14 = .ok (.ldc 202, 2) := by decide +kernel
theorem dX5_acknowledge_16 : decode cX5_acknowledge 16 = .ok (.invokespecial 126, 3) := by decide +kernel
theorem dX5_acknowledge_19 : decode cX5_acknowledge 19 = .ok (.athrow, 1) := by decide +kernel
theorem dX5_acknowledge_20 : decode cX5_acknowledge 20 = .ok (.aload_n 0, 1) := by decide +kernel
theorem dX5_acknowledge_21 : decode cX5_acknowledge 21 = .ok (.getfield 30, 3) := by decide +kernel
theorem dX5_acknowledge_24 : decode cX5_acknowledge 24 = .ok (.invokevirtual 204, 3) := by decide +kernel
theorem dX5_acknowledge_27 : decode cX5_acknowledge 27 = .ok (.ireturn, 1) := by decide +kernel
theorem dX5_time_0 : decode cX5_time 0 = .ok (.aload_n 0, 1) := by decide +kernel
theorem dX5_time_1 : decode cX5_time 1 = .ok (.getfield 41, 3) := by decide +kernel
theorem dX5_time_4 : decode cX5_time 4 = .ok (.ireturn, 1) := by decide +kernel
set_option maxRecDepth 20000 in
theorem ggX5_tokens_X5_senderAt : GoodIn wsX5_tokens wsX5_senderAt := goodIn_ca (goodIn_r _ [6, 7, 8, 9, 19, 20, 21, 22, 23, 24, 25, 26, 27] (by decide +kernel) (by decide +kernel)) (goodIn_sub (fun _ h => List.mem_cons_of_mem _ (List.mem_append_right _ h)) (by decide +kernel))
set_option maxRecDepth 20000 in
theorem gX5_tokens_X5_senderAt : GoodIn wsX5_tokens (wsV RX5 112 RX5 yX5_senderAt wsX5_senderAt) := goodIn_app (goodIn_of _ (by decide +kernel)) ggX5_tokens_X5_senderAt
theorem dX5_tokens_0 : decode cX5_tokens 0 = .ok (.aload_n 0, 1) := by decide +kernel
theorem dX5_tokens_1 : decode cX5_tokens 1 = .ok (.iload_n 1, 1) := by decide +kernel
theorem dX5_tokens_2 : decode cX5_tokens 2 = .ok (.invokevirtual 112, 3) := by decide +kernel
theorem dX5_tokens_5 : decode cX5_tokens 5 = .ok (.getfield 142, 3) := by decide +kernel
theorem dX5_tokens_8 : decode cX5_tokens 8 = .ok (.ireturn, 1) := by decide +kernel
set_option maxRecDepth 20000 in
theorem ggX5_repeats_X5_senderAt : GoodIn wsX5_repeats wsX5_senderAt := goodIn_ca (goodIn_r _ [6, 7, 8, 9, 19, 20, 21, 22, 23, 24, 25, 26, 27] (by decide +kernel) (by decide +kernel)) (goodIn_sub (fun _ h => List.mem_cons_of_mem _ (List.mem_append_right _ h)) (by decide +kernel))
set_option maxRecDepth 20000 in
theorem gX5_repeats_X5_senderAt : GoodIn wsX5_repeats (wsV RX5 112 RX5 yX5_senderAt wsX5_senderAt) := goodIn_app (goodIn_of _ (by decide +kernel)) ggX5_repeats_X5_senderAt
theorem dX5_repeats_0 : decode cX5_repeats 0 = .ok (.aload_n 0, 1) := by decide +kernel
theorem dX5_repeats_1 : decode cX5_repeats 1 = .ok (.iload_n 1, 1) := by decide +kernel
theorem dX5_repeats_2 : decode cX5_repeats 2 = .ok (.invokevirtual 112, 3) := by decide +kernel
theorem dX5_repeats_5 : decode cX5_repeats 5 = .ok (.getfield 207, 3) := by decide +kernel
theorem dX5_repeats_8 : decode cX5_repeats 8 = .ok (.ireturn, 1) := by decide +kernel
set_option maxRecDepth 20000 in
theorem ggX5_drops_X5_senderAt : GoodIn wsX5_drops wsX5_senderAt := goodIn_ca (goodIn_r _ [6, 7, 8, 9, 19, 20, 21, 22, 23, 24, 25, 26, 27] (by decide +kernel) (by decide +kernel)) (goodIn_sub (fun _ h => List.mem_cons_of_mem _ (List.mem_append_right _ h)) (by decide +kernel))
set_option maxRecDepth 20000 in
theorem gX5_drops_X5_senderAt : GoodIn wsX5_drops (wsV RX5 112 RX5 yX5_senderAt wsX5_senderAt) := goodIn_app (goodIn_of _ (by decide +kernel)) ggX5_drops_X5_senderAt
theorem dX5_drops_0 : decode cX5_drops 0 = .ok (.aload_n 0, 1) := by decide +kernel
theorem dX5_drops_1 : decode cX5_drops 1 = .ok (.iload_n 1, 1) := by decide +kernel
theorem dX5_drops_2 : decode cX5_drops 2 = .ok (.invokevirtual 112, 3) := by decide +kernel
theorem dX5_drops_5 : decode cX5_drops 5 = .ok (.getfield 145, 3) := by decide +kernel
theorem dX5_drops_8 : decode cX5_drops 8 = .ok (.ireturn, 1) := by decide +kernel
set_option maxRecDepth 20000 in
theorem ggX5_size_X5_fileAt : GoodIn wsX5_size wsX5_fileAt := goodIn_ca (goodIn_r _ [6, 7, 8, 9, 20, 21, 22, 23, 24, 25, 26, 27, 28] (by decide +kernel) (by decide +kernel)) (goodIn_sub (fun _ h => List.mem_cons_of_mem _ (List.mem_append_right _ h)) (by decide +kernel))
set_option maxRecDepth 20000 in
theorem gX5_size_X5_fileAt : GoodIn wsX5_size (wsV RX5 99 RX5 yX5_fileAt wsX5_fileAt) := goodIn_app (goodIn_of _ (by decide +kernel)) ggX5_size_X5_fileAt
theorem dX5_size_0 : decode cX5_size 0 = .ok (.aload_n 0, 1) := by decide +kernel
theorem dX5_size_1 : decode cX5_size 1 = .ok (.iload_n 1, 1) := by decide +kernel
theorem dX5_size_2 : decode cX5_size 2 = .ok (.invokevirtual 99, 3) := by decide +kernel
theorem dX5_size_5 : decode cX5_size 5 = .ok (.getfield 109, 3) := by decide +kernel
theorem dX5_size_8 : decode cX5_size 8 = .ok (.ireturn, 1) := by decide +kernel
set_option maxRecDepth 20000 in
theorem ggX5_lines_X5_fileAt : GoodIn wsX5_lines wsX5_fileAt := goodIn_ca (goodIn_r _ [7, 1, 2, 8, 25, 26, 27, 28, 29, 30, 31, 32, 33] (by decide +kernel) (by decide +kernel)) (goodIn_sub (fun _ h => List.mem_cons_of_mem _ (List.mem_append_right _ h)) (by decide +kernel))
set_option maxRecDepth 20000 in
theorem gX5_lines_X5_fileAt : GoodIn wsX5_lines (wsV RX5 99 RX5 yX5_fileAt wsX5_fileAt) := goodIn_app (goodIn_of _ (by decide +kernel)) ggX5_lines_X5_fileAt
set_option maxRecDepth 20000 in
theorem ggX5_lines_X2_has : GoodIn wsX5_lines wsX2_has := goodIn_r _ [13, 14, 34, 35, 36, 37, 38, 39, 40, 41, 42, 43] (by decide +kernel) (by decide +kernel)
set_option maxRecDepth 20000 in
theorem gX5_lines_X2_has : GoodIn wsX5_lines (wsV RX5 210 RX2 yX2_has wsX2_has) := goodIn_app (goodIn_of _ (by decide +kernel)) ggX5_lines_X2_has
set_option maxRecDepth 20000 in
theorem ggX5_lines_X2_linesOf : GoodIn wsX5_lines wsX2_linesOf := goodIn_r _ [18, 19, 20, 21, 22, 12, 23, 24, 34, 35, 36, 37, 38, 39, 40, 41, 42, 43] (by decide +kernel) (by decide +kernel)
set_option maxRecDepth 20000 in
theorem gX5_lines_X2_linesOf : GoodIn wsX5_lines (wsV RX5 216 RX2 yX2_linesOf wsX2_linesOf) := goodIn_app (goodIn_of _ (by decide +kernel)) ggX5_lines_X2_linesOf
theorem dX5_lines_0 : decode cX5_lines 0 = .ok (.aload_n 0, 1) := by decide +kernel
theorem dX5_lines_1 : decode cX5_lines 1 = .ok (.iload_n 1, 1) := by decide +kernel
theorem dX5_lines_2 : decode cX5_lines 2 = .ok (.invokevirtual 99, 3) := by decide +kernel
theorem dX5_lines_5 : decode cX5_lines 5 = .ok (.astore_n 3, 1) := by decide +kernel
theorem dX5_lines_6 : decode cX5_lines 6 = .ok (.aload_n 3, 1) := by decide +kernel
theorem dX5_lines_7 : decode cX5_lines 7 = .ok (.iload_n 2, 1) := by decide +kernel
theorem dX5_lines_8 : decode cX5_lines 8 = .ok (.invokevirtual 210, 3) := by decide +kernel
theorem dX5_lines_11 : decode cX5_lines 11 = .ok (.ifCond .ne 13, 3) := by decide +kernel
theorem dX5_lines_14 : decode cX5_lines 14 = .ok (.new 80, 3) := by decide +kernel
theorem dX5_lines_17 : decode cX5_lines 17 = .ok (.dup, 1) := by decide +kernel
theorem dX5_lines_18 : decode cX5_lines 18 = .ok (.ldc 214, 2) := by decide +kernel
theorem dX5_lines_20 : decode cX5_lines 20 = .ok (.invokespecial 84, 3) := by decide +kernel
theorem dX5_lines_23 : decode cX5_lines 23 = .ok (.athrow, 1) := by decide +kernel
theorem dX5_lines_24 : decode cX5_lines 24 = .ok (.aload_n 3, 1) := by decide +kernel
theorem dX5_lines_25 : decode cX5_lines 25 = .ok (.iload_n 2, 1) := by decide +kernel
theorem dX5_lines_26 : decode cX5_lines 26 = .ok (.invokevirtual 216, 3) := by decide +kernel
theorem dX5_lines_29 : decode cX5_lines 29 = .ok (.ireturn, 1) := by decide +kernel
set_option maxRecDepth 20000 in
theorem ggX5_line_X5_fileAt : GoodIn wsX5_line wsX5_fileAt := goodIn_ca (goodIn_r _ [7, 1, 2, 8, 33, 34, 35, 36, 37, 38, 39, 40, 41] (by decide +kernel) (by decide +kernel)) (goodIn_sub (fun _ h => List.mem_cons_of_mem _ (List.mem_append_right _ h)) (by decide +kernel))
set_option maxRecDepth 20000 in
theorem gX5_line_X5_fileAt : GoodIn wsX5_line (wsV RX5 99 RX5 yX5_fileAt wsX5_fileAt) := goodIn_app (goodIn_of _ (by decide +kernel)) ggX5_line_X5_fileAt
set_option maxRecDepth 20000 in
theorem ggX5_line_X2_has : GoodIn wsX5_line wsX2_has := goodIn_r _ [13, 14, 42, 43, 44, 45, 46, 47, 48, 49, 50, 51] (by decide +kernel) (by decide +kernel)
set_option maxRecDepth 20000 in
theorem gX5_line_X2_has : GoodIn wsX5_line (wsV RX5 210 RX2 yX2_has wsX2_has) := goodIn_app (goodIn_of _ (by decide +kernel)) ggX5_line_X2_has
set_option maxRecDepth 20000 in
theorem ggX5_line_X2_linesOf : GoodIn wsX5_line wsX2_linesOf := goodIn_r _ [18, 19, 20, 21, 22, 12, 23, 24, 42, 43, 44, 45, 46, 47, 48, 49, 50, 51] (by decide +kernel) (by decide +kernel)
set_option maxRecDepth 20000 in
theorem gX5_line_X2_linesOf : GoodIn wsX5_line (wsV RX5 216 RX2 yX2_linesOf wsX2_linesOf) := goodIn_app (goodIn_of _ (by decide +kernel)) ggX5_line_X2_linesOf
set_option maxRecDepth 20000 in
theorem ggX5_line_X5_isWithin : GoodIn wsX5_line wsX5_isWithin := goodIn_r _ [27] (by decide +kernel) (by decide +kernel)
set_option maxRecDepth 20000 in
theorem gX5_line_X5_isWithin : GoodIn wsX5_line (va_wsS RX5 59 yX5_isWithin wsX5_isWithin) := goodIn_app (goodIn_of _ (by decide +kernel)) ggX5_line_X5_isWithin
set_option maxRecDepth 20000 in
theorem ggX5_line_X2_lineAt : GoodIn wsX5_line wsX2_lineAt := goodIn_r _ [31, 32, 20, 21, 22, 12, 23, 24, 19, 42, 43, 44, 45, 46, 47, 48, 49, 50, 51] (by decide +kernel) (by decide +kernel)
set_option maxRecDepth 20000 in
theorem gX5_line_X2_lineAt : GoodIn wsX5_line (wsV RX5 222 RX2 yX2_lineAt wsX2_lineAt) := goodIn_app (goodIn_of _ (by decide +kernel)) ggX5_line_X2_lineAt
theorem dX5_line_0 : decode cX5_line 0 = .ok (.aload_n 0, 1) := by decide +kernel
theorem dX5_line_1 : decode cX5_line 1 = .ok (.iload_n 1, 1) := by decide +kernel
theorem dX5_line_2 : decode cX5_line 2 = .ok (.invokevirtual 99, 3) := by decide +kernel
theorem dX5_line_5 : decode cX5_line 5 = .ok (.astore 4, 2) := by decide +kernel
theorem dX5_line_7 : decode cX5_line 7 = .ok (.aload 4, 2) := by decide +kernel
theorem dX5_line_9 : decode cX5_line 9 = .ok (.iload_n 2, 1) := by decide +kernel
theorem dX5_line_10 : decode cX5_line 10 = .ok (.invokevirtual 210, 3) := by decide +kernel
theorem dX5_line_13 : decode cX5_line 13 = .ok (.ifCond .ne 13, 3) := by decide +kernel
theorem dX5_line_16 : decode cX5_line 16 = .ok (.new 80, 3) := by decide +kernel
theorem dX5_line_19 : decode cX5_line 19 = .ok (.dup, 1) := by decide +kernel
theorem dX5_line_20 : decode cX5_line 20 = .ok (.ldc 214, 2) := by decide +kernel
theorem dX5_line_22 : decode cX5_line 22 = .ok (.invokespecial 84, 3) := by decide +kernel
theorem dX5_line_25 : decode cX5_line 25 = .ok (.athrow, 1) := by decide +kernel
theorem dX5_line_26 : decode cX5_line 26 = .ok (.iload_n 3, 1) := by decide +kernel
theorem dX5_line_27 : decode cX5_line 27 = .ok (.iconst 0, 1) := by decide +kernel
theorem dX5_line_28 : decode cX5_line 28 = .ok (.aload 4, 2) := by decide +kernel
theorem dX5_line_30 : decode cX5_line 30 = .ok (.iload_n 2, 1) := by decide +kernel
theorem dX5_line_31 : decode cX5_line 31 = .ok (.invokevirtual 216, 3) := by decide +kernel
theorem dX5_line_34 : decode cX5_line 34 = .ok (.iconst 1, 1) := by decide +kernel
theorem dX5_line_35 : decode cX5_line 35 = .ok (.isub, 1) := by decide +kernel
theorem dX5_line_36 : decode cX5_line 36 = .ok (.invokestatic 59, 3) := by decide +kernel
theorem dX5_line_39 : decode cX5_line 39 = .ok (.ifCond .ne 13, 3) := by decide +kernel
theorem dX5_line_42 : decode cX5_line 42 = .ok (.new 80, 3) := by decide +kernel
theorem dX5_line_45 : decode cX5_line 45 = .ok (.dup, 1) := by decide +kernel
theorem dX5_line_46 : decode cX5_line 46 = .ok (.ldc 220, 2) := by decide +kernel
theorem dX5_line_48 : decode cX5_line 48 = .ok (.invokespecial 84, 3) := by decide +kernel
theorem dX5_line_51 : decode cX5_line 51 = .ok (.athrow, 1) := by decide +kernel
theorem dX5_line_52 : decode cX5_line 52 = .ok (.aload 4, 2) := by decide +kernel
theorem dX5_line_54 : decode cX5_line 54 = .ok (.iload_n 2, 1) := by decide +kernel
theorem dX5_line_55 : decode cX5_line 55 = .ok (.iload_n 3, 1) := by decide +kernel
theorem dX5_line_56 : decode cX5_line 56 = .ok (.invokevirtual 222, 3) := by decide +kernel
theorem dX5_line_59 : decode cX5_line 59 = .ok (.ireturn, 1) := by decide +kernel
set_option maxRecDepth 20000 in
theorem ggX5_generations_X5_fileAt : GoodIn wsX5_generations wsX5_fileAt := goodIn_ca (goodIn_r _ [6, 7, 8, 9, 20, 21, 22, 23, 24, 25, 26, 27, 28] (by decide +kernel) (by decide +kernel)) (goodIn_sub (fun _ h => List.mem_cons_of_mem _ (List.mem_append_right _ h)) (by decide +kernel))
set_option maxRecDepth 20000 in
theorem gX5_generations_X5_fileAt : GoodIn wsX5_generations (wsV RX5 99 RX5 yX5_fileAt wsX5_fileAt) := goodIn_app (goodIn_of _ (by decide +kernel)) ggX5_generations_X5_fileAt
theorem dX5_generations_0 : decode cX5_generations 0 = .ok (.aload_n 0, 1) := by decide +kernel
theorem dX5_generations_1 : decode cX5_generations 1 = .ok (.iload_n 1, 1) := by decide +kernel
theorem dX5_generations_2 : decode cX5_generations 2 = .ok (.invokevirtual 99, 3) := by decide +kernel
theorem dX5_generations_5 : decode cX5_generations 5 = .ok (.getfield 175, 3) := by decide +kernel
theorem dX5_generations_8 : decode cX5_generations 8 = .ok (.ireturn, 1) := by decide +kernel
set_option maxRecDepth 20000 in
theorem ggX5_queued_X0_waiting : GoodIn wsX5_queued wsX0_waiting := goodIn_r _ [6, 7, 8, 18, 19, 20, 21, 22, 23] (by decide +kernel) (by decide +kernel)
set_option maxRecDepth 20000 in
theorem gX5_queued_X0_waiting : GoodIn wsX5_queued (wsV RX5 183 RX0 yX0_waiting wsX0_waiting) := goodIn_app (goodIn_of _ (by decide +kernel)) ggX5_queued_X0_waiting
theorem dX5_queued_0 : decode cX5_queued 0 = .ok (.aload_n 0, 1) := by decide +kernel
theorem dX5_queued_1 : decode cX5_queued 1 = .ok (.getfield 30, 3) := by decide +kernel
theorem dX5_queued_4 : decode cX5_queued 4 = .ok (.invokevirtual 183, 3) := by decide +kernel
theorem dX5_queued_7 : decode cX5_queued 7 = .ok (.ireturn, 1) := by decide +kernel
set_option maxRecDepth 20000 in
theorem ggX5_inFlight_X0_flying : GoodIn wsX5_inFlight wsX0_flying := goodIn_r _ [6, 7, 8, 18, 19, 20, 21, 22, 23] (by decide +kernel) (by decide +kernel)
set_option maxRecDepth 20000 in
theorem gX5_inFlight_X0_flying : GoodIn wsX5_inFlight (wsV RX5 188 RX0 yX0_flying wsX0_flying) := goodIn_app (goodIn_of _ (by decide +kernel)) ggX5_inFlight_X0_flying
theorem dX5_inFlight_0 : decode cX5_inFlight 0 = .ok (.aload_n 0, 1) := by decide +kernel
theorem dX5_inFlight_1 : decode cX5_inFlight 1 = .ok (.getfield 30, 3) := by decide +kernel
theorem dX5_inFlight_4 : decode cX5_inFlight 4 = .ok (.invokevirtual 188, 3) := by decide +kernel
theorem dX5_inFlight_7 : decode cX5_inFlight 7 = .ok (.ireturn, 1) := by decide +kernel
theorem dX5_acknowledged_0 : decode cX5_acknowledged 0 = .ok (.aload_n 0, 1) := by decide +kernel
theorem dX5_acknowledged_1 : decode cX5_acknowledged 1 = .ok (.getfield 30, 3) := by decide +kernel
theorem dX5_acknowledged_4 : decode cX5_acknowledged 4 = .ok (.getfield 225, 3) := by decide +kernel
theorem dX5_acknowledged_7 : decode cX5_acknowledged 7 = .ok (.ireturn, 1) := by decide +kernel
theorem dX5_lost_0 : decode cX5_lost 0 = .ok (.aload_n 0, 1) := by decide +kernel
theorem dX5_lost_1 : decode cX5_lost 1 = .ok (.getfield 30, 3) := by decide +kernel
theorem dX5_lost_4 : decode cX5_lost 4 = .ok (.getfield 228, 3) := by decide +kernel
theorem dX5_lost_7 : decode cX5_lost 7 = .ok (.ireturn, 1) := by decide +kernel
theorem dX5_messages_0 : decode cX5_messages 0 = .ok (.aload_n 0, 1) := by decide +kernel
theorem dX5_messages_1 : decode cX5_messages 1 = .ok (.getfield 37, 3) := by decide +kernel
theorem dX5_messages_4 : decode cX5_messages 4 = .ok (.getfield 154, 3) := by decide +kernel
theorem dX5_messages_7 : decode cX5_messages 7 = .ok (.ireturn, 1) := by decide +kernel
set_option maxRecDepth 20000 in
theorem ggX5_fateOf_X1_has : GoodIn wsX5_fateOf wsX1_has := goodIn_r _ [8, 9, 24, 25, 26] (by decide +kernel) (by decide +kernel)
set_option maxRecDepth 20000 in
theorem gX5_fateOf_X1_has : GoodIn wsX5_fateOf (wsV RX5 231 RX1 yX1_has wsX1_has) := goodIn_app (goodIn_of _ (by decide +kernel)) ggX5_fateOf_X1_has
set_option maxRecDepth 20000 in
theorem ggX5_fateOf_X1_fateAt : GoodIn wsX5_fateOf wsX1_fateAt := goodIn_r _ [13, 14, 24, 25, 26] (by decide +kernel) (by decide +kernel)
set_option maxRecDepth 20000 in
theorem gX5_fateOf_X1_fateAt : GoodIn wsX5_fateOf (wsV RX5 234 RX1 yX1_fateAt wsX1_fateAt) := goodIn_app (goodIn_of _ (by decide +kernel)) ggX5_fateOf_X1_fateAt
theorem dX5_fateOf_0 : decode cX5_fateOf 0 = .ok (.aload_n 0, 1) := by decide +kernel
theorem dX5_fateOf_1 : decode cX5_fateOf 1 = .ok (.getfield 37, 3) := by decide +kernel
theorem dX5_fateOf_4 : decode cX5_fateOf 4 = .ok (.iload_n 1, 1) := by decide +kernel
theorem dX5_fateOf_5 : decode cX5_fateOf 5 = .ok (.invokevirtual 231, 3) := by decide +kernel
theorem dX5_fateOf_8 : decode cX5_fateOf 8 = .ok (.ifCond .ne 13, 3) := by decide +kernel
theorem dX5_fateOf_11 : decode cX5_fateOf 11 = .ok (.new 80, 3) := by decide +kernel
theorem dX5_fateOf_14 : decode cX5_fateOf 14 = .ok (.dup, 1) := by decide +kernel
theorem dX5_fateOf_15 : decode cX5_fateOf 15 = .ok (.ldc 232, 2) := by decide +kernel
theorem dX5_fateOf_17 : decode cX5_fateOf 17 = .ok (.invokespecial 84, 3) := by decide +kernel
theorem dX5_fateOf_20 : decode cX5_fateOf 20 = .ok (.athrow, 1) := by decide +kernel
theorem dX5_fateOf_21 : decode cX5_fateOf 21 = .ok (.aload_n 0, 1) := by decide +kernel
theorem dX5_fateOf_22 : decode cX5_fateOf 22 = .ok (.getfield 37, 3) := by decide +kernel
theorem dX5_fateOf_25 : decode cX5_fateOf 25 = .ok (.iload_n 1, 1) := by decide +kernel
theorem dX5_fateOf_26 : decode cX5_fateOf 26 = .ok (.invokevirtual 234, 3) := by decide +kernel
theorem dX5_fateOf_29 : decode cX5_fateOf 29 = .ok (.ireturn, 1) := by decide +kernel
set_option maxRecDepth 20000 in
theorem ggX5_count_X5_isWithin : GoodIn wsX5_count wsX5_isWithin := goodIn_r _ [7] (by decide +kernel) (by decide +kernel)
set_option maxRecDepth 20000 in
theorem gX5_count_X5_isWithin : GoodIn wsX5_count (va_wsS RX5 59 yX5_isWithin wsX5_isWithin) := goodIn_app (goodIn_of _ (by decide +kernel)) ggX5_count_X5_isWithin
set_option maxRecDepth 20000 in
theorem ggX5_count_X1_entriesWith : GoodIn wsX5_count wsX1_entriesWith := goodIn_r _ [12, 13, 14, 24, 25, 26] (by decide +kernel) (by decide +kernel)
set_option maxRecDepth 20000 in
theorem gX5_count_X1_entriesWith : GoodIn wsX5_count (wsV RX5 239 RX1 yX1_entriesWith wsX1_entriesWith) := goodIn_app (goodIn_of _ (by decide +kernel)) ggX5_count_X1_entriesWith
theorem dX5_count_0 : decode cX5_count 0 = .ok (.iload_n 1, 1) := by decide +kernel
theorem dX5_count_1 : decode cX5_count 1 = .ok (.iconst 0, 1) := by decide +kernel
theorem dX5_count_2 : decode cX5_count 2 = .ok (.iconst 3, 1) := by decide +kernel
theorem dX5_count_3 : decode cX5_count 3 = .ok (.invokestatic 59, 3) := by decide +kernel
theorem dX5_count_6 : decode cX5_count 6 = .ok (.ifCond .ne 13, 3) := by decide +kernel
theorem dX5_count_9 : decode cX5_count 9 = .ok (.new 80, 3) := by decide +kernel
theorem dX5_count_12 : decode cX5_count 12 = .ok (.dup, 1) := by decide +kernel
theorem dX5_count_13 : decode cX5_count 13 = .ok (.ldc 237, 2) := by decide +kernel
theorem dX5_count_15 : decode cX5_count 15 = .ok (.invokespecial 84, 3) := by decide +kernel
theorem dX5_count_18 : decode cX5_count 18 = .ok (.athrow, 1) := by decide +kernel
theorem dX5_count_19 : decode cX5_count 19 = .ok (.aload_n 0, 1) := by decide +kernel
theorem dX5_count_20 : decode cX5_count 20 = .ok (.getfield 37, 3) := by decide +kernel
theorem dX5_count_23 : decode cX5_count 23 = .ok (.iload_n 1, 1) := by decide +kernel
theorem dX5_count_24 : decode cX5_count 24 = .ok (.invokevirtual 239, 3) := by decide +kernel
theorem dX5_count_27 : decode cX5_count 27 = .ok (.ireturn, 1) := by decide +kernel
set_option maxRecDepth 20000 in
theorem ggX5_targetsOf_X1_has : GoodIn wsX5_targetsOf wsX1_has := goodIn_r _ [8, 9, 24, 25, 26] (by decide +kernel) (by decide +kernel)
set_option maxRecDepth 20000 in
theorem gX5_targetsOf_X1_has : GoodIn wsX5_targetsOf (wsV RX5 231 RX1 yX1_has wsX1_has) := goodIn_app (goodIn_of _ (by decide +kernel)) ggX5_targetsOf_X1_has
set_option maxRecDepth 20000 in
theorem ggX5_targetsOf_X1_targetsAt : GoodIn wsX5_targetsOf wsX1_targetsAt := goodIn_r _ [13, 14, 24, 25, 26] (by decide +kernel) (by decide +kernel)
set_option maxRecDepth 20000 in
theorem gX5_targetsOf_X1_targetsAt : GoodIn wsX5_targetsOf (wsV RX5 242 RX1 yX1_targetsAt wsX1_targetsAt) := goodIn_app (goodIn_of _ (by decide +kernel)) ggX5_targetsOf_X1_targetsAt
theorem dX5_targetsOf_0 : decode cX5_targetsOf 0 = .ok (.aload_n 0, 1) := by decide +kernel
theorem dX5_targetsOf_1 : decode cX5_targetsOf 1 = .ok (.getfield 37, 3) := by decide +kernel
theorem dX5_targetsOf_4 : decode cX5_targetsOf 4 = .ok (.iload_n 1, 1) := by decide +kernel
theorem dX5_targetsOf_5 : decode cX5_targetsOf 5 = .ok (.invokevirtual 231, 3) := by decide +kernel
theorem dX5_targetsOf_8 : decode cX5_targetsOf 8 = .ok (.ifCond .ne 13, 3) := by decide +kernel
theorem dX5_targetsOf_11 : decode cX5_targetsOf 11 = .ok (.new 80, 3) := by decide +kernel
theorem dX5_targetsOf_14 : decode cX5_targetsOf 14 = .ok (.dup, 1) := by decide +kernel
theorem dX5_targetsOf_15 : decode cX5_targetsOf 15 = .ok (.ldc 232, 2) := by decide +kernel
theorem dX5_targetsOf_17 : decode cX5_targetsOf 17 = .ok (.invokespecial 84, 3) := by decide +kernel
theorem dX5_targetsOf_20 : decode cX5_targetsOf 20 = .ok (.athrow, 1) := by decide +kernel
theorem dX5_targetsOf_21 : decode cX5_targetsOf 21 = .ok (.aload_n 0, 1) := by decide +kernel
theorem dX5_targetsOf_22 : decode cX5_targetsOf 22 = .ok (.getfield 37, 3) := by decide +kernel
theorem dX5_targetsOf_25 : decode cX5_targetsOf 25 = .ok (.iload_n 1, 1) := by decide +kernel
theorem dX5_targetsOf_26 : decode cX5_targetsOf 26 = .ok (.invokevirtual 242, 3) := by decide +kernel
theorem dX5_targetsOf_29 : decode cX5_targetsOf 29 = .ok (.ireturn, 1) := by decide +kernel
theorem dX5_isWithin_0 : decode cX5_isWithin 0 = .ok (.iload_n 0, 1) := by decide +kernel
theorem dX5_isWithin_1 : decode cX5_isWithin 1 = .ok (.iload_n 1, 1) := by decide +kernel
theorem dX5_isWithin_2 : decode cX5_isWithin 2 = .ok (.if_icmp .lt 12, 3) := by decide +kernel
theorem dX5_isWithin_5 : decode cX5_isWithin 5 = .ok (.iload_n 0, 1) := by decide +kernel
theorem dX5_isWithin_6 : decode cX5_isWithin 6 = .ok (.iload_n 2, 1) := by decide +kernel
theorem dX5_isWithin_7 : decode cX5_isWithin 7 = .ok (.if_icmp .gt 7, 3) := by decide +kernel
theorem dX5_isWithin_10 : decode cX5_isWithin 10 = .ok (.iconst 1, 1) := by decide +kernel
theorem dX5_isWithin_11 : decode cX5_isWithin 11 = .ok (.goto 4, 3) := by decide +kernel
theorem dX5_isWithin_14 : decode cX5_isWithin 14 = .ok (.iconst 0, 1) := by decide +kernel
theorem dX5_isWithin_15 : decode cX5_isWithin 15 = .ok (.ireturn, 1) := by decide +kernel
theorem dX5_senderAt_0 : decode cX5_senderAt 0 = .ok (.iload_n 1, 1) := by decide +kernel
theorem dX5_senderAt_1 : decode cX5_senderAt 1 = .ok (.ifCond .lt 9, 3) := by decide +kernel
theorem dX5_senderAt_4 : decode cX5_senderAt 4 = .ok (.iload_n 1, 1) := by decide +kernel
theorem dX5_senderAt_5 : decode cX5_senderAt 5 = .ok (.bipush 6, 2) := by decide +kernel
theorem dX5_senderAt_7 : decode cX5_senderAt 7 = .ok (.if_icmp .lt 13, 3) := by decide +kernel
theorem dX5_senderAt_10 : decode cX5_senderAt 10 = .ok (.new 80, 3) := by decide +kernel
theorem dX5_senderAt_13 : decode cX5_senderAt 13 = .ok (.dup, 1) := by decide +kernel
theorem dX5_senderAt_14 : decode cX5_senderAt 14 = .ok (.ldc 245, 2) := by decide +kernel
theorem dX5_senderAt_16 : decode cX5_senderAt 16 = .ok (.invokespecial 84, 3) := by decide +kernel
theorem dX5_senderAt_19 : decode cX5_senderAt 19 = .ok (.athrow, 1) := by decide +kernel
theorem dX5_senderAt_20 : decode cX5_senderAt 20 = .ok (.aload_n 0, 1) := by decide +kernel
theorem dX5_senderAt_21 : decode cX5_senderAt 21 = .ok (.getfield 11, 3) := by decide +kernel
theorem dX5_senderAt_24 : decode cX5_senderAt 24 = .ok (.iload_n 1, 1) := by decide +kernel
theorem dX5_senderAt_25 : decode cX5_senderAt 25 = .ok (.aaload, 1) := by decide +kernel
theorem dX5_senderAt_26 : decode cX5_senderAt 26 = .ok (.areturn, 1) := by decide +kernel
theorem dX5_ruleAt_0 : decode cX5_ruleAt 0 = .ok (.iload_n 1, 1) := by decide +kernel
theorem dX5_ruleAt_1 : decode cX5_ruleAt 1 = .ok (.ifCond .lt 9, 3) := by decide +kernel
theorem dX5_ruleAt_4 : decode cX5_ruleAt 4 = .ok (.iload_n 1, 1) := by decide +kernel
theorem dX5_ruleAt_5 : decode cX5_ruleAt 5 = .ok (.bipush 6, 2) := by decide +kernel
theorem dX5_ruleAt_7 : decode cX5_ruleAt 7 = .ok (.if_icmp .lt 13, 3) := by decide +kernel
theorem dX5_ruleAt_10 : decode cX5_ruleAt 10 = .ok (.new 80, 3) := by decide +kernel
theorem dX5_ruleAt_13 : decode cX5_ruleAt 13 = .ok (.dup, 1) := by decide +kernel
theorem dX5_ruleAt_14 : decode cX5_ruleAt 14 = .ok (.ldc 247, 2) := by decide +kernel
theorem dX5_ruleAt_16 : decode cX5_ruleAt 16 = .ok (.invokespecial 84, 3) := by decide +kernel
theorem dX5_ruleAt_19 : decode cX5_ruleAt 19 = .ok (.athrow, 1) := by decide +kernel
theorem dX5_ruleAt_20 : decode cX5_ruleAt 20 = .ok (.aload_n 0, 1) := by decide +kernel
theorem dX5_ruleAt_21 : decode cX5_ruleAt 21 = .ok (.getfield 17, 3) := by decide +kernel
theorem dX5_ruleAt_24 : decode cX5_ruleAt 24 = .ok (.iload_n 1, 1) := by decide +kernel
theorem dX5_ruleAt_25 : decode cX5_ruleAt 25 = .ok (.aaload, 1) := by decide +kernel
theorem dX5_ruleAt_26 : decode cX5_ruleAt 26 = .ok (.areturn, 1) := by decide +kernel
theorem dX5_fileAt_0 : decode cX5_fileAt 0 = .ok (.iload_n 1, 1) := by decide +kernel
theorem dX5_fileAt_1 : decode cX5_fileAt 1 = .ok (.ifCond .lt 8, 3) := by decide +kernel
theorem dX5_fileAt_4 : decode cX5_fileAt 4 = .ok (.iload_n 1, 1) := by decide +kernel
theorem dX5_fileAt_5 : decode cX5_fileAt 5 = .ok (.iconst 4, 1) := by decide +kernel
theorem dX5_fileAt_6 : decode cX5_fileAt 6 = .ok (.if_icmp .lt 13, 3) := by decide +kernel
theorem dX5_fileAt_9 : decode cX5_fileAt 9 = .ok (.new 80, 3) := by decide +kernel
theorem dX5_fileAt_12 : decode cX5_fileAt 12 = .ok (.dup, 1) := by decide +kernel
theorem dX5_fileAt_13 : decode cX5_fileAt 13 = .ok (.ldc 249, 2) := by decide +kernel
theorem dX5_fileAt_15 : decode cX5_fileAt 15 = .ok (.invokespecial 84, 3) := by decide +kernel
theorem dX5_fileAt_18 : decode cX5_fileAt 18 = .ok (.athrow, 1) := by decide +kernel
theorem dX5_fileAt_19 : decode cX5_fileAt 19 = .ok (.aload_n 0, 1) := by decide +kernel
theorem dX5_fileAt_20 : decode cX5_fileAt 20 = .ok (.getfield 23, 3) := by decide +kernel
theorem dX5_fileAt_23 : decode cX5_fileAt 23 = .ok (.iload_n 1, 1) := by decide +kernel
theorem dX5_fileAt_24 : decode cX5_fileAt 24 = .ok (.aaload, 1) := by decide +kernel
theorem dX5_fileAt_25 : decode cX5_fileAt 25 = .ok (.areturn, 1) := by decide +kernel
theorem dX5_rulesThatAreSet_0 : decode cX5_rulesThatAreSet 0 = .ok (.iconst 0, 1) := by decide +kernel
theorem dX5_rulesThatAreSet_1 : decode cX5_rulesThatAreSet 1 = .ok (.istore_n 1, 1) := by decide +kernel
theorem dX5_rulesThatAreSet_2 : decode cX5_rulesThatAreSet 2 = .ok (.iconst 0, 1) := by decide +kernel
theorem dX5_rulesThatAreSet_3 : decode cX5_rulesThatAreSet 3 = .ok (.istore_n 2, 1) := by decide +kernel
theorem dX5_rulesThatAreSet_4 : decode cX5_rulesThatAreSet 4 = .ok (.iload_n 2, 1) := by decide +kernel
theorem dX5_rulesThatAreSet_5 : decode cX5_rulesThatAreSet 5 = .ok (.bipush 6, 2) := by decide +kernel
theorem dX5_rulesThatAreSet_7 : decode cX5_rulesThatAreSet 7 = .ok (.if_icmp .ge 24, 3) := by decide +kernel
theorem dX5_rulesThatAreSet_10 : decode cX5_rulesThatAreSet 10 = .ok (.aload_n 0, 1) := by decide +kernel
theorem dX5_rulesThatAreSet_11 : decode cX5_rulesThatAreSet 11 = .ok (.getfield 17, 3) := by decide +kernel
theorem dX5_rulesThatAreSet_14 : decode cX5_rulesThatAreSet 14 = .ok (.iload_n 2, 1) := by decide +kernel
theorem dX5_rulesThatAreSet_15 : decode cX5_rulesThatAreSet 15 = .ok (.aaload, 1) := by decide +kernel
theorem dX5_rulesThatAreSet_16 : decode cX5_rulesThatAreSet 16 = .ok (.getfield 95, 3) := by decide +kernel
theorem dX5_rulesThatAreSet_19 : decode cX5_rulesThatAreSet 19 = .ok (.ifCond .eq 6, 3) := by decide +kernel
theorem dX5_rulesThatAreSet_22 : decode cX5_rulesThatAreSet 22 = .ok (.iinc 1 1, 3) := by decide +kernel
theorem dX5_rulesThatAreSet_25 : decode cX5_rulesThatAreSet 25 = .ok (.iinc 2 1, 3) := by decide +kernel
theorem dX5_rulesThatAreSet_28 : decode cX5_rulesThatAreSet 28 = .ok (.goto (-24), 3) := by decide +kernel
theorem dX5_rulesThatAreSet_31 : decode cX5_rulesThatAreSet 31 = .ok (.iload_n 1, 1) := by decide +kernel
theorem dX5_rulesThatAreSet_32 : decode cX5_rulesThatAreSet 32 = .ok (.ireturn, 1) := by decide +kernel
set_option maxRecDepth 20000 in
theorem ggX5_tellRepeats_X5_route : GoodIn wsX5_tellRepeats wsX5_route := goodIn_r _ [9, 10, 11, 12, 13, 14, 15, 16, 17, 18, 19, 20, 21, 22, 23, 24, 25, 26, 27, 28, 29, 30, 31, 32, 33, 34, 35, 36, 37, 38, 39, 40, 41, 42, 43, 44, 45, 46, 47, 48, 49, 50, 51, 52, 53, 54, 64, 65, 66, 67, 68, 69, 70, 71, 72, 73, 74, 75, 76, 77, 78, 79, 80, 81, 82, 83, 84, 85, 86, 87, 88, 89, 90, 91, 92, 93] (by decide +kernel) (by decide +kernel)
set_option maxRecDepth 20000 in
theorem gX5_tellRepeats_X5_route : GoodIn wsX5_tellRepeats (wsV RX5 157 RX5 yX5_route wsX5_route) := goodIn_app (goodIn_of _ (by decide +kernel)) ggX5_tellRepeats_X5_route
theorem dX5_tellRepeats_0 : decode cX5_tellRepeats 0 = .ok (.aload_n 1, 1) := by decide +kernel
theorem dX5_tellRepeats_1 : decode cX5_tellRepeats 1 = .ok (.getfield 207, 3) := by decide +kernel
theorem dX5_tellRepeats_4 : decode cX5_tellRepeats 4 = .ok (.ifCond .le 44, 3) := by decide +kernel
theorem dX5_tellRepeats_7 : decode cX5_tellRepeats 7 = .ok (.sipush 10000, 3) := by decide +kernel
theorem dX5_tellRepeats_10 : decode cX5_tellRepeats 10 = .ok (.aload_n 1, 1) := by decide +kernel
theorem dX5_tellRepeats_11 : decode cX5_tellRepeats 11 = .ok (.getfield 251, 3) := by decide +kernel
theorem dX5_tellRepeats_14 : decode cX5_tellRepeats 14 = .ok (.iconst 1, 1) := by decide +kernel
theorem dX5_tellRepeats_15 : decode cX5_tellRepeats 15 = .ok (.iadd, 1) := by decide +kernel
theorem dX5_tellRepeats_16 : decode cX5_tellRepeats 16 = .ok (.imul, 1) := by decide +kernel
theorem dX5_tellRepeats_17 : decode cX5_tellRepeats 17 = .ok (.aload_n 1, 1) := by decide +kernel
theorem dX5_tellRepeats_18 : decode cX5_tellRepeats 18 = .ok (.getfield 207, 3) := by decide +kernel
theorem dX5_tellRepeats_21 : decode cX5_tellRepeats 21 = .ok (.iadd, 1) := by decide +kernel
theorem dX5_tellRepeats_22 : decode cX5_tellRepeats 22 = .ok (.istore_n 2, 1) := by decide +kernel
theorem dX5_tellRepeats_23 : decode cX5_tellRepeats 23 = .ok (.aload_n 0, 1) := by decide +kernel
theorem dX5_tellRepeats_24 : decode cX5_tellRepeats 24 = .ok (.iload_n 2, 1) := by decide +kernel
theorem dX5_tellRepeats_25 : decode cX5_tellRepeats 25 = .ok (.aload_n 1, 1) := by decide +kernel
theorem dX5_tellRepeats_26 : decode cX5_tellRepeats 26 = .ok (.getfield 251, 3) := by decide +kernel
theorem dX5_tellRepeats_29 : decode cX5_tellRepeats 29 = .ok (.aload_n 1, 1) := by decide +kernel
theorem dX5_tellRepeats_30 : decode cX5_tellRepeats 30 = .ok (.getfield 254, 3) := by decide +kernel
theorem dX5_tellRepeats_33 : decode cX5_tellRepeats 33 = .ok (.aload_n 1, 1) := by decide +kernel
theorem dX5_tellRepeats_34 : decode cX5_tellRepeats 34 = .ok (.getfield 257, 3) := by decide +kernel
theorem dX5_tellRepeats_37 : decode cX5_tellRepeats 37 = .ok (.bipush 15, 2) := by decide +kernel
theorem dX5_tellRepeats_39 : decode cX5_tellRepeats 39 = .ok (.invokevirtual 157, 3) := by decide +kernel
theorem dX5_tellRepeats_42 : decode cX5_tellRepeats 42 = .ok (.pop, 1) := by decide +kernel
theorem dX5_tellRepeats_43 : decode cX5_tellRepeats 43 = .ok (.aload_n 1, 1) := by decide +kernel
theorem dX5_tellRepeats_44 : decode cX5_tellRepeats 44 = .ok (.iconst 0, 1) := by decide +kernel
theorem dX5_tellRepeats_45 : decode cX5_tellRepeats 45 = .ok (.putfield 207, 3) := by decide +kernel
theorem dX5_tellRepeats_48 : decode cX5_tellRepeats 48 = .ok (.return_, 1) := by decide +kernel
set_option maxRecDepth 20000 in
theorem ggX5_tellDrops_X5_route : GoodIn wsX5_tellDrops wsX5_route := goodIn_r _ [8, 9, 10, 11, 12, 13, 14, 15, 16, 17, 18, 19, 20, 21, 22, 23, 24, 25, 26, 27, 28, 29, 30, 31, 32, 33, 34, 35, 36, 37, 38, 39, 40, 41, 42, 43, 44, 45, 46, 47, 48, 49, 50, 51, 52, 53, 63, 64, 65, 66, 67, 68, 69, 70, 71, 72, 73, 74, 75, 76, 77, 78, 79, 80, 81, 82, 83, 84, 85, 86, 87, 88, 89, 90, 91, 92] (by decide +kernel) (by decide +kernel)
set_option maxRecDepth 20000 in
theorem gX5_tellDrops_X5_route : GoodIn wsX5_tellDrops (wsV RX5 157 RX5 yX5_route wsX5_route) := goodIn_app (goodIn_of _ (by decide +kernel)) ggX5_tellDrops_X5_route
theorem dX5_tellDrops_0 : decode cX5_tellDrops 0 = .ok (.aload_n 1, 1) := by decide +kernel
theorem dX5_tellDrops_1 : decode cX5_tellDrops 1 = .ok (.getfield 145, 3) := by decide +kernel
theorem dX5_tellDrops_4 : decode cX5_tellDrops 4 = .ok (.ifCond .le 38, 3) := by decide +kernel
theorem dX5_tellDrops_7 : decode cX5_tellDrops 7 = .ok (.ldc_w 260, 3) := by decide +kernel
theorem dX5_tellDrops_10 : decode cX5_tellDrops 10 = .ok (.aload_n 1, 1) := by decide +kernel
theorem dX5_tellDrops_11 : decode cX5_tellDrops 11 = .ok (.getfield 251, 3) := by decide +kernel
theorem dX5_tellDrops_14 : decode cX5_tellDrops 14 = .ok (.iconst 1, 1) := by decide +kernel
theorem dX5_tellDrops_15 : decode cX5_tellDrops 15 = .ok (.iadd, 1) := by decide +kernel
theorem dX5_tellDrops_16 : decode cX5_tellDrops 16 = .ok (.imul, 1) := by decide +kernel
theorem dX5_tellDrops_17 : decode cX5_tellDrops 17 = .ok (.aload_n 1, 1) := by decide +kernel
theorem dX5_tellDrops_18 : decode cX5_tellDrops 18 = .ok (.getfield 145, 3) := by decide +kernel
theorem dX5_tellDrops_21 : decode cX5_tellDrops 21 = .ok (.iadd, 1) := by decide +kernel
theorem dX5_tellDrops_22 : decode cX5_tellDrops 22 = .ok (.istore_n 2, 1) := by decide +kernel
theorem dX5_tellDrops_23 : decode cX5_tellDrops 23 = .ok (.aload_n 0, 1) := by decide +kernel
theorem dX5_tellDrops_24 : decode cX5_tellDrops 24 = .ok (.iload_n 2, 1) := by decide +kernel
theorem dX5_tellDrops_25 : decode cX5_tellDrops 25 = .ok (.aload_n 1, 1) := by decide +kernel
theorem dX5_tellDrops_26 : decode cX5_tellDrops 26 = .ok (.getfield 251, 3) := by decide +kernel
theorem dX5_tellDrops_29 : decode cX5_tellDrops 29 = .ok (.iconst 5, 1) := by decide +kernel
theorem dX5_tellDrops_30 : decode cX5_tellDrops 30 = .ok (.iconst 4, 1) := by decide +kernel
theorem dX5_tellDrops_31 : decode cX5_tellDrops 31 = .ok (.bipush 20, 2) := by decide +kernel
theorem dX5_tellDrops_33 : decode cX5_tellDrops 33 = .ok (.invokevirtual 157, 3) := by decide +kernel
theorem dX5_tellDrops_36 : decode cX5_tellDrops 36 = .ok (.pop, 1) := by decide +kernel
theorem dX5_tellDrops_37 : decode cX5_tellDrops 37 = .ok (.aload_n 1, 1) := by decide +kernel
theorem dX5_tellDrops_38 : decode cX5_tellDrops 38 = .ok (.iconst 0, 1) := by decide +kernel
theorem dX5_tellDrops_39 : decode cX5_tellDrops 39 = .ok (.putfield 145, 3) := by decide +kernel
theorem dX5_tellDrops_42 : decode cX5_tellDrops 42 = .ok (.return_, 1) := by decide +kernel
set_option maxRecDepth 20000 in
theorem ggX5_route_X3_fits : GoodIn wsX5_route wsX3_fits := goodIn_r _ [10, 11, 12, 13, 14, 55, 56, 57, 58, 59] (by decide +kernel) (by decide +kernel)
set_option maxRecDepth 20000 in
theorem gX5_route_X3_fits : GoodIn wsX5_route (wsV RX5 264 RX3 yX3_fits wsX3_fits) := goodIn_app (goodIn_of _ (by decide +kernel)) ggX5_route_X3_fits
set_option maxRecDepth 20000 in
theorem ggX5_route_X2_add : GoodIn wsX5_route wsX2_add := goodIn_r _ [19, 20, 21, 22, 23, 24, 25, 26, 27, 18, 28, 29, 30, 31, 32, 33, 34, 35, 36, 60, 61, 62, 63, 64, 65, 66, 67, 68, 69] (by decide +kernel) (by decide +kernel)
set_option maxRecDepth 20000 in
theorem gX5_route_X2_add : GoodIn wsX5_route (wsV RX5 267 RX2 yX2_add wsX2_add) := goodIn_app (goodIn_of _ (by decide +kernel)) ggX5_route_X2_add
set_option maxRecDepth 20000 in
theorem ggX5_route_X0_take : GoodIn wsX5_route wsX0_take := goodIn_r _ [41, 42, 43, 44, 45, 70, 71, 72, 73, 74, 75] (by decide +kernel) (by decide +kernel)
set_option maxRecDepth 20000 in
theorem gX5_route_X0_take : GoodIn wsX5_route (wsV RX5 270 RX0 yX0_take wsX0_take) := goodIn_app (goodIn_of _ (by decide +kernel)) ggX5_route_X0_take
theorem dX5_route_0 : decode cX5_route 0 = .ok (.iconst 0, 1) := by decide +kernel
theorem dX5_route_1 : decode cX5_route 1 = .ok (.istore 6, 2) := by decide +kernel
theorem dX5_route_3 : decode cX5_route 3 = .ok (.iconst 0, 1) := by decide +kernel
theorem dX5_route_4 : decode cX5_route 4 = .ok (.istore 7, 2) := by decide +kernel
theorem dX5_route_6 : decode cX5_route 6 = .ok (.iload 7, 2) := by decide +kernel
theorem dX5_route_8 : decode cX5_route 8 = .ok (.bipush 6, 2) := by decide +kernel
theorem dX5_route_10 : decode cX5_route 10 = .ok (.if_icmp .ge 112, 3) := by decide +kernel
theorem dX5_route_13 : decode cX5_route 13 = .ok (.aload_n 0, 1) := by decide +kernel
theorem dX5_route_14 : decode cX5_route 14 = .ok (.getfield 17, 3) := by decide +kernel
theorem dX5_route_17 : decode cX5_route 17 = .ok (.iload 7, 2) := by decide +kernel
theorem dX5_route_19 : decode cX5_route 19 = .ok (.aaload, 1) := by decide +kernel
theorem dX5_route_20 : decode cX5_route 20 = .ok (.getfield 261, 3) := by decide +kernel
theorem dX5_route_23 : decode cX5_route 23 = .ok (.istore 8, 2) := by decide +kernel
theorem dX5_route_25 : decode cX5_route 25 = .ok (.iload 6, 2) := by decide +kernel
theorem dX5_route_27 : decode cX5_route 27 = .ok (.iload 8, 2) := by decide +kernel
theorem dX5_route_29 : decode cX5_route 29 = .ok (.ishr, 1) := by decide +kernel
theorem dX5_route_30 : decode cX5_route 30 = .ok (.iconst 1, 1) := by decide +kernel
theorem dX5_route_31 : decode cX5_route 31 = .ok (.iand, 1) := by decide +kernel
theorem dX5_route_32 : decode cX5_route 32 = .ok (.iconst 1, 1) := by decide +kernel
theorem dX5_route_33 : decode cX5_route 33 = .ok (.if_icmp .ne 7, 3) := by decide +kernel
theorem dX5_route_36 : decode cX5_route 36 = .ok (.iconst 1, 1) := by decide +kernel
theorem dX5_route_37 : decode cX5_route 37 = .ok (.goto 4, 3) := by decide +kernel
theorem dX5_route_40 : decode cX5_route 40 = .ok (.iconst 0, 1) := by decide +kernel
theorem dX5_route_41 : decode cX5_route 41 = .ok (.istore 9, 2) := by decide +kernel
theorem dX5_route_43 : decode cX5_route 43 = .ok (.iload 9, 2) := by decide +kernel
theorem dX5_route_45 : decode cX5_route 45 = .ok (.ifCond .ne 71, 3) := by decide +kernel
theorem dX5_route_48 : decode cX5_route 48 = .ok (.aload_n 0, 1) := by decide +kernel
theorem dX5_route_49 : decode cX5_route 49 = .ok (.getfield 17, 3) := by decide +kernel
theorem dX5_route_52 : decode cX5_route 52 = .ok (.iload 7, 2) := by decide +kernel
theorem dX5_route_54 : decode cX5_route 54 = .ok (.aaload, 1) := by decide +kernel
theorem dX5_route_55 : decode cX5_route 55 = .ok (.iload_n 2, 1) := by decide +kernel
theorem dX5_route_56 : decode cX5_route 56 = .ok (.iload_n 3, 1) := by decide +kernel
theorem dX5_route_57 : decode cX5_route 57 = .ok (.iload 4, 2) := by decide +kernel
theorem dX5_route_59 : decode cX5_route 59 = .ok (.invokevirtual 264, 3) := by decide +kernel
theorem dX5_route_62 : decode cX5_route 62 = .ok (.ifCond .ne 6, 3) := by decide +kernel
theorem dX5_route_65 : decode cX5_route 65 = .ok (.goto 51, 3) := by decide +kernel
theorem dX5_route_68 : decode cX5_route 68 = .ok (.iload 6, 2) := by decide +kernel
theorem dX5_route_70 : decode cX5_route 70 = .ok (.iconst 1, 1) := by decide +kernel
theorem dX5_route_71 : decode cX5_route 71 = .ok (.iload 8, 2) := by decide +kernel
theorem dX5_route_73 : decode cX5_route 73 = .ok (.ishl, 1) := by decide +kernel
theorem dX5_route_74 : decode cX5_route 74 = .ok (.ior, 1) := by decide +kernel
theorem dX5_route_75 : decode cX5_route 75 = .ok (.istore 6, 2) := by decide +kernel
theorem dX5_route_77 : decode cX5_route 77 = .ok (.iload 8, 2) := by decide +kernel
theorem dX5_route_79 : decode cX5_route 79 = .ok (.ifCond .lt 29, 3) := by decide +kernel
theorem dX5_route_82 : decode cX5_route 82 = .ok (.iload 8, 2) := by decide +kernel
theorem dX5_route_84 : decode cX5_route 84 = .ok (.iconst 4, 1) := by decide +kernel
theorem dX5_route_85 : decode cX5_route 85 = .ok (.if_icmp .ge 23, 3) := by decide +kernel
theorem dX5_route_88 : decode cX5_route 88 = .ok (.aload_n 0, 1) := by decide +kernel
theorem dX5_route_89 : decode cX5_route 89 = .ok (.getfield 23, 3) := by decide +kernel
theorem dX5_route_92 : decode cX5_route 92 = .ok (.iload 8, 2) := by decide +kernel
theorem dX5_route_94 : decode cX5_route 94 = .ok (.aaload, 1) := by decide +kernel
theorem dX5_route_95 : decode cX5_route 95 = .ok (.iload_n 1, 1) := by decide +kernel
theorem dX5_route_96 : decode cX5_route 96 = .ok (.iload 5, 2) := by decide +kernel
theorem dX5_route_98 : decode cX5_route 98 = .ok (.aload_n 0, 1) := by decide +kernel
theorem dX5_route_99 : decode cX5_route 99 = .ok (.getfield 41, 3) := by decide +kernel
theorem dX5_route_102 : decode cX5_route 102 = .ok (.invokevirtual 267, 3) := by decide +kernel
theorem dX5_route_105 : decode cX5_route 105 = .ok (.goto 11, 3) := by decide +kernel
theorem dX5_route_108 : decode cX5_route 108 = .ok (.aload_n 0, 1) := by decide +kernel
theorem dX5_route_109 : decode cX5_route 109 = .ok (.getfield 30, 3) := by decide +kernel
theorem dX5_route_112 : decode cX5_route 112 = .ok (.iload_n 1, 1) := by decide +kernel
theorem dX5_route_113 : decode cX5_route 113 = .ok (.invokevirtual 270, 3) := by decide +kernel
theorem dX5_route_116 : decode cX5_route 116 = .ok (.iinc 7 1, 3) := by decide +kernel
theorem dX5_route_119 : decode cX5_route 119 = .ok (.goto (-113), 3) := by decide +kernel
theorem dX5_route_122 : decode cX5_route 122 = .ok (.iload 6, 2) := by decide +kernel
theorem dX5_route_124 : decode cX5_route 124 = .ok (.ireturn, 1) := by decide +kernel
set_option maxRecDepth 20000 in
theorem ggX5_passOneSecond_X5_giveTokens : GoodIn wsX5_passOneSecond wsX5_giveTokens := goodIn_r _ [7, 8, 9, 10, 11, 12, 13, 14, 15, 92, 93, 94, 95, 96, 97, 98, 99, 100, 101, 102, 103, 104, 105, 106, 107, 108, 109] (by decide +kernel) (by decide +kernel)
set_option maxRecDepth 20000 in
theorem gX5_passOneSecond_X5_giveTokens : GoodIn wsX5_passOneSecond (wsV RX5 273 RX5 yX5_giveTokens wsX5_giveTokens) := goodIn_app (goodIn_of _ (by decide +kernel)) ggX5_passOneSecond_X5_giveTokens
set_option maxRecDepth 20000 in
theorem ggX5_passOneSecond_X5_tellDueRepeats : GoodIn wsX5_passOneSecond wsX5_tellDueRepeats := goodIn_r _ [19, 20, 21, 22, 6, 23, 8, 24, 1, 25, 26, 27, 28, 29, 30, 31, 32, 33, 34, 35, 36, 37, 38, 39, 40, 41, 42, 43, 44, 45, 46, 47, 48, 49, 50, 51, 52, 53, 54, 55, 56, 57, 58, 59, 60, 61, 62, 63, 64, 65, 66, 67, 68, 69, 70, 71, 72, 73, 74, 75, 76, 77, 78, 79, 80, 81, 92, 93, 94, 95, 96, 97, 98, 99, 100, 101, 102, 103, 104, 105, 106, 107, 108, 109, 110, 111, 112, 113, 114, 115, 116, 117, 118, 119, 120, 121, 122, 123, 124, 125, 126, 127, 128, 129, 130] (by decide +kernel) (by decide +kernel)
set_option maxRecDepth 20000 in
theorem gX5_passOneSecond_X5_tellDueRepeats : GoodIn wsX5_passOneSecond (wsV RX5 276 RX5 yX5_tellDueRepeats wsX5_tellDueRepeats) := goodIn_app (goodIn_of _ (by decide +kernel)) ggX5_passOneSecond_X5_tellDueRepeats
set_option maxRecDepth 20000 in
theorem ggX5_passOneSecond_X5_rotateAgedFiles : GoodIn wsX5_passOneSecond wsX5_rotateAgedFiles := goodIn_r _ [85, 40, 1, 86, 87, 88, 54, 89, 90, 58, 61, 62, 63, 64, 59, 65, 91, 67, 68, 69, 56, 70, 71, 72, 92, 93, 94, 95, 96, 97, 98, 99, 100, 115, 116, 117, 118, 119, 120, 121, 122, 123, 124] (by decide +kernel) (by decide +kernel)
set_option maxRecDepth 20000 in
theorem gX5_passOneSecond_X5_rotateAgedFiles : GoodIn wsX5_passOneSecond (wsV RX5 279 RX5 yX5_rotateAgedFiles wsX5_rotateAgedFiles) := goodIn_app (goodIn_of _ (by decide +kernel)) ggX5_passOneSecond_X5_rotateAgedFiles
theorem dX5_passOneSecond_0 : decode cX5_passOneSecond 0 = .ok (.aload_n 0, 1) := by decide +kernel
theorem dX5_passOneSecond_1 : decode cX5_passOneSecond 1 = .ok (.dup, 1) := by decide +kernel
theorem dX5_passOneSecond_2 : decode cX5_passOneSecond 2 = .ok (.getfield 41, 3) := by decide +kernel
theorem dX5_passOneSecond_5 : decode cX5_passOneSecond 5 = .ok (.iconst 1, 1) := by decide +kernel
theorem dX5_passOneSecond_6 : decode cX5_passOneSecond 6 = .ok (.iadd, 1) := by decide +kernel
theorem dX5_passOneSecond_7 : decode cX5_passOneSecond 7 = .ok (.putfield 41, 3) := by decide +kernel
theorem dX5_passOneSecond_10 : decode cX5_passOneSecond 10 = .ok (.aload_n 0, 1) := by decide +kernel
theorem dX5_passOneSecond_11 : decode cX5_passOneSecond 11 = .ok (.getfield 48, 3) := by decide +kernel
theorem dX5_passOneSecond_14 : decode cX5_passOneSecond 14 = .ok (.ifCond .le 19, 3) := by decide +kernel
theorem dX5_passOneSecond_17 : decode cX5_passOneSecond 17 = .ok (.aload_n 0, 1) := by decide +kernel
theorem dX5_passOneSecond_18 : decode cX5_passOneSecond 18 = .ok (.getfield 41, 3) := by decide +kernel
theorem dX5_passOneSecond_21 : decode cX5_passOneSecond 21 = .ok (.aload_n 0, 1) := by decide +kernel
theorem dX5_passOneSecond_22 : decode cX5_passOneSecond 22 = .ok (.getfield 48, 3) := by decide +kernel
theorem dX5_passOneSecond_25 : decode cX5_passOneSecond 25 = .ok (.irem, 1) := by decide +kernel
theorem dX5_passOneSecond_26 : decode cX5_passOneSecond 26 = .ok (.ifCond .ne 7, 3) := by decide +kernel
theorem dX5_passOneSecond_29 : decode cX5_passOneSecond 29 = .ok (.aload_n 0, 1) := by decide +kernel
theorem dX5_passOneSecond_30 : decode cX5_passOneSecond 30 = .ok (.invokevirtual 273, 3) := by decide +kernel
theorem dX5_passOneSecond_33 : decode cX5_passOneSecond 33 = .ok (.aload_n 0, 1) := by decide +kernel
theorem dX5_passOneSecond_34 : decode cX5_passOneSecond 34 = .ok (.invokevirtual 276, 3) := by decide +kernel
theorem dX5_passOneSecond_37 : decode cX5_passOneSecond 37 = .ok (.aload_n 0, 1) := by decide +kernel
theorem dX5_passOneSecond_38 : decode cX5_passOneSecond 38 = .ok (.invokevirtual 279, 3) := by decide +kernel
theorem dX5_passOneSecond_41 : decode cX5_passOneSecond 41 = .ok (.return_, 1) := by decide +kernel
set_option maxRecDepth 20000 in
theorem ggX5_giveTokens_X4_gainToken : GoodIn wsX5_giveTokens wsX4_gainToken := goodIn_r _ [7, 8, 18, 19, 20, 21, 22, 23, 24, 25, 26] (by decide +kernel) (by decide +kernel)
set_option maxRecDepth 20000 in
theorem gX5_giveTokens_X4_gainToken : GoodIn wsX5_giveTokens (wsV RX5 282 RX4 yX4_gainToken wsX4_gainToken) := goodIn_app (goodIn_of _ (by decide +kernel)) ggX5_giveTokens_X4_gainToken
theorem dX5_giveTokens_0 : decode cX5_giveTokens 0 = .ok (.iconst 0, 1) := by decide +kernel
theorem dX5_giveTokens_1 : decode cX5_giveTokens 1 = .ok (.istore_n 1, 1) := by decide +kernel
theorem dX5_giveTokens_2 : decode cX5_giveTokens 2 = .ok (.iload_n 1, 1) := by decide +kernel
theorem dX5_giveTokens_3 : decode cX5_giveTokens 3 = .ok (.bipush 6, 2) := by decide +kernel
theorem dX5_giveTokens_5 : decode cX5_giveTokens 5 = .ok (.if_icmp .ge 22, 3) := by decide +kernel
theorem dX5_giveTokens_8 : decode cX5_giveTokens 8 = .ok (.aload_n 0, 1) := by decide +kernel
theorem dX5_giveTokens_9 : decode cX5_giveTokens 9 = .ok (.getfield 11, 3) := by decide +kernel
theorem dX5_giveTokens_12 : decode cX5_giveTokens 12 = .ok (.iload_n 1, 1) := by decide +kernel
theorem dX5_giveTokens_13 : decode cX5_giveTokens 13 = .ok (.aaload, 1) := by decide +kernel
theorem dX5_giveTokens_14 : decode cX5_giveTokens 14 = .ok (.aload_n 0, 1) := by decide +kernel
theorem dX5_giveTokens_15 : decode cX5_giveTokens 15 = .ok (.getfield 45, 3) := by decide +kernel
theorem dX5_giveTokens_18 : decode cX5_giveTokens 18 = .ok (.invokevirtual 282, 3) := by decide +kernel
theorem dX5_giveTokens_21 : decode cX5_giveTokens 21 = .ok (.iinc 1 1, 3) := by decide +kernel
theorem dX5_giveTokens_24 : decode cX5_giveTokens 24 = .ok (.goto (-22), 3) := by decide +kernel
theorem dX5_giveTokens_27 : decode cX5_giveTokens 27 = .ok (.return_, 1) := by decide +kernel
set_option maxRecDepth 20000 in
theorem ggX5_tellDueRepeats_X5_firstWithDueRepeats : GoodIn wsX5_tellDueRepeats wsX5_firstWithDueRepeats := goodIn_r _ [5, 6, 7, 8, 9, 10, 66, 67, 68, 69, 70, 71, 72, 73, 74, 75, 76, 77, 78, 79, 80, 81, 82, 83] (by decide +kernel) (by decide +kernel)
set_option maxRecDepth 20000 in
theorem gX5_tellDueRepeats_X5_firstWithDueRepeats : GoodIn wsX5_tellDueRepeats (wsV RX5 285 RX5 yX5_firstWithDueRepeats wsX5_firstWithDueRepeats) := goodIn_app (goodIn_of _ (by decide +kernel)) ggX5_tellDueRepeats_X5_firstWithDueRepeats
set_option maxRecDepth 20000 in
theorem ggX5_tellDueRepeats_X5_tellRepeats : GoodIn wsX5_tellDueRepeats wsX5_tellRepeats := goodIn_r _ [14, 7, 15, 16, 17, 18, 19, 20, 4, 21, 22, 23, 24, 8, 25, 26, 27, 28, 29, 30, 31, 32, 33, 34, 35, 36, 37, 38, 39, 40, 41, 42, 43, 44, 45, 46, 47, 48, 49, 50, 51, 52, 53, 54, 55, 56, 57, 58, 59, 60, 61, 62, 63, 64, 65, 75, 76, 77, 78, 79, 80, 81, 82, 83, 66, 67, 68, 69, 70, 71, 72, 73, 74, 84, 85, 86, 87, 88, 89, 90, 91, 92, 93, 94, 95, 96, 97, 98, 99, 100, 101, 102, 103, 104] (by decide +kernel) (by decide +kernel)
set_option maxRecDepth 20000 in
theorem gX5_tellDueRepeats_X5_tellRepeats : GoodIn wsX5_tellDueRepeats (wsV RX5 138 RX5 yX5_tellRepeats wsX5_tellRepeats) := goodIn_app (goodIn_of _ (by decide +kernel)) ggX5_tellDueRepeats_X5_tellRepeats
theorem dX5_tellDueRepeats_0 : decode cX5_tellDueRepeats 0 = .ok (.iconst 0, 1) := by decide +kernel
theorem dX5_tellDueRepeats_1 : decode cX5_tellDueRepeats 1 = .ok (.istore_n 1, 1) := by decide +kernel
theorem dX5_tellDueRepeats_2 : decode cX5_tellDueRepeats 2 = .ok (.iload_n 1, 1) := by decide +kernel
theorem dX5_tellDueRepeats_3 : decode cX5_tellDueRepeats 3 = .ok (.bipush 6, 2) := by decide +kernel
theorem dX5_tellDueRepeats_5 : decode cX5_tellDueRepeats 5 = .ok (.if_icmp .ge 24, 3) := by decide +kernel
theorem dX5_tellDueRepeats_8 : decode cX5_tellDueRepeats 8 = .ok (.aload_n 0, 1) := by decide +kernel
theorem dX5_tellDueRepeats_9 : decode cX5_tellDueRepeats 9 = .ok (.invokevirtual 285, 3) := by decide +kernel
theorem dX5_tellDueRepeats_12 : decode cX5_tellDueRepeats 12 = .ok (.astore_n 2, 1) := by decide +kernel
theorem dX5_tellDueRepeats_13 : decode cX5_tellDueRepeats 13 = .ok (.aload_n 2, 1) := by decide +kernel
theorem dX5_tellDueRepeats_14 : decode cX5_tellDueRepeats 14 = .ok (.ifnonnull 4, 3) := by decide +kernel
theorem dX5_tellDueRepeats_17 : decode cX5_tellDueRepeats 17 = .ok (.return_, 1) := by decide +kernel
theorem dX5_tellDueRepeats_18 : decode cX5_tellDueRepeats 18 = .ok (.aload_n 0, 1) := by decide +kernel
theorem dX5_tellDueRepeats_19 : decode cX5_tellDueRepeats 19 = .ok (.aload_n 2, 1) := by decide +kernel
theorem dX5_tellDueRepeats_20 : decode cX5_tellDueRepeats 20 = .ok (.invokevirtual 138, 3) := by decide +kernel
theorem dX5_tellDueRepeats_23 : decode cX5_tellDueRepeats 23 = .ok (.iinc 1 1, 3) := by decide +kernel
theorem dX5_tellDueRepeats_26 : decode cX5_tellDueRepeats 26 = .ok (.goto (-24), 3) := by decide +kernel
theorem dX5_tellDueRepeats_29 : decode cX5_tellDueRepeats 29 = .ok (.return_, 1) := by decide +kernel
theorem dX5_firstWithDueRepeats_0 : decode cX5_firstWithDueRepeats 0 = .ok (.aconst_null, 1) := by decide +kernel
theorem dX5_firstWithDueRepeats_1 : decode cX5_firstWithDueRepeats 1 = .ok (.astore_n 1, 1) := by decide +kernel
theorem dX5_firstWithDueRepeats_2 : decode cX5_firstWithDueRepeats 2 = .ok (.iconst 0, 1) := by decide +kernel
theorem dX5_firstWithDueRepeats_3 : decode cX5_firstWithDueRepeats 3 = .ok (.istore_n 2, 1) := by decide +kernel
theorem dX5_firstWithDueRepeats_4 : decode cX5_firstWithDueRepeats 4 = .ok (.iload_n 2, 1) := by decide +kernel
theorem dX5_firstWithDueRepeats_5 : decode cX5_firstWithDueRepeats 5 = .ok (.bipush 6, 2) := by decide +kernel
theorem dX5_firstWithDueRepeats_7 : decode cX5_firstWithDueRepeats 7 = .ok (.if_icmp .ge 68, 3) := by decide +kernel
theorem dX5_firstWithDueRepeats_10 : decode cX5_firstWithDueRepeats 10 = .ok (.aload_n 0, 1) := by decide +kernel
theorem dX5_firstWithDueRepeats_11 : decode cX5_firstWithDueRepeats 11 = .ok (.getfield 11, 3) := by decide +kernel
theorem dX5_firstWithDueRepeats_14 : decode cX5_firstWithDueRepeats 14 = .ok (.iload_n 2, 1) := by decide +kernel
theorem dX5_firstWithDueRepeats_15 : decode cX5_firstWithDueRepeats 15 = .ok (.aaload, 1) := by decide +kernel
theorem dX5_firstWithDueRepeats_16 : decode cX5_firstWithDueRepeats 16 = .ok (.astore_n 3, 1) := by decide +kernel
theorem dX5_firstWithDueRepeats_17 : decode cX5_firstWithDueRepeats 17 = .ok (.aload_n 3, 1) := by decide +kernel
theorem dX5_firstWithDueRepeats_18 : decode cX5_firstWithDueRepeats 18 = .ok (.getfield 207, 3) := by decide +kernel
theorem dX5_firstWithDueRepeats_21 : decode cX5_firstWithDueRepeats 21 = .ok (.ifCond .le 23, 3) := by decide +kernel
theorem dX5_firstWithDueRepeats_24 : decode cX5_firstWithDueRepeats 24 = .ok (.aload_n 0, 1) := by decide +kernel
theorem dX5_firstWithDueRepeats_25 : decode cX5_firstWithDueRepeats 25 = .ok (.getfield 41, 3) := by decide +kernel
theorem dX5_firstWithDueRepeats_28 : decode cX5_firstWithDueRepeats 28 = .ok (.aload_n 3, 1) := by decide +kernel
theorem dX5_firstWithDueRepeats_29 : decode cX5_firstWithDueRepeats 29 = .ok (.getfield 289, 3) := by decide +kernel
theorem dX5_firstWithDueRepeats_32 : decode cX5_firstWithDueRepeats 32 = .ok (.isub, 1) := by decide +kernel
theorem dX5_firstWithDueRepeats_33 : decode cX5_firstWithDueRepeats 33 = .ok (.aload_n 0, 1) := by decide +kernel
theorem dX5_firstWithDueRepeats_34 : decode cX5_firstWithDueRepeats 34 = .ok (.getfield 51, 3) := by decide +kernel
theorem dX5_firstWithDueRepeats_37 : decode cX5_firstWithDueRepeats 37 = .ok (.if_icmp .lt 7, 3) := by decide +kernel
theorem dX5_firstWithDueRepeats_40 : decode cX5_firstWithDueRepeats 40 = .ok (.iconst 1, 1) := by decide +kernel
theorem dX5_firstWithDueRepeats_41 : decode cX5_firstWithDueRepeats 41 = .ok (.goto 4, 3) := by decide +kernel
theorem dX5_firstWithDueRepeats_44 : decode cX5_firstWithDueRepeats 44 = .ok (.iconst 0, 1) := by decide +kernel
theorem dX5_firstWithDueRepeats_45 : decode cX5_firstWithDueRepeats 45 = .ok (.istore 4, 2) := by decide +kernel
theorem dX5_firstWithDueRepeats_47 : decode cX5_firstWithDueRepeats 47 = .ok (.iload 4, 2) := by decide +kernel
theorem dX5_firstWithDueRepeats_49 : decode cX5_firstWithDueRepeats 49 = .ok (.ifCond .eq 20, 3) := by decide +kernel
theorem dX5_firstWithDueRepeats_52 : decode cX5_firstWithDueRepeats 52 = .ok (.aload_n 1, 1) := by decide +kernel
theorem dX5_firstWithDueRepeats_53 : decode cX5_firstWithDueRepeats 53 = .ok (.ifnull 14, 3) := by decide +kernel
theorem dX5_firstWithDueRepeats_56 : decode cX5_firstWithDueRepeats 56 = .ok (.aload_n 3, 1) := by decide +kernel
theorem dX5_firstWithDueRepeats_57 : decode cX5_firstWithDueRepeats 57 = .ok (.getfield 289, 3) := by decide +kernel
theorem dX5_firstWithDueRepeats_60 : decode cX5_firstWithDueRepeats 60 = .ok (.aload_n 1, 1) := by decide +kernel
theorem dX5_firstWithDueRepeats_61 : decode cX5_firstWithDueRepeats 61 = .ok (.getfield 289, 3) := by decide +kernel
theorem dX5_firstWithDueRepeats_64 : decode cX5_firstWithDueRepeats 64 = .ok (.if_icmp .ge 5, 3) := by decide +kernel
theorem dX5_firstWithDueRepeats_67 : decode cX5_firstWithDueRepeats 67 = .ok (.aload_n 3, 1) := by decide +kernel
theorem dX5_firstWithDueRepeats_68 : decode cX5_firstWithDueRepeats 68 = .ok (.astore_n 1, 1) := by decide +kernel
theorem dX5_firstWithDueRepeats_69 : decode cX5_firstWithDueRepeats 69 = .ok (.iinc 2 1, 3) := by decide +kernel
theorem dX5_firstWithDueRepeats_72 : decode cX5_firstWithDueRepeats 72 = .ok (.goto (-68), 3) := by decide +kernel
theorem dX5_firstWithDueRepeats_75 : decode cX5_firstWithDueRepeats 75 = .ok (.aload_n 1, 1) := by decide +kernel
theorem dX5_firstWithDueRepeats_76 : decode cX5_firstWithDueRepeats 76 = .ok (.areturn, 1) := by decide +kernel
set_option maxRecDepth 20000 in
theorem ggX5_rotateAgedFiles_X2_isAged : GoodIn wsX5_rotateAgedFiles wsX2_isAged := goodIn_r _ [7, 8, 9, 10, 11, 12, 6, 13, 14, 15, 33, 34, 35, 36, 37, 38, 39, 40, 41, 42] (by decide +kernel) (by decide +kernel)
set_option maxRecDepth 20000 in
theorem gX5_rotateAgedFiles_X2_isAged : GoodIn wsX5_rotateAgedFiles (wsV RX5 292 RX2 yX2_isAged wsX2_isAged) := goodIn_app (goodIn_of _ (by decide +kernel)) ggX5_rotateAgedFiles_X2_isAged
set_option maxRecDepth 20000 in
theorem ggX5_rotateAgedFiles_X2_turnOver : GoodIn wsX5_rotateAgedFiles wsX2_turnOver := goodIn_r _ [19, 15, 14, 20, 21, 22, 23, 33, 34, 35, 36, 37, 38, 39, 40, 41, 42] (by decide +kernel) (by decide +kernel)
set_option maxRecDepth 20000 in
theorem gX5_rotateAgedFiles_X2_turnOver : GoodIn wsX5_rotateAgedFiles (wsV RX5 172 RX2 yX2_turnOver wsX2_turnOver) := goodIn_app (goodIn_of _ (by decide +kernel)) ggX5_rotateAgedFiles_X2_turnOver
theorem dX5_rotateAgedFiles_0 : decode cX5_rotateAgedFiles 0 = .ok (.iconst 0, 1) := by decide +kernel
theorem dX5_rotateAgedFiles_1 : decode cX5_rotateAgedFiles 1 = .ok (.istore_n 1, 1) := by decide +kernel
theorem dX5_rotateAgedFiles_2 : decode cX5_rotateAgedFiles 2 = .ok (.iload_n 1, 1) := by decide +kernel
theorem dX5_rotateAgedFiles_3 : decode cX5_rotateAgedFiles 3 = .ok (.iconst 4, 1) := by decide +kernel
theorem dX5_rotateAgedFiles_4 : decode cX5_rotateAgedFiles 4 = .ok (.if_icmp .ge 34, 3) := by decide +kernel
theorem dX5_rotateAgedFiles_7 : decode cX5_rotateAgedFiles 7 = .ok (.aload_n 0, 1) := by decide +kernel
theorem dX5_rotateAgedFiles_8 : decode cX5_rotateAgedFiles 8 = .ok (.getfield 23, 3) := by decide +kernel
theorem dX5_rotateAgedFiles_11 : decode cX5_rotateAgedFiles 11 = .ok (.iload_n 1, 1) := by decide +kernel
theorem dX5_rotateAgedFiles_12 : decode cX5_rotateAgedFiles 12 = .ok (.aaload, 1) := by decide +kernel
theorem dX5_rotateAgedFiles_13 : decode cX5_rotateAgedFiles 13 = .ok (.aload_n 0, 1) := by decide +kernel
theorem dX5_rotateAgedFiles_14 : decode cX5_rotateAgedFiles 14 = .ok (.getfield 41, 3) := by decide +kernel
theorem dX5_rotateAgedFiles_17 : decode cX5_rotateAgedFiles 17 = .ok (.invokevirtual 292, 3) := by decide +kernel
theorem dX5_rotateAgedFiles_20 : decode cX5_rotateAgedFiles 20 = .ok (.ifCond .eq 12, 3) := by decide +kernel
theorem dX5_rotateAgedFiles_23 : decode cX5_rotateAgedFiles 23 = .ok (.aload_n 0, 1) := by decide +kernel
theorem dX5_rotateAgedFiles_24 : decode cX5_rotateAgedFiles 24 = .ok (.getfield 23, 3) := by decide +kernel
theorem dX5_rotateAgedFiles_27 : decode cX5_rotateAgedFiles 27 = .ok (.iload_n 1, 1) := by decide +kernel
theorem dX5_rotateAgedFiles_28 : decode cX5_rotateAgedFiles 28 = .ok (.aaload, 1) := by decide +kernel
theorem dX5_rotateAgedFiles_29 : decode cX5_rotateAgedFiles 29 = .ok (.invokevirtual 172, 3) := by decide +kernel
theorem dX5_rotateAgedFiles_32 : decode cX5_rotateAgedFiles 32 = .ok (.iinc 1 1, 3) := by decide +kernel
theorem dX5_rotateAgedFiles_35 : decode cX5_rotateAgedFiles 35 = .ok (.goto (-33), 3) := by decide +kernel
theorem dX5_rotateAgedFiles_38 : decode cX5_rotateAgedFiles 38 = .ok (.return_, 1) := by decide +kernel
theorem dX5_rotationsOfAllFiles_0 : decode cX5_rotationsOfAllFiles 0 = .ok (.iconst 0, 1) := by decide +kernel
theorem dX5_rotationsOfAllFiles_1 : decode cX5_rotationsOfAllFiles 1 = .ok (.istore_n 1, 1) := by decide +kernel
theorem dX5_rotationsOfAllFiles_2 : decode cX5_rotationsOfAllFiles 2 = .ok (.iconst 0, 1) := by decide +kernel
theorem dX5_rotationsOfAllFiles_3 : decode cX5_rotationsOfAllFiles 3 = .ok (.istore_n 2, 1) := by decide +kernel
theorem dX5_rotationsOfAllFiles_4 : decode cX5_rotationsOfAllFiles 4 = .ok (.iload_n 2, 1) := by decide +kernel
theorem dX5_rotationsOfAllFiles_5 : decode cX5_rotationsOfAllFiles 5 = .ok (.iconst 4, 1) := by decide +kernel
theorem dX5_rotationsOfAllFiles_6 : decode cX5_rotationsOfAllFiles 6 = .ok (.if_icmp .ge 21, 3) := by decide +kernel
theorem dX5_rotationsOfAllFiles_9 : decode cX5_rotationsOfAllFiles 9 = .ok (.iload_n 1, 1) := by decide +kernel
theorem dX5_rotationsOfAllFiles_10 : decode cX5_rotationsOfAllFiles 10 = .ok (.aload_n 0, 1) := by decide +kernel
theorem dX5_rotationsOfAllFiles_11 : decode cX5_rotationsOfAllFiles 11 = .ok (.getfield 23, 3) := by decide +kernel
theorem dX5_rotationsOfAllFiles_14 : decode cX5_rotationsOfAllFiles 14 = .ok (.iload_n 2, 1) := by decide +kernel
theorem dX5_rotationsOfAllFiles_15 : decode cX5_rotationsOfAllFiles 15 = .ok (.aaload, 1) := by decide +kernel
theorem dX5_rotationsOfAllFiles_16 : decode cX5_rotationsOfAllFiles 16 = .ok (.getfield 295, 3) := by decide +kernel
theorem dX5_rotationsOfAllFiles_19 : decode cX5_rotationsOfAllFiles 19 = .ok (.iadd, 1) := by decide +kernel
theorem dX5_rotationsOfAllFiles_20 : decode cX5_rotationsOfAllFiles 20 = .ok (.istore_n 1, 1) := by decide +kernel
theorem dX5_rotationsOfAllFiles_21 : decode cX5_rotationsOfAllFiles 21 = .ok (.iinc 2 1, 3) := by decide +kernel
theorem dX5_rotationsOfAllFiles_24 : decode cX5_rotationsOfAllFiles 24 = .ok (.goto (-20), 3) := by decide +kernel
theorem dX5_rotationsOfAllFiles_27 : decode cX5_rotationsOfAllFiles 27 = .ok (.iload_n 1, 1) := by decide +kernel
theorem dX5_rotationsOfAllFiles_28 : decode cX5_rotationsOfAllFiles 28 = .ok (.ireturn, 1) := by decide +kernel
end
section
theorem dL_draw_0 : decode cL_draw 0 = .ok (.iload_n 1, 1) := by decide +kernel
theorem dL_draw_1 : decode cL_draw 1 = .ok (.aload_n 0, 1) := by decide +kernel
theorem dL_draw_2 : decode cL_draw 2 = .ok (.arraylength, 1) := by decide +kernel
theorem dL_draw_3 : decode cL_draw 3 = .ok (.if_icmp .ge 12, 3) := by decide +kernel
theorem dL_draw_6 : decode cL_draw 6 = .ok (.aload_n 0, 1) := by decide +kernel
theorem dL_draw_7 : decode cL_draw 7 = .ok (.iload_n 1, 1) := by decide +kernel
theorem dL_draw_8 : decode cL_draw 8 = .ok (.iaload, 1) := by decide +kernel
theorem dL_draw_9 : decode cL_draw 9 = .ok (.ldc 7, 2) := by decide +kernel
theorem dL_draw_11 : decode cL_draw 11 = .ok (.iand, 1) := by decide +kernel
theorem dL_draw_12 : decode cL_draw 12 = .ok (.goto 12, 3) := by decide +kernel
theorem dL_draw_15 : decode cL_draw 15 = .ok (.ldc 8, 2) := by decide +kernel
theorem dL_draw_17 : decode cL_draw 17 = .ok (.iload_n 1, 1) := by decide +kernel
theorem dL_draw_18 : decode cL_draw 18 = .ok (.iconst 2, 1) := by decide +kernel
theorem dL_draw_19 : decode cL_draw 19 = .ok (.iadd, 1) := by decide +kernel
theorem dL_draw_20 : decode cL_draw 20 = .ok (.imul, 1) := by decide +kernel
theorem dL_draw_21 : decode cL_draw 21 = .ok (.ldc 9, 2) := by decide +kernel
theorem dL_draw_23 : decode cL_draw 23 = .ok (.irem, 1) := by decide +kernel
theorem dL_draw_24 : decode cL_draw 24 = .ok (.ireturn, 1) := by decide +kernel
set_option maxRecDepth 20000 in
theorem ggL_step_X5_setRule : GoodIn wsL_step wsX5_setRule := goodIn_ca (goodIn_ca (goodIn_r _ [5, 6, 7, 8, 9, 10, 11, 12, 4, 13, 14, 15, 16, 17, 18, 19, 20, 21, 22, 23, 24, 25, 26, 27, 28, 29, 30, 31, 32, 354, 355, 356, 357, 358, 359, 360, 361, 362, 363, 364, 365, 366, 367] (by decide +kernel) (by decide +kernel)) (goodIn_sub (fun _ h => List.mem_cons_of_mem _ (List.mem_append_left _ (List.mem_append_left _ (List.mem_append_right _ h)))) (by decide +kernel))) (goodIn_sub (fun _ h => List.mem_cons_of_mem _ (List.mem_append_left _ (List.mem_append_right _ h))) (by decide +kernel))
set_option maxRecDepth 20000 in
theorem gL_step_X5_setRule : GoodIn wsL_step (wsV RL 10 RX5 yX5_setRule wsX5_setRule) := goodIn_app (goodIn_of _ (by decide +kernel)) ggL_step_X5_setRule
set_option maxRecDepth 20000 in
theorem ggL_step_X5_setRate : GoodIn wsL_step wsX5_setRate := goodIn_ca (goodIn_r _ [36, 8, 9, 37, 38, 39, 15, 16, 4, 17, 40, 41, 42, 43, 44, 45, 354, 355, 356, 357, 358, 359, 360, 361, 362, 368, 369, 370, 371, 372, 373, 374, 375, 376] (by decide +kernel) (by decide +kernel)) (goodIn_sub (fun _ h => List.mem_cons_of_mem _ (List.mem_append_left _ (List.mem_append_right _ h))) (by decide +kernel))
set_option maxRecDepth 20000 in
theorem gL_step_X5_setRate : GoodIn wsL_step (wsV RL 16 RX5 yX5_setRate wsX5_setRate) := goodIn_app (goodIn_of _ (by decide +kernel)) ggL_step_X5_setRate
set_option maxRecDepth 20000 in
theorem ggL_step_X5_setFold : GoodIn wsL_step wsX5_setFold := goodIn_ca (goodIn_r _ [49, 8, 9, 50, 15, 16, 4, 17, 354, 355, 356, 357, 358, 359, 360, 361, 362] (by decide +kernel) (by decide +kernel)) (goodIn_sub (fun _ h => List.mem_cons_of_mem _ (List.mem_append_left _ (List.mem_append_right _ h))) (by decide +kernel))
set_option maxRecDepth 20000 in
theorem gL_step_X5_setFold : GoodIn wsL_step (wsV RL 20 RX5 yX5_setFold wsX5_setFold) := goodIn_app (goodIn_of _ (by decide +kernel)) ggL_step_X5_setFold
set_option maxRecDepth 20000 in
theorem ggL_step_X5_setFile : GoodIn wsL_step wsX5_setFile := goodIn_ca (goodIn_ca (goodIn_r _ [54, 8, 9, 55, 56, 57, 58, 4, 59, 6, 7, 60, 15, 16, 17, 61, 62, 63, 64, 65, 66, 67, 68, 69, 377, 378, 379, 380, 381, 382, 383, 384, 385, 386, 354, 355, 356, 357, 358, 359, 360, 361, 362] (by decide +kernel) (by decide +kernel)) (goodIn_sub (fun _ h => List.mem_cons_of_mem _ (List.mem_append_left _ (List.mem_append_right _ h))) (by decide +kernel))) (goodIn_sub (fun _ h => List.mem_cons_of_mem _ (List.mem_append_left _ (List.mem_append_left _ (List.mem_append_right _ h)))) (by decide +kernel))
set_option maxRecDepth 20000 in
theorem gL_step_X5_setFile : GoodIn wsL_step (wsV RL 24 RX5 yX5_setFile wsX5_setFile) := goodIn_app (goodIn_of _ (by decide +kernel)) ggL_step_X5_setFile
set_option maxRecDepth 20000 in
theorem ggL_step_X5_size : GoodIn wsL_step wsX5_size := goodIn_ca (goodIn_r _ [73, 55, 56, 57, 58, 4, 59, 6, 7, 60, 377, 378, 379, 380, 381, 382, 383, 384, 385, 386, 354, 355, 356, 357, 358, 359, 360, 361, 362] (by decide +kernel) (by decide +kernel)) (goodIn_sub (fun _ h => List.mem_cons_of_mem _ (List.mem_append_left _ (List.mem_append_left _ (List.mem_append_right _ h)))) (by decide +kernel))
set_option maxRecDepth 20000 in
theorem gL_step_X5_size : GoodIn wsL_step (wsV RL 28 RX5 yX5_size wsX5_size) := goodIn_app (goodIn_of _ (by decide +kernel)) ggL_step_X5_size
set_option maxRecDepth 20000 in
theorem ggL_step_X5_generations : GoodIn wsL_step wsX5_generations := goodIn_ca (goodIn_r _ [77, 78, 56, 57, 58, 4, 59, 6, 7, 60, 377, 378, 379, 380, 381, 382, 383, 384, 385, 386, 354, 355, 356, 357, 358, 359, 360, 361, 362] (by decide +kernel) (by decide +kernel)) (goodIn_sub (fun _ h => List.mem_cons_of_mem _ (List.mem_append_left _ (List.mem_append_left _ (List.mem_append_right _ h)))) (by decide +kernel))
set_option maxRecDepth 20000 in
theorem gL_step_X5_generations : GoodIn wsL_step (wsV RL 31 RX5 yX5_generations wsX5_generations) := goodIn_app (goodIn_of _ (by decide +kernel)) ggL_step_X5_generations
set_option maxRecDepth 20000 in
theorem ggL_step_L_passes : GoodIn wsL_step wsL_passes := goodIn_ca (goodIn_ca (goodIn_r _ [82, 83, 84, 85, 4, 86, 8, 9, 15, 16, 17, 87, 88, 89, 90, 60, 91, 92, 93, 94, 95, 96, 38, 97, 98, 99, 100, 39, 37, 101, 102, 103, 43, 104, 45, 105, 106, 107, 108, 109, 110, 111, 112, 113, 114, 50, 115, 116, 117, 118, 119, 120, 121, 122, 123, 124, 125, 14, 126, 127, 128, 129, 130, 21, 131, 23, 24, 25, 26, 132, 133, 134, 64, 135, 136, 66, 137, 138, 139, 140, 141, 142, 143, 144, 145, 146, 147, 148, 149, 69, 68, 150, 151, 152, 153, 154, 155, 156, 157, 158, 159, 160, 161, 162, 163, 164, 165, 166, 67, 167, 168, 169, 170, 171, 172, 173, 174, 175, 176, 177, 178, 179, 6, 7, 180, 181, 182, 183, 184, 354, 355, 356, 357, 358, 359, 360, 361, 362, 377, 378, 379, 380, 381, 382, 383, 384, 385, 386, 368, 369, 370, 371, 372, 373, 374, 375, 376, 363, 364, 365, 366, 367, 387, 388, 389, 390, 391, 392] (by decide +kernel) (by decide +kernel)) (goodIn_sub (fun _ h => List.mem_cons_of_mem _ (List.mem_append_left _ (List.mem_append_right _ h))) (by decide +kernel))) (goodIn_sub (fun _ h => List.mem_cons_of_mem _ (List.mem_append_left _ (List.mem_append_left _ (List.mem_append_right _ h)))) (by decide +kernel))
set_option maxRecDepth 20000 in
theorem gL_step_L_passes : GoodIn wsL_step (va_wsS RL 34 yL_passes wsL_passes) := goodIn_app (goodIn_of _ (by decide +kernel)) ggL_step_L_passes
set_option maxRecDepth 20000 in
theorem ggL_step_X5_lines : GoodIn wsL_step wsX5_lines := goodIn_ca (goodIn_r _ [188, 6, 7, 56, 57, 58, 4, 59, 60, 189, 190, 191, 64, 192, 69, 193, 194, 195, 196, 138, 197, 198, 199, 200, 144, 354, 355, 356, 357, 358, 359, 360, 361, 362, 377, 378, 379, 380, 381, 382, 383, 384, 385, 386] (by decide +kernel) (by decide +kernel)) (goodIn_sub (fun _ h => List.mem_cons_of_mem _ (List.mem_append_left _ (List.mem_append_left _ (List.mem_append_right _ h)))) (by decide +kernel))
set_option maxRecDepth 20000 in
theorem gL_step_X5_lines : GoodIn wsL_step (wsV RL 40 RX5 yX5_lines wsX5_lines) := goodIn_app (goodIn_of _ (by decide +kernel)) ggL_step_X5_lines
set_option maxRecDepth 20000 in
theorem ggL_step_X5_rotate : GoodIn wsL_step wsX5_rotate := goodIn_ca (goodIn_ca (goodIn_r _ [204, 205, 206, 78, 56, 57, 58, 4, 59, 6, 7, 60, 207, 141, 142, 64, 143, 138, 144, 167, 146, 147, 148, 136, 149, 69, 68, 377, 378, 379, 380, 381, 382, 383, 384, 385, 386, 354, 355, 356, 357, 358, 359, 360, 361, 362] (by decide +kernel) (by decide +kernel)) (goodIn_sub (fun _ h => List.mem_cons_of_mem _ (List.mem_append_right _ h)) (by decide +kernel))) (goodIn_sub (fun _ h => List.mem_cons_of_mem _ (List.mem_append_left _ (List.mem_append_left _ (List.mem_append_right _ h)))) (by decide +kernel))
set_option maxRecDepth 20000 in
theorem gL_step_X5_rotate : GoodIn wsL_step (wsV RL 43 RX5 yX5_rotate wsX5_rotate) := goodIn_app (goodIn_of _ (by decide +kernel)) ggL_step_X5_rotate
set_option maxRecDepth 20000 in
theorem ggL_step_L_forwards : GoodIn wsL_step wsL_forwards := goodIn_ca (goodIn_r _ [210, 211, 212, 213, 4, 214, 127, 215, 216, 217, 153, 218, 155, 219, 220, 221, 222, 223, 224, 225, 226, 227, 156, 228, 229, 230, 231, 205, 206, 232, 233, 234, 235, 236, 237, 238, 239, 240, 241, 242, 243, 244, 245, 246, 247, 248, 249, 250, 251, 252, 253, 254, 255, 256, 257, 258, 157, 259, 260, 261, 262, 263, 264, 265, 266, 267, 268, 269, 270, 271, 272, 354, 355, 356, 357, 358, 359, 360, 361, 362, 387, 388, 389, 390, 391, 392] (by decide +kernel) (by decide +kernel)) (goodIn_sub (fun _ h => List.mem_cons_of_mem _ (List.mem_append_right _ h)) (by decide +kernel))
set_option maxRecDepth 20000 in
theorem gL_step_L_forwards : GoodIn wsL_step (va_wsS RL 46 yL_forwards wsL_forwards) := goodIn_app (goodIn_of _ (by decide +kernel)) ggL_step_L_forwards
set_option maxRecDepth 20000 in
theorem ggL_step_L_comes : GoodIn wsL_step wsL_comes := goodIn_ca (goodIn_ca (goodIn_ca (goodIn_r _ [275, 180, 181, 182, 4, 183, 184, 176, 177, 178, 179, 6, 7, 39, 172, 173, 174, 175, 113, 276, 277, 278, 279, 280, 281, 282, 283, 284, 8, 9, 205, 206, 285, 50, 96, 286, 15, 16, 17, 287, 288, 289, 290, 291, 292, 293, 294, 295, 43, 296, 297, 298, 299, 300, 301, 302, 303, 304, 305, 306, 307, 308, 309, 310, 311, 312, 115, 116, 117, 118, 119, 120, 121, 122, 123, 124, 125, 14, 126, 60, 127, 128, 129, 130, 21, 131, 23, 24, 25, 26, 132, 133, 134, 64, 135, 136, 66, 137, 138, 139, 140, 141, 142, 143, 144, 145, 146, 147, 148, 149, 69, 68, 150, 151, 152, 153, 154, 155, 156, 157, 158, 313, 314, 315, 316, 317, 318, 319, 320, 321, 322, 323, 324, 325, 326, 327, 328, 329, 330, 331, 332, 333, 334, 335, 336, 337, 338, 339, 340, 341, 342, 343, 344, 345, 185, 186, 187, 188, 56, 57, 58, 59, 189, 190, 191, 192, 193, 194, 195, 196, 197, 198, 199, 200, 346, 347, 348, 349, 350, 351, 352, 353, 368, 369, 370, 371, 372, 373, 374, 375, 376, 354, 355, 356, 357, 358, 359, 360, 361, 362, 393, 394, 395, 363, 364, 365, 366, 367, 377, 378, 379, 380, 381, 382, 383, 384, 385, 386, 387, 388, 389, 390, 391, 392] (by decide +kernel) (by decide +kernel)) (goodIn_sub (fun _ h => List.mem_cons_of_mem _ (List.mem_append_left _ (List.mem_append_left _ (List.mem_append_right _ h)))) (by decide +kernel))) (goodIn_sub (fun _ h => List.mem_cons_of_mem _ (List.mem_append_left _ (List.mem_append_right _ h))) (by decide +kernel))) (goodIn_sub (fun _ h => List.mem_cons_of_mem _ (List.mem_append_right _ h)) (by decide +kernel))
set_option maxRecDepth 20000 in
theorem gL_step_L_comes : GoodIn wsL_step (va_wsS RL 49 yL_comes wsL_comes) := goodIn_app (goodIn_of _ (by decide +kernel)) ggL_step_L_comes
theorem dL_step_0 : decode cL_step 0 = .ok (.iload_n 3, 1) := by decide +kernel
theorem dL_step_1 : decode cL_step 1 = .ok (.bipush 12, 2) := by decide +kernel
theorem dL_step_3 : decode cL_step 3 = .ok (.irem, 1) := by decide +kernel
theorem dL_step_4 : decode cL_step 4 = .ok (.tableswitch 444 0 6 #[44, 94, 164, 206, 329, 354, 436], 44) := by decide +kernel
theorem dL_step_48 : decode cL_step 48 = .ok (.aload_n 0, 1) := by decide +kernel
theorem dL_step_49 : decode cL_step 49 = .ok (.iload 4, 2) := by decide +kernel
theorem dL_step_51 : decode cL_step 51 = .ok (.bipush 6, 2) := by decide +kernel
theorem dL_step_53 : decode cL_step 53 = .ok (.irem, 1) := by decide +kernel
theorem dL_step_54 : decode cL_step 54 = .ok (.iload 4, 2) := by decide +kernel
theorem dL_step_56 : decode cL_step 56 = .ok (.bipush 6, 2) := by decide +kernel
theorem dL_step_58 : decode cL_step 58 = .ok (.idiv, 1) := by decide +kernel
theorem dL_step_59 : decode cL_step 59 = .ok (.sipush 256, 3) := by decide +kernel
theorem dL_step_62 : decode cL_step 62 = .ok (.irem, 1) := by decide +kernel
theorem dL_step_63 : decode cL_step 63 = .ok (.iload 5, 2) := by decide +kernel
theorem dL_step_65 : decode cL_step 65 = .ok (.bipush 8, 2) := by decide +kernel
theorem dL_step_67 : decode cL_step 67 = .ok (.irem, 1) := by decide +kernel
theorem dL_step_68 : decode cL_step 68 = .ok (.iload 5, 2) := by decide +kernel
theorem dL_step_70 : decode cL_step 70 = .ok (.bipush 8, 2) := by decide +kernel
theorem dL_step_72 : decode cL_step 72 = .ok (.idiv, 1) := by decide +kernel
theorem dL_step_73 : decode cL_step 73 = .ok (.bipush 7, 2) := by decide +kernel
theorem dL_step_75 : decode cL_step 75 = .ok (.irem, 1) := by decide +kernel
theorem dL_step_76 : decode cL_step 76 = .ok (.iconst 1, 1) := by decide +kernel
theorem dL_step_77 : decode cL_step 77 = .ok (.isub, 1) := by decide +kernel
theorem dL_step_78 : decode cL_step 78 = .ok (.iload 5, 2) := by decide +kernel
theorem dL_step_80 : decode cL_step 80 = .ok (.bipush 56, 2) := by decide +kernel
theorem dL_step_82 : decode cL_step 82 = .ok (.idiv, 1) := by decide +kernel
theorem dL_step_83 : decode cL_step 83 = .ok (.iconst 5, 1) := by decide +kernel
theorem dL_step_84 : decode cL_step 84 = .ok (.irem, 1) := by decide +kernel
theorem dL_step_85 : decode cL_step 85 = .ok (.invokevirtual 10, 3) := by decide +kernel
theorem dL_step_88 : decode cL_step 88 = .ok (.iconst 1, 1) := by decide +kernel
theorem dL_step_89 : decode cL_step 89 = .ok (.if_icmp .lt 7, 3) := by decide +kernel
theorem dL_step_92 : decode cL_step 92 = .ok (.iconst 1, 1) := by decide +kernel
theorem dL_step_93 : decode cL_step 93 = .ok (.goto 4, 3) := by decide +kernel
theorem dL_step_96 : decode cL_step 96 = .ok (.iconst 0, 1) := by decide +kernel
theorem dL_step_97 : decode cL_step 97 = .ok (.ireturn, 1) := by decide +kernel
theorem dL_step_98 : decode cL_step 98 = .ok (.aload_n 2, 1) := by decide +kernel
theorem dL_step_99 : decode cL_step 99 = .ok (.iconst 2, 1) := by decide +kernel
theorem dL_step_100 : decode cL_step 100 = .ok (.iaload, 1) := by decide +kernel
theorem dL_step_101 : decode cL_step 101 = .ok (.istore 6, 2) := by decide +kernel
theorem dL_step_103 : decode cL_step 103 = .ok (.aload_n 2, 1) := by decide +kernel
theorem dL_step_104 : decode cL_step 104 = .ok (.iconst 2, 1) := by decide +kernel
theorem dL_step_105 : decode cL_step 105 = .ok (.iconst 1, 1) := by decide +kernel
theorem dL_step_106 : decode cL_step 106 = .ok (.iload 4, 2) := by decide +kernel
theorem dL_step_108 : decode cL_step 108 = .ok (.iload 5, 2) := by decide +kernel
theorem dL_step_110 : decode cL_step 110 = .ok (.iconst 2, 1) := by decide +kernel
theorem dL_step_111 : decode cL_step 111 = .ok (.irem, 1) := by decide +kernel
theorem dL_step_112 : decode cL_step 112 = .ok (.ifCond .ne 8, 3) := by decide +kernel
theorem dL_step_115 : decode cL_step 115 = .ok (.bipush 6, 2) := by decide +kernel
theorem dL_step_117 : decode cL_step 117 = .ok (.goto 5, 3) := by decide +kernel
theorem dL_step_120 : decode cL_step 120 = .ok (.bipush 50, 2) := by decide +kernel
theorem dL_step_122 : decode cL_step 122 = .ok (.irem, 1) := by decide +kernel
theorem dL_step_123 : decode cL_step 123 = .ok (.iadd, 1) := by decide +kernel
theorem dL_step_124 : decode cL_step 124 = .ok (.iastore, 1) := by decide +kernel
theorem dL_step_125 : decode cL_step 125 = .ok (.aload_n 2, 1) := by decide +kernel
theorem dL_step_126 : decode cL_step 126 = .ok (.iconst 3, 1) := by decide +kernel
theorem dL_step_127 : decode cL_step 127 = .ok (.iconst 1, 1) := by decide +kernel
theorem dL_step_128 : decode cL_step 128 = .ok (.iload 5, 2) := by decide +kernel
theorem dL_step_130 : decode cL_step 130 = .ok (.iload 4, 2) := by decide +kernel
theorem dL_step_132 : decode cL_step 132 = .ok (.iconst 2, 1) := by decide +kernel
theorem dL_step_133 : decode cL_step 133 = .ok (.irem, 1) := by decide +kernel
theorem dL_step_134 : decode cL_step 134 = .ok (.ifCond .ne 8, 3) := by decide +kernel
theorem dL_step_137 : decode cL_step 137 = .ok (.bipush 60, 2) := by decide +kernel
theorem dL_step_139 : decode cL_step 139 = .ok (.goto 5, 3) := by decide +kernel
theorem dL_step_142 : decode cL_step 142 = .ok (.bipush 7, 2) := by decide +kernel
theorem dL_step_144 : decode cL_step 144 = .ok (.irem, 1) := by decide +kernel
theorem dL_step_145 : decode cL_step 145 = .ok (.iadd, 1) := by decide +kernel
theorem dL_step_146 : decode cL_step 146 = .ok (.iastore, 1) := by decide +kernel
theorem dL_step_147 : decode cL_step 147 = .ok (.aload_n 0, 1) := by decide +kernel
theorem dL_step_148 : decode cL_step 148 = .ok (.aload_n 2, 1) := by decide +kernel
theorem dL_step_149 : decode cL_step 149 = .ok (.iconst 2, 1) := by decide +kernel
theorem dL_step_150 : decode cL_step 150 = .ok (.iaload, 1) := by decide +kernel
theorem dL_step_151 : decode cL_step 151 = .ok (.aload_n 2, 1) := by decide +kernel
theorem dL_step_152 : decode cL_step 152 = .ok (.iconst 3, 1) := by decide +kernel
theorem dL_step_153 : decode cL_step 153 = .ok (.iaload, 1) := by decide +kernel
theorem dL_step_154 : decode cL_step 154 = .ok (.invokevirtual 16, 3) := by decide +kernel
theorem dL_step_157 : decode cL_step 157 = .ok (.iload 6, 2) := by decide +kernel
theorem dL_step_159 : decode cL_step 159 = .ok (.if_icmp .ne 7, 3) := by decide +kernel
theorem dL_step_162 : decode cL_step 162 = .ok (.iconst 1, 1) := by decide +kernel
theorem dL_step_163 : decode cL_step 163 = .ok (.goto 4, 3) := by decide +kernel
theorem dL_step_166 : decode cL_step 166 = .ok (.iconst 0, 1) := by decide +kernel
theorem dL_step_167 : decode cL_step 167 = .ok (.ireturn, 1) := by decide +kernel
theorem dL_step_168 : decode cL_step 168 = .ok (.aload_n 2, 1) := by decide +kernel
theorem dL_step_169 : decode cL_step 169 = .ok (.iconst 4, 1) := by decide +kernel
theorem dL_step_170 : decode cL_step 170 = .ok (.iaload, 1) := by decide +kernel
theorem dL_step_171 : decode cL_step 171 = .ok (.istore 7, 2) := by decide +kernel
theorem dL_step_173 : decode cL_step 173 = .ok (.aload_n 2, 1) := by decide +kernel
theorem dL_step_174 : decode cL_step 174 = .ok (.iconst 4, 1) := by decide +kernel
theorem dL_step_175 : decode cL_step 175 = .ok (.iload 5, 2) := by decide +kernel
theorem dL_step_177 : decode cL_step 177 = .ok (.iconst 4, 1) := by decide +kernel
theorem dL_step_178 : decode cL_step 178 = .ok (.irem, 1) := by decide +kernel
theorem dL_step_179 : decode cL_step 179 = .ok (.ifCond .ne 7, 3) := by decide +kernel
theorem dL_step_182 : decode cL_step 182 = .ok (.iconst 0, 1) := by decide +kernel
theorem dL_step_183 : decode cL_step 183 = .ok (.goto 8, 3) := by decide +kernel
theorem dL_step_186 : decode cL_step 186 = .ok (.iload 5, 2) := by decide +kernel
theorem dL_step_188 : decode cL_step 188 = .ok (.bipush 101, 2) := by decide +kernel
theorem dL_step_190 : decode cL_step 190 = .ok (.irem, 1) := by decide +kernel
theorem dL_step_191 : decode cL_step 191 = .ok (.iastore, 1) := by decide +kernel
theorem dL_step_192 : decode cL_step 192 = .ok (.aload_n 0, 1) := by decide +kernel
theorem dL_step_193 : decode cL_step 193 = .ok (.aload_n 2, 1) := by decide +kernel
theorem dL_step_194 : decode cL_step 194 = .ok (.iconst 4, 1) := by decide +kernel
theorem dL_step_195 : decode cL_step 195 = .ok (.iaload, 1) := by decide +kernel
theorem dL_step_196 : decode cL_step 196 = .ok (.invokevirtual 20, 3) := by decide +kernel
theorem dL_step_199 : decode cL_step 199 = .ok (.iload 7, 2) := by decide +kernel
theorem dL_step_201 : decode cL_step 201 = .ok (.if_icmp .ne 7, 3) := by decide +kernel
theorem dL_step_204 : decode cL_step 204 = .ok (.iconst 1, 1) := by decide +kernel
theorem dL_step_205 : decode cL_step 205 = .ok (.goto 4, 3) := by decide +kernel
theorem dL_step_208 : decode cL_step 208 = .ok (.iconst 0, 1) := by decide +kernel
theorem dL_step_209 : decode cL_step 209 = .ok (.ireturn, 1) := by decide +kernel
theorem dL_step_210 : decode cL_step 210 = .ok (.iload 4, 2) := by decide +kernel
theorem dL_step_212 : decode cL_step 212 = .ok (.iconst 4, 1) := by decide +kernel
theorem dL_step_213 : decode cL_step 213 = .ok (.irem, 1) := by decide +kernel
theorem dL_step_214 : decode cL_step 214 = .ok (.istore 8, 2) := by decide +kernel
theorem dL_step_216 : decode cL_step 216 = .ok (.aload_n 2, 1) := by decide +kernel
theorem dL_step_217 : decode cL_step 217 = .ok (.bipush 6, 2) := by decide +kernel
theorem dL_step_219 : decode cL_step 219 = .ok (.iload 8, 2) := by decide +kernel
theorem dL_step_221 : decode cL_step 221 = .ok (.iadd, 1) := by decide +kernel
theorem dL_step_222 : decode cL_step 222 = .ok (.iload 5, 2) := by decide +kernel
theorem dL_step_224 : decode cL_step 224 = .ok (.bipush 6, 2) := by decide +kernel
theorem dL_step_226 : decode cL_step 226 = .ok (.irem, 1) := by decide +kernel
theorem dL_step_227 : decode cL_step 227 = .ok (.iastore, 1) := by decide +kernel
theorem dL_step_228 : decode cL_step 228 = .ok (.aload_n 2, 1) := by decide +kernel
theorem dL_step_229 : decode cL_step 229 = .ok (.bipush 10, 2) := by decide +kernel
theorem dL_step_231 : decode cL_step 231 = .ok (.iload 8, 2) := by decide +kernel
theorem dL_step_233 : decode cL_step 233 = .ok (.iadd, 1) := by decide +kernel
theorem dL_step_234 : decode cL_step 234 = .ok (.sipush 200, 3) := by decide +kernel
theorem dL_step_237 : decode cL_step 237 = .ok (.iload 5, 2) := by decide +kernel
theorem dL_step_239 : decode cL_step 239 = .ok (.bipush 6, 2) := by decide +kernel
theorem dL_step_241 : decode cL_step 241 = .ok (.idiv, 1) := by decide +kernel
theorem dL_step_242 : decode cL_step 242 = .ok (.iload 4, 2) := by decide +kernel
theorem dL_step_244 : decode cL_step 244 = .ok (.iconst 3, 1) := by decide +kernel
theorem dL_step_245 : decode cL_step 245 = .ok (.irem, 1) := by decide +kernel
theorem dL_step_246 : decode cL_step 246 = .ok (.ifCond .ne 9, 3) := by decide +kernel
theorem dL_step_249 : decode cL_step 249 = .ok (.sipush 4801, 3) := by decide +kernel
theorem dL_step_252 : decode cL_step 252 = .ok (.goto 6, 3) := by decide +kernel
theorem dL_step_255 : decode cL_step 255 = .ok (.sipush 200, 3) := by decide +kernel
theorem dL_step_258 : decode cL_step 258 = .ok (.irem, 1) := by decide +kernel
theorem dL_step_259 : decode cL_step 259 = .ok (.iadd, 1) := by decide +kernel
theorem dL_step_260 : decode cL_step 260 = .ok (.iastore, 1) := by decide +kernel
theorem dL_step_261 : decode cL_step 261 = .ok (.aload_n 0, 1) := by decide +kernel
theorem dL_step_262 : decode cL_step 262 = .ok (.iload 8, 2) := by decide +kernel
theorem dL_step_264 : decode cL_step 264 = .ok (.aload_n 2, 1) := by decide +kernel
theorem dL_step_265 : decode cL_step 265 = .ok (.bipush 10, 2) := by decide +kernel
theorem dL_step_267 : decode cL_step 267 = .ok (.iload 8, 2) := by decide +kernel
theorem dL_step_269 : decode cL_step 269 = .ok (.iadd, 1) := by decide +kernel
theorem dL_step_270 : decode cL_step 270 = .ok (.iaload, 1) := by decide +kernel
theorem dL_step_271 : decode cL_step 271 = .ok (.iload 4, 2) := by decide +kernel
theorem dL_step_273 : decode cL_step 273 = .ok (.iconst 4, 1) := by decide +kernel
theorem dL_step_274 : decode cL_step 274 = .ok (.idiv, 1) := by decide +kernel
theorem dL_step_275 : decode cL_step 275 = .ok (.iconst 3, 1) := by decide +kernel
theorem dL_step_276 : decode cL_step 276 = .ok (.irem, 1) := by decide +kernel
theorem dL_step_277 : decode cL_step 277 = .ok (.ifCond .ne 16, 3) := by decide +kernel
theorem dL_step_280 : decode cL_step 280 = .ok (.iconst 1, 1) := by decide +kernel
theorem dL_step_281 : decode cL_step 281 = .ok (.iload 4, 2) := by decide +kernel
theorem dL_step_283 : decode cL_step 283 = .ok (.bipush 12, 2) := by decide +kernel
theorem dL_step_285 : decode cL_step 285 = .ok (.idiv, 1) := by decide +kernel
theorem dL_step_286 : decode cL_step 286 = .ok (.bipush 60, 2) := by decide +kernel
theorem dL_step_288 : decode cL_step 288 = .ok (.irem, 1) := by decide +kernel
theorem dL_step_289 : decode cL_step 289 = .ok (.iadd, 1) := by decide +kernel
theorem dL_step_290 : decode cL_step 290 = .ok (.goto 4, 3) := by decide +kernel
theorem dL_step_293 : decode cL_step 293 = .ok (.iconst 0, 1) := by decide +kernel
theorem dL_step_294 : decode cL_step 294 = .ok (.iload 5, 2) := by decide +kernel
theorem dL_step_296 : decode cL_step 296 = .ok (.bipush 6, 2) := by decide +kernel
theorem dL_step_298 : decode cL_step 298 = .ok (.irem, 1) := by decide +kernel
theorem dL_step_299 : decode cL_step 299 = .ok (.invokevirtual 24, 3) := by decide +kernel
theorem dL_step_302 : decode cL_step 302 = .ok (.aload_n 0, 1) := by decide +kernel
theorem dL_step_303 : decode cL_step 303 = .ok (.iload 8, 2) := by decide +kernel
theorem dL_step_305 : decode cL_step 305 = .ok (.invokevirtual 28, 3) := by decide +kernel
theorem dL_step_308 : decode cL_step 308 = .ok (.if_icmp .ne 23, 3) := by decide +kernel
theorem dL_step_311 : decode cL_step 311 = .ok (.aload_n 0, 1) := by decide +kernel
theorem dL_step_312 : decode cL_step 312 = .ok (.iload 8, 2) := by decide +kernel
theorem dL_step_314 : decode cL_step 314 = .ok (.invokevirtual 31, 3) := by decide +kernel
theorem dL_step_317 : decode cL_step 317 = .ok (.aload_n 2, 1) := by decide +kernel
theorem dL_step_318 : decode cL_step 318 = .ok (.bipush 6, 2) := by decide +kernel
theorem dL_step_320 : decode cL_step 320 = .ok (.iload 8, 2) := by decide +kernel
theorem dL_step_322 : decode cL_step 322 = .ok (.iadd, 1) := by decide +kernel
theorem dL_step_323 : decode cL_step 323 = .ok (.iaload, 1) := by decide +kernel
theorem dL_step_324 : decode cL_step 324 = .ok (.if_icmp .gt 7, 3) := by decide +kernel
theorem dL_step_327 : decode cL_step 327 = .ok (.iconst 1, 1) := by decide +kernel
theorem dL_step_328 : decode cL_step 328 = .ok (.goto 4, 3) := by decide +kernel
theorem dL_step_331 : decode cL_step 331 = .ok (.iconst 0, 1) := by decide +kernel
theorem dL_step_332 : decode cL_step 332 = .ok (.ireturn, 1) := by decide +kernel
theorem dL_step_333 : decode cL_step 333 = .ok (.aload_n 0, 1) := by decide +kernel
theorem dL_step_334 : decode cL_step 334 = .ok (.aload_n 2, 1) := by decide +kernel
theorem dL_step_335 : decode cL_step 335 = .ok (.iconst 1, 1) := by decide +kernel
theorem dL_step_336 : decode cL_step 336 = .ok (.iload 5, 2) := by decide +kernel
theorem dL_step_338 : decode cL_step 338 = .ok (.iload 4, 2) := by decide +kernel
theorem dL_step_340 : decode cL_step 340 = .ok (.iconst 4, 1) := by decide +kernel
theorem dL_step_341 : decode cL_step 341 = .ok (.irem, 1) := by decide +kernel
theorem dL_step_342 : decode cL_step 342 = .ok (.ifCond .ne 8, 3) := by decide +kernel
theorem dL_step_345 : decode cL_step 345 = .ok (.bipush 100, 2) := by decide +kernel
theorem dL_step_347 : decode cL_step 347 = .ok (.goto 5, 3) := by decide +kernel
theorem dL_step_350 : decode cL_step 350 = .ok (.bipush 9, 2) := by decide +kernel
theorem dL_step_352 : decode cL_step 352 = .ok (.irem, 1) := by decide +kernel
theorem dL_step_353 : decode cL_step 353 = .ok (.iadd, 1) := by decide +kernel
theorem dL_step_354 : decode cL_step 354 = .ok (.invokestatic 34, 3) := by decide +kernel
theorem dL_step_357 : decode cL_step 357 = .ok (.ireturn, 1) := by decide +kernel
theorem dL_step_358 : decode cL_step 358 = .ok (.iload 4, 2) := by decide +kernel
theorem dL_step_360 : decode cL_step 360 = .ok (.iconst 4, 1) := by decide +kernel
theorem dL_step_361 : decode cL_step 361 = .ok (.irem, 1) := by decide +kernel
theorem dL_step_362 : decode cL_step 362 = .ok (.istore 9, 2) := by decide +kernel
theorem dL_step_364 : decode cL_step 364 = .ok (.aload_n 0, 1) := by decide +kernel
theorem dL_step_365 : decode cL_step 365 = .ok (.iload 9, 2) := by decide +kernel
theorem dL_step_367 : decode cL_step 367 = .ok (.iconst (-1), 1) := by decide +kernel
theorem dL_step_368 : decode cL_step 368 = .ok (.invokevirtual 40, 3) := by decide +kernel
theorem dL_step_371 : decode cL_step 371 = .ok (.istore 10, 2) := by decide +kernel
theorem dL_step_373 : decode cL_step 373 = .ok (.iload 10, 2) := by decide +kernel
theorem dL_step_375 : decode cL_step 375 = .ok (.ifCond .eq 59, 3) := by decide +kernel
theorem dL_step_378 : decode cL_step 378 = .ok (.aload_n 0, 1) := by decide +kernel
theorem dL_step_379 : decode cL_step 379 = .ok (.iload 9, 2) := by decide +kernel
theorem dL_step_381 : decode cL_step 381 = .ok (.invokevirtual 43, 3) := by decide +kernel
theorem dL_step_384 : decode cL_step 384 = .ok (.aload_n 0, 1) := by decide +kernel
theorem dL_step_385 : decode cL_step 385 = .ok (.iload 9, 2) := by decide +kernel
theorem dL_step_387 : decode cL_step 387 = .ok (.invokevirtual 31, 3) := by decide +kernel
theorem dL_step_390 : decode cL_step 390 = .ok (.if_icmp .ne 48, 3) := by decide +kernel
theorem dL_step_393 : decode cL_step 393 = .ok (.aload_n 0, 1) := by decide +kernel
theorem dL_step_394 : decode cL_step 394 = .ok (.iload 9, 2) := by decide +kernel
theorem dL_step_396 : decode cL_step 396 = .ok (.invokevirtual 28, 3) := by decide +kernel
theorem dL_step_399 : decode cL_step 399 = .ok (.ifCond .ne 39, 3) := by decide +kernel
theorem dL_step_402 : decode cL_step 402 = .ok (.aload_n 0, 1) := by decide +kernel
theorem dL_step_403 : decode cL_step 403 = .ok (.iload 9, 2) := by decide +kernel
theorem dL_step_405 : decode cL_step 405 = .ok (.iconst (-1), 1) := by decide +kernel
theorem dL_step_406 : decode cL_step 406 = .ok (.invokevirtual 40, 3) := by decide +kernel
theorem dL_step_409 : decode cL_step 409 = .ok (.ifCond .ne 29, 3) := by decide +kernel
theorem dL_step_412 : decode cL_step 412 = .ok (.aload_n 2, 1) := by decide +kernel
theorem dL_step_413 : decode cL_step 413 = .ok (.bipush 6, 2) := by decide +kernel
theorem dL_step_415 : decode cL_step 415 = .ok (.iload 9, 2) := by decide +kernel
theorem dL_step_417 : decode cL_step 417 = .ok (.iadd, 1) := by decide +kernel
theorem dL_step_418 : decode cL_step 418 = .ok (.iaload, 1) := by decide +kernel
theorem dL_step_419 : decode cL_step 419 = .ok (.ifCond .eq 15, 3) := by decide +kernel
theorem dL_step_422 : decode cL_step 422 = .ok (.aload_n 0, 1) := by decide +kernel
theorem dL_step_423 : decode cL_step 423 = .ok (.iload 9, 2) := by decide +kernel
theorem dL_step_425 : decode cL_step 425 = .ok (.iconst 0, 1) := by decide +kernel
theorem dL_step_426 : decode cL_step 426 = .ok (.invokevirtual 40, 3) := by decide +kernel
theorem dL_step_429 : decode cL_step 429 = .ok (.iload 10, 2) := by decide +kernel
theorem dL_step_431 : decode cL_step 431 = .ok (.if_icmp .ne 7, 3) := by decide +kernel
theorem dL_step_434 : decode cL_step 434 = .ok (.iconst 1, 1) := by decide +kernel
theorem dL_step_435 : decode cL_step 435 = .ok (.goto 4, 3) := by decide +kernel
theorem dL_step_438 : decode cL_step 438 = .ok (.iconst 0, 1) := by decide +kernel
theorem dL_step_439 : decode cL_step 439 = .ok (.ireturn, 1) := by decide +kernel
theorem dL_step_440 : decode cL_step 440 = .ok (.aload_n 0, 1) := by decide +kernel
theorem dL_step_441 : decode cL_step 441 = .ok (.aload_n 2, 1) := by decide +kernel
theorem dL_step_442 : decode cL_step 442 = .ok (.iload 5, 2) := by decide +kernel
theorem dL_step_444 : decode cL_step 444 = .ok (.invokestatic 46, 3) := by decide +kernel
theorem dL_step_447 : decode cL_step 447 = .ok (.ireturn, 1) := by decide +kernel
theorem dL_step_448 : decode cL_step 448 = .ok (.aload_n 2, 1) := by decide +kernel
theorem dL_step_449 : decode cL_step 449 = .ok (.iconst 0, 1) := by decide +kernel
theorem dL_step_450 : decode cL_step 450 = .ok (.iaload, 1) := by decide +kernel
theorem dL_step_451 : decode cL_step 451 = .ok (.bipush 60, 2) := by decide +kernel
theorem dL_step_453 : decode cL_step 453 = .ok (.if_icmp .eq 56, 3) := by decide +kernel
theorem dL_step_456 : decode cL_step 456 = .ok (.aload_n 0, 1) := by decide +kernel
theorem dL_step_457 : decode cL_step 457 = .ok (.aload_n 1, 1) := by decide +kernel
theorem dL_step_458 : decode cL_step 458 = .ok (.aload_n 2, 1) := by decide +kernel
theorem dL_step_459 : decode cL_step 459 = .ok (.iload 4, 2) := by decide +kernel
theorem dL_step_461 : decode cL_step 461 = .ok (.bipush 6, 2) := by decide +kernel
theorem dL_step_463 : decode cL_step 463 = .ok (.irem, 1) := by decide +kernel
theorem dL_step_464 : decode cL_step 464 = .ok (.iload 5, 2) := by decide +kernel
theorem dL_step_466 : decode cL_step 466 = .ok (.iconst 3, 1) := by decide +kernel
theorem dL_step_467 : decode cL_step 467 = .ok (.irem, 1) := by decide +kernel
theorem dL_step_468 : decode cL_step 468 = .ok (.iload 4, 2) := by decide +kernel
theorem dL_step_470 : decode cL_step 470 = .ok (.bipush 6, 2) := by decide +kernel
theorem dL_step_472 : decode cL_step 472 = .ok (.idiv, 1) := by decide +kernel
theorem dL_step_473 : decode cL_step 473 = .ok (.iconst 3, 1) := by decide +kernel
theorem dL_step_474 : decode cL_step 474 = .ok (.irem, 1) := by decide +kernel
theorem dL_step_475 : decode cL_step 475 = .ok (.iload 5, 2) := by decide +kernel
theorem dL_step_477 : decode cL_step 477 = .ok (.iconst 3, 1) := by decide +kernel
theorem dL_step_478 : decode cL_step 478 = .ok (.idiv, 1) := by decide +kernel
theorem dL_step_479 : decode cL_step 479 = .ok (.iconst 2, 1) := by decide +kernel
theorem dL_step_480 : decode cL_step 480 = .ok (.irem, 1) := by decide +kernel
theorem dL_step_481 : decode cL_step 481 = .ok (.iconst 1, 1) := by decide +kernel
theorem dL_step_482 : decode cL_step 482 = .ok (.iload 5, 2) := by decide +kernel
theorem dL_step_484 : decode cL_step 484 = .ok (.bipush 6, 2) := by decide +kernel
theorem dL_step_486 : decode cL_step 486 = .ok (.idiv, 1) := by decide +kernel
theorem dL_step_487 : decode cL_step 487 = .ok (.iload 4, 2) := by decide +kernel
theorem dL_step_489 : decode cL_step 489 = .ok (.iconst 2, 1) := by decide +kernel
theorem dL_step_490 : decode cL_step 490 = .ok (.irem, 1) := by decide +kernel
theorem dL_step_491 : decode cL_step 491 = .ok (.ifCond .ne 9, 3) := by decide +kernel
theorem dL_step_494 : decode cL_step 494 = .ok (.sipush 200, 3) := by decide +kernel
theorem dL_step_497 : decode cL_step 497 = .ok (.goto 4, 3) := by decide +kernel
theorem dL_step_500 : decode cL_step 500 = .ok (.iconst 2, 1) := by decide +kernel
theorem dL_step_501 : decode cL_step 501 = .ok (.irem, 1) := by decide +kernel
theorem dL_step_502 : decode cL_step 502 = .ok (.iadd, 1) := by decide +kernel
theorem dL_step_503 : decode cL_step 503 = .ok (.invokestatic 49, 3) := by decide +kernel
theorem dL_step_506 : decode cL_step 506 = .ok (.ifCond .eq 7, 3) := by decide +kernel
theorem dL_step_509 : decode cL_step 509 = .ok (.iconst 1, 1) := by decide +kernel
theorem dL_step_510 : decode cL_step 510 = .ok (.goto 4, 3) := by decide +kernel
theorem dL_step_513 : decode cL_step 513 = .ok (.iconst 0, 1) := by decide +kernel
theorem dL_step_514 : decode cL_step 514 = .ok (.ireturn, 1) := by decide +kernel
set_option maxRecDepth 20000 in
theorem ggL_passes_X5_pass : GoodIn wsL_passes wsX5_pass := goodIn_ca (goodIn_r _ [5, 6, 7, 8, 9, 4, 10, 11, 12, 13, 14, 15, 16, 17, 18, 19, 20, 21, 22, 23, 24, 25, 26, 27, 28, 29, 30, 31, 32, 33, 34, 35, 36, 37, 38, 39, 40, 41, 42, 43, 44, 45, 46, 47, 48, 49, 50, 51, 52, 53, 54, 55, 56, 57, 58, 59, 60, 61, 62, 63, 64, 65, 66, 67, 68, 69, 70, 71, 72, 73, 74, 75, 76, 77, 78, 79, 80, 81, 82, 83, 84, 85, 86, 87, 88, 89, 90, 91, 92, 93, 94, 95, 96, 97, 98, 99, 100, 101, 102, 103, 104, 105, 106, 107, 108, 109, 129, 130, 131, 132, 133, 134, 135, 136, 137, 138, 139, 140, 141, 142, 143, 144, 145, 146, 147, 148, 149, 150, 151, 152, 153, 154, 155, 156, 157, 158, 159, 160, 161, 162, 163, 164, 165, 166, 167] (by decide +kernel) (by decide +kernel)) (goodIn_sub (fun _ h => List.mem_cons_of_mem _ (List.mem_append_left _ (List.mem_append_right _ h))) (by decide +kernel))
set_option maxRecDepth 20000 in
theorem gL_passes_X5_pass : GoodIn wsL_passes (wsV RL 53 RX5 yX5_pass wsX5_pass) := goodIn_app (goodIn_of _ (by decide +kernel)) ggL_passes_X5_pass
set_option maxRecDepth 20000 in
theorem ggL_passes_X5_time : GoodIn wsL_passes wsX5_time := goodIn_r _ [113, 21, 129, 130, 131, 132, 133, 134, 135, 136, 137] (by decide +kernel) (by decide +kernel)
set_option maxRecDepth 20000 in
theorem gL_passes_X5_time : GoodIn wsL_passes (wsV RL 56 RX5 yX5_time wsX5_time) := goodIn_app (goodIn_of _ (by decide +kernel)) ggL_passes_X5_time
set_option maxRecDepth 20000 in
theorem ggL_passes_X5_repeats : GoodIn wsL_passes wsX5_repeats := goodIn_ca (goodIn_r _ [117, 43, 118, 119, 120, 4, 121, 122, 123, 27, 148, 149, 150, 151, 152, 153, 154, 155, 156, 129, 130, 131, 132, 133, 134, 135, 136, 137] (by decide +kernel) (by decide +kernel)) (goodIn_sub (fun _ h => List.mem_cons_of_mem _ (List.mem_append_right _ h)) (by decide +kernel))
set_option maxRecDepth 20000 in
theorem gL_passes_X5_repeats : GoodIn wsL_passes (wsV RL 60 RX5 yX5_repeats wsX5_repeats) := goodIn_app (goodIn_of _ (by decide +kernel)) ggL_passes_X5_repeats
set_option maxRecDepth 20000 in
theorem ggL_passes_X5_tokens : GoodIn wsL_passes wsX5_tokens := goodIn_ca (goodIn_r _ [127, 128, 118, 119, 120, 4, 121, 122, 123, 27, 148, 149, 150, 151, 152, 153, 154, 155, 156, 129, 130, 131, 132, 133, 134, 135, 136, 137] (by decide +kernel) (by decide +kernel)) (goodIn_sub (fun _ h => List.mem_cons_of_mem _ (List.mem_append_right _ h)) (by decide +kernel))
set_option maxRecDepth 20000 in
theorem gL_passes_X5_tokens : GoodIn wsL_passes (wsV RL 63 RX5 yX5_tokens wsX5_tokens) := goodIn_app (goodIn_of _ (by decide +kernel)) ggL_passes_X5_tokens
theorem dL_passes_0 : decode cL_passes 0 = .ok (.aload_n 1, 1) := by decide +kernel
theorem dL_passes_1 : decode cL_passes 1 = .ok (.iconst 1, 1) := by decide +kernel
theorem dL_passes_2 : decode cL_passes 2 = .ok (.dup2, 1) := by decide +kernel
theorem dL_passes_3 : decode cL_passes 3 = .ok (.iaload, 1) := by decide +kernel
theorem dL_passes_4 : decode cL_passes 4 = .ok (.iload_n 2, 1) := by decide +kernel
theorem dL_passes_5 : decode cL_passes 5 = .ok (.iadd, 1) := by decide +kernel
theorem dL_passes_6 : decode cL_passes 6 = .ok (.iastore, 1) := by decide +kernel
theorem dL_passes_7 : decode cL_passes 7 = .ok (.aload_n 0, 1) := by decide +kernel
theorem dL_passes_8 : decode cL_passes 8 = .ok (.iload_n 2, 1) := by decide +kernel
theorem dL_passes_9 : decode cL_passes 9 = .ok (.invokevirtual 53, 3) := by decide +kernel
theorem dL_passes_12 : decode cL_passes 12 = .ok (.ifCond .lt 17, 3) := by decide +kernel
theorem dL_passes_15 : decode cL_passes 15 = .ok (.aload_n 0, 1) := by decide +kernel
theorem dL_passes_16 : decode cL_passes 16 = .ok (.invokevirtual 56, 3) := by decide +kernel
theorem dL_passes_19 : decode cL_passes 19 = .ok (.aload_n 1, 1) := by decide +kernel
theorem dL_passes_20 : decode cL_passes 20 = .ok (.iconst 1, 1) := by decide +kernel
theorem dL_passes_21 : decode cL_passes 21 = .ok (.iaload, 1) := by decide +kernel
theorem dL_passes_22 : decode cL_passes 22 = .ok (.if_icmp .ne 7, 3) := by decide +kernel
theorem dL_passes_25 : decode cL_passes 25 = .ok (.iconst 1, 1) := by decide +kernel
theorem dL_passes_26 : decode cL_passes 26 = .ok (.goto 4, 3) := by decide +kernel
theorem dL_passes_29 : decode cL_passes 29 = .ok (.iconst 0, 1) := by decide +kernel
theorem dL_passes_30 : decode cL_passes 30 = .ok (.istore_n 3, 1) := by decide +kernel
theorem dL_passes_31 : decode cL_passes 31 = .ok (.iconst 0, 1) := by decide +kernel
theorem dL_passes_32 : decode cL_passes 32 = .ok (.istore 4, 2) := by decide +kernel
theorem dL_passes_34 : decode cL_passes 34 = .ok (.iload 4, 2) := by decide +kernel
theorem dL_passes_36 : decode cL_passes 36 = .ok (.bipush 6, 2) := by decide +kernel
theorem dL_passes_38 : decode cL_passes 38 = .ok (.if_icmp .ge 51, 3) := by decide +kernel
theorem dL_passes_41 : decode cL_passes 41 = .ok (.iload_n 3, 1) := by decide +kernel
theorem dL_passes_42 : decode cL_passes 42 = .ok (.ifCond .eq 39, 3) := by decide +kernel
theorem dL_passes_45 : decode cL_passes 45 = .ok (.iload_n 2, 1) := by decide +kernel
theorem dL_passes_46 : decode cL_passes 46 = .ok (.aload_n 1, 1) := by decide +kernel
theorem dL_passes_47 : decode cL_passes 47 = .ok (.iconst 4, 1) := by decide +kernel
theorem dL_passes_48 : decode cL_passes 48 = .ok (.iaload, 1) := by decide +kernel
theorem dL_passes_49 : decode cL_passes 49 = .ok (.if_icmp .lt 12, 3) := by decide +kernel
theorem dL_passes_52 : decode cL_passes 52 = .ok (.aload_n 0, 1) := by decide +kernel
theorem dL_passes_53 : decode cL_passes 53 = .ok (.iload 4, 2) := by decide +kernel
theorem dL_passes_55 : decode cL_passes 55 = .ok (.invokevirtual 60, 3) := by decide +kernel
theorem dL_passes_58 : decode cL_passes 58 = .ok (.ifCond .ne 23, 3) := by decide +kernel
theorem dL_passes_61 : decode cL_passes 61 = .ok (.iload_n 2, 1) := by decide +kernel
theorem dL_passes_62 : decode cL_passes 62 = .ok (.aload_n 1, 1) := by decide +kernel
theorem dL_passes_63 : decode cL_passes 63 = .ok (.iconst 3, 1) := by decide +kernel
theorem dL_passes_64 : decode cL_passes 64 = .ok (.iaload, 1) := by decide +kernel
theorem dL_passes_65 : decode cL_passes 65 = .ok (.if_icmp .lt 12, 3) := by decide +kernel
theorem dL_passes_68 : decode cL_passes 68 = .ok (.aload_n 0, 1) := by decide +kernel
theorem dL_passes_69 : decode cL_passes 69 = .ok (.iload 4, 2) := by decide +kernel
theorem dL_passes_71 : decode cL_passes 71 = .ok (.invokevirtual 63, 3) := by decide +kernel
theorem dL_passes_74 : decode cL_passes 74 = .ok (.ifCond .le 7, 3) := by decide +kernel
theorem dL_passes_77 : decode cL_passes 77 = .ok (.iconst 1, 1) := by decide +kernel
theorem dL_passes_78 : decode cL_passes 78 = .ok (.goto 4, 3) := by decide +kernel
theorem dL_passes_81 : decode cL_passes 81 = .ok (.iconst 0, 1) := by decide +kernel
theorem dL_passes_82 : decode cL_passes 82 = .ok (.istore_n 3, 1) := by decide +kernel
theorem dL_passes_83 : decode cL_passes 83 = .ok (.iinc 4 1, 3) := by decide +kernel
theorem dL_passes_86 : decode cL_passes 86 = .ok (.goto (-52), 3) := by decide +kernel
theorem dL_passes_89 : decode cL_passes 89 = .ok (.iload_n 3, 1) := by decide +kernel
theorem dL_passes_90 : decode cL_passes 90 = .ok (.ireturn, 1) := by decide +kernel
set_option maxRecDepth 20000 in
theorem ggL_forwards_X5_queued : GoodIn wsL_forwards wsX5_queued := goodIn_r _ [5, 6, 7, 8, 9, 10, 11, 12, 13, 71, 72, 73, 74, 75, 76, 77, 78, 79, 80, 81, 82, 83, 84, 85] (by decide +kernel) (by decide +kernel)
set_option maxRecDepth 20000 in
theorem gL_forwards_X5_queued : GoodIn wsL_forwards (wsV RL 66 RX5 yX5_queued wsX5_queued) := goodIn_app (goodIn_of _ (by decide +kernel)) ggL_forwards_X5_queued
set_option maxRecDepth 20000 in
theorem ggL_forwards_X5_inFlight : GoodIn wsL_forwards wsX5_inFlight := goodIn_r _ [17, 6, 18, 19, 20, 10, 21, 13, 22, 71, 72, 73, 74, 75, 76, 77, 78, 79, 80, 81, 82, 83, 84, 85] (by decide +kernel) (by decide +kernel)
set_option maxRecDepth 20000 in
theorem gL_forwards_X5_inFlight : GoodIn wsL_forwards (wsV RL 69 RX5 yX5_inFlight wsX5_inFlight) := goodIn_app (goodIn_of _ (by decide +kernel)) ggL_forwards_X5_inFlight
set_option maxRecDepth 20000 in
theorem ggL_forwards_X5_connect : GoodIn wsL_forwards wsX5_connect := goodIn_ca (goodIn_r _ [26, 27, 28, 6, 29, 7, 8, 9, 10, 11, 12, 13, 71, 72, 73, 74, 75, 76, 77, 78, 79, 80, 81, 82, 83, 84, 85] (by decide +kernel) (by decide +kernel)) (goodIn_sub (fun _ h => List.mem_cons_of_mem _ (List.mem_append_right _ h)) (by decide +kernel))
set_option maxRecDepth 20000 in
theorem gL_forwards_X5_connect : GoodIn wsL_forwards (wsV RL 72 RX5 yX5_connect wsX5_connect) := goodIn_app (goodIn_of _ (by decide +kernel)) ggL_forwards_X5_connect
set_option maxRecDepth 20000 in
theorem ggL_forwards_X5_disconnect : GoodIn wsL_forwards wsX5_disconnect := goodIn_ca (goodIn_r _ [33, 27, 28, 6, 29, 18, 19, 20, 10, 21, 13, 22, 34, 35, 36, 37, 38, 71, 72, 73, 74, 75, 76, 77, 78, 79, 80, 81, 82, 83, 84, 85] (by decide +kernel) (by decide +kernel)) (goodIn_sub (fun _ h => List.mem_cons_of_mem _ (List.mem_append_right _ h)) (by decide +kernel))
set_option maxRecDepth 20000 in
theorem gL_forwards_X5_disconnect : GoodIn wsL_forwards (wsV RL 75 RX5 yX5_disconnect wsX5_disconnect) := goodIn_app (goodIn_of _ (by decide +kernel)) ggL_forwards_X5_disconnect
set_option maxRecDepth 20000 in
theorem ggL_forwards_X5_acknowledged : GoodIn wsL_forwards wsX5_acknowledged := goodIn_r _ [42, 6, 43, 71, 72, 73, 74, 75, 76, 77, 78, 79, 80, 81, 82, 83, 84, 85] (by decide +kernel) (by decide +kernel)
set_option maxRecDepth 20000 in
theorem gL_forwards_X5_acknowledged : GoodIn wsL_forwards (wsV RL 78 RX5 yX5_acknowledged wsX5_acknowledged) := goodIn_app (goodIn_of _ (by decide +kernel)) ggL_forwards_X5_acknowledged
set_option maxRecDepth 20000 in
theorem ggL_forwards_X5_acknowledge : GoodIn wsL_forwards wsX5_acknowledge := goodIn_ca (goodIn_r _ [47, 27, 28, 6, 18, 19, 20, 10, 21, 13, 22, 48, 49, 50, 51, 52, 53, 54, 55, 56, 71, 72, 73, 74, 75, 76, 77, 78, 79, 80, 81, 82, 83, 84, 85] (by decide +kernel) (by decide +kernel)) (goodIn_sub (fun _ h => List.mem_cons_of_mem _ (List.mem_append_right _ h)) (by decide +kernel))
set_option maxRecDepth 20000 in
theorem gL_forwards_X5_acknowledge : GoodIn wsL_forwards (wsV RL 81 RX5 yX5_acknowledge wsX5_acknowledge) := goodIn_app (goodIn_of _ (by decide +kernel)) ggL_forwards_X5_acknowledge
set_option maxRecDepth 20000 in
theorem ggL_forwards_X5_send : GoodIn wsL_forwards wsX5_send := goodIn_ca (goodIn_r _ [60, 27, 28, 6, 61, 62, 63, 10, 64, 38, 65, 8, 9, 11, 12, 13, 66, 19, 20, 21, 22, 67, 68, 69, 70, 52, 53, 54, 55, 56, 71, 72, 73, 74, 75, 76, 77, 78, 79, 80, 81, 82, 83, 84, 85] (by decide +kernel) (by decide +kernel)) (goodIn_sub (fun _ h => List.mem_cons_of_mem _ (List.mem_append_right _ h)) (by decide +kernel))
set_option maxRecDepth 20000 in
theorem gL_forwards_X5_send : GoodIn wsL_forwards (wsV RL 84 RX5 yX5_send wsX5_send) := goodIn_app (goodIn_of _ (by decide +kernel)) ggL_forwards_X5_send
theorem dL_forwards_0 : decode cL_forwards 0 = .ok (.aload_n 0, 1) := by decide +kernel
theorem dL_forwards_1 : decode cL_forwards 1 = .ok (.invokevirtual 66, 3) := by decide +kernel
theorem dL_forwards_4 : decode cL_forwards 4 = .ok (.istore_n 3, 1) := by decide +kernel
theorem dL_forwards_5 : decode cL_forwards 5 = .ok (.aload_n 0, 1) := by decide +kernel
theorem dL_forwards_6 : decode cL_forwards 6 = .ok (.invokevirtual 69, 3) := by decide +kernel
theorem dL_forwards_9 : decode cL_forwards 9 = .ok (.istore 4, 2) := by decide +kernel
theorem dL_forwards_11 : decode cL_forwards 11 = .ok (.aload_n 1, 1) := by decide +kernel
theorem dL_forwards_12 : decode cL_forwards 12 = .ok (.iconst 5, 1) := by decide +kernel
theorem dL_forwards_13 : decode cL_forwards 13 = .ok (.iaload, 1) := by decide +kernel
theorem dL_forwards_14 : decode cL_forwards 14 = .ok (.ifCond .ne 26, 3) := by decide +kernel
theorem dL_forwards_17 : decode cL_forwards 17 = .ok (.aload_n 1, 1) := by decide +kernel
theorem dL_forwards_18 : decode cL_forwards 18 = .ok (.iconst 5, 1) := by decide +kernel
theorem dL_forwards_19 : decode cL_forwards 19 = .ok (.iconst 1, 1) := by decide +kernel
theorem dL_forwards_20 : decode cL_forwards 20 = .ok (.iastore, 1) := by decide +kernel
theorem dL_forwards_21 : decode cL_forwards 21 = .ok (.iload 4, 2) := by decide +kernel
theorem dL_forwards_23 : decode cL_forwards 23 = .ok (.ifCond .ne 15, 3) := by decide +kernel
theorem dL_forwards_26 : decode cL_forwards 26 = .ok (.aload_n 0, 1) := by decide +kernel
theorem dL_forwards_27 : decode cL_forwards 27 = .ok (.invokevirtual 72, 3) := by decide +kernel
theorem dL_forwards_30 : decode cL_forwards 30 = .ok (.iload_n 3, 1) := by decide +kernel
theorem dL_forwards_31 : decode cL_forwards 31 = .ok (.if_icmp .ne 7, 3) := by decide +kernel
theorem dL_forwards_34 : decode cL_forwards 34 = .ok (.iconst 1, 1) := by decide +kernel
theorem dL_forwards_35 : decode cL_forwards 35 = .ok (.goto 4, 3) := by decide +kernel
theorem dL_forwards_38 : decode cL_forwards 38 = .ok (.iconst 0, 1) := by decide +kernel
theorem dL_forwards_39 : decode cL_forwards 39 = .ok (.ireturn, 1) := by decide +kernel
theorem dL_forwards_40 : decode cL_forwards 40 = .ok (.iload_n 2, 1) := by decide +kernel
theorem dL_forwards_41 : decode cL_forwards 41 = .ok (.iconst 5, 1) := by decide +kernel
theorem dL_forwards_42 : decode cL_forwards 42 = .ok (.irem, 1) := by decide +kernel
theorem dL_forwards_43 : decode cL_forwards 43 = .ok (.ifCond .ne 40, 3) := by decide +kernel
theorem dL_forwards_46 : decode cL_forwards 46 = .ok (.aload_n 1, 1) := by decide +kernel
theorem dL_forwards_47 : decode cL_forwards 47 = .ok (.iconst 5, 1) := by decide +kernel
theorem dL_forwards_48 : decode cL_forwards 48 = .ok (.iconst 0, 1) := by decide +kernel
theorem dL_forwards_49 : decode cL_forwards 49 = .ok (.iastore, 1) := by decide +kernel
theorem dL_forwards_50 : decode cL_forwards 50 = .ok (.aload_n 0, 1) := by decide +kernel
theorem dL_forwards_51 : decode cL_forwards 51 = .ok (.invokevirtual 75, 3) := by decide +kernel
theorem dL_forwards_54 : decode cL_forwards 54 = .ok (.iload 4, 2) := by decide +kernel
theorem dL_forwards_56 : decode cL_forwards 56 = .ok (.if_icmp .ne 25, 3) := by decide +kernel
theorem dL_forwards_59 : decode cL_forwards 59 = .ok (.aload_n 0, 1) := by decide +kernel
theorem dL_forwards_60 : decode cL_forwards 60 = .ok (.invokevirtual 66, 3) := by decide +kernel
theorem dL_forwards_63 : decode cL_forwards 63 = .ok (.iload_n 3, 1) := by decide +kernel
theorem dL_forwards_64 : decode cL_forwards 64 = .ok (.iload 4, 2) := by decide +kernel
theorem dL_forwards_66 : decode cL_forwards 66 = .ok (.iadd, 1) := by decide +kernel
theorem dL_forwards_67 : decode cL_forwards 67 = .ok (.if_icmp .ne 14, 3) := by decide +kernel
theorem dL_forwards_70 : decode cL_forwards 70 = .ok (.aload_n 0, 1) := by decide +kernel
theorem dL_forwards_71 : decode cL_forwards 71 = .ok (.invokevirtual 69, 3) := by decide +kernel
theorem dL_forwards_74 : decode cL_forwards 74 = .ok (.ifCond .ne 7, 3) := by decide +kernel
theorem dL_forwards_77 : decode cL_forwards 77 = .ok (.iconst 1, 1) := by decide +kernel
theorem dL_forwards_78 : decode cL_forwards 78 = .ok (.goto 4, 3) := by decide +kernel
theorem dL_forwards_81 : decode cL_forwards 81 = .ok (.iconst 0, 1) := by decide +kernel
theorem dL_forwards_82 : decode cL_forwards 82 = .ok (.ireturn, 1) := by decide +kernel
theorem dL_forwards_83 : decode cL_forwards 83 = .ok (.iload_n 2, 1) := by decide +kernel
theorem dL_forwards_84 : decode cL_forwards 84 = .ok (.iconst 2, 1) := by decide +kernel
theorem dL_forwards_85 : decode cL_forwards 85 = .ok (.irem, 1) := by decide +kernel
theorem dL_forwards_86 : decode cL_forwards 86 = .ok (.ifCond .ne 57, 3) := by decide +kernel
theorem dL_forwards_89 : decode cL_forwards 89 = .ok (.iload 4, 2) := by decide +kernel
theorem dL_forwards_91 : decode cL_forwards 91 = .ok (.ifCond .le 52, 3) := by decide +kernel
theorem dL_forwards_94 : decode cL_forwards 94 = .ok (.aload_n 0, 1) := by decide +kernel
theorem dL_forwards_95 : decode cL_forwards 95 = .ok (.invokevirtual 78, 3) := by decide +kernel
theorem dL_forwards_98 : decode cL_forwards 98 = .ok (.istore 5, 2) := by decide +kernel
theorem dL_forwards_100 : decode cL_forwards 100 = .ok (.aload_n 0, 1) := by decide +kernel
theorem dL_forwards_101 : decode cL_forwards 101 = .ok (.invokevirtual 81, 3) := by decide +kernel
theorem dL_forwards_104 : decode cL_forwards 104 = .ok (.ifCond .lt 37, 3) := by decide +kernel
theorem dL_forwards_107 : decode cL_forwards 107 = .ok (.aload_n 0, 1) := by decide +kernel
theorem dL_forwards_108 : decode cL_forwards 108 = .ok (.invokevirtual 78, 3) := by decide +kernel
theorem dL_forwards_111 : decode cL_forwards 111 = .ok (.iload 5, 2) := by decide +kernel
theorem dL_forwards_113 : decode cL_forwards 113 = .ok (.iconst 1, 1) := by decide +kernel
theorem dL_forwards_114 : decode cL_forwards 114 = .ok (.iadd, 1) := by decide +kernel
theorem dL_forwards_115 : decode cL_forwards 115 = .ok (.if_icmp .ne 26, 3) := by decide +kernel
theorem dL_forwards_118 : decode cL_forwards 118 = .ok (.aload_n 0, 1) := by decide +kernel
theorem dL_forwards_119 : decode cL_forwards 119 = .ok (.invokevirtual 69, 3) := by decide +kernel
theorem dL_forwards_122 : decode cL_forwards 122 = .ok (.iload 4, 2) := by decide +kernel
theorem dL_forwards_124 : decode cL_forwards 124 = .ok (.iconst 1, 1) := by decide +kernel
theorem dL_forwards_125 : decode cL_forwards 125 = .ok (.isub, 1) := by decide +kernel
theorem dL_forwards_126 : decode cL_forwards 126 = .ok (.if_icmp .ne 15, 3) := by decide +kernel
theorem dL_forwards_129 : decode cL_forwards 129 = .ok (.aload_n 0, 1) := by decide +kernel
theorem dL_forwards_130 : decode cL_forwards 130 = .ok (.invokevirtual 66, 3) := by decide +kernel
theorem dL_forwards_133 : decode cL_forwards 133 = .ok (.iload_n 3, 1) := by decide +kernel
theorem dL_forwards_134 : decode cL_forwards 134 = .ok (.if_icmp .ne 7, 3) := by decide +kernel
theorem dL_forwards_137 : decode cL_forwards 137 = .ok (.iconst 1, 1) := by decide +kernel
theorem dL_forwards_138 : decode cL_forwards 138 = .ok (.goto 4, 3) := by decide +kernel
theorem dL_forwards_141 : decode cL_forwards 141 = .ok (.iconst 0, 1) := by decide +kernel
theorem dL_forwards_142 : decode cL_forwards 142 = .ok (.ireturn, 1) := by decide +kernel
theorem dL_forwards_143 : decode cL_forwards 143 = .ok (.iload_n 3, 1) := by decide +kernel
theorem dL_forwards_144 : decode cL_forwards 144 = .ok (.ifCond .eq 37, 3) := by decide +kernel
theorem dL_forwards_147 : decode cL_forwards 147 = .ok (.iload 4, 2) := by decide +kernel
theorem dL_forwards_149 : decode cL_forwards 149 = .ok (.iconst 5, 1) := by decide +kernel
theorem dL_forwards_150 : decode cL_forwards 150 = .ok (.if_icmp .eq 31, 3) := by decide +kernel
theorem dL_forwards_153 : decode cL_forwards 153 = .ok (.aload_n 0, 1) := by decide +kernel
theorem dL_forwards_154 : decode cL_forwards 154 = .ok (.invokevirtual 84, 3) := by decide +kernel
theorem dL_forwards_157 : decode cL_forwards 157 = .ok (.ifCond .lt 28, 3) := by decide +kernel
theorem dL_forwards_160 : decode cL_forwards 160 = .ok (.aload_n 0, 1) := by decide +kernel
theorem dL_forwards_161 : decode cL_forwards 161 = .ok (.invokevirtual 69, 3) := by decide +kernel
theorem dL_forwards_164 : decode cL_forwards 164 = .ok (.iload 4, 2) := by decide +kernel
theorem dL_forwards_166 : decode cL_forwards 166 = .ok (.iconst 1, 1) := by decide +kernel
theorem dL_forwards_167 : decode cL_forwards 167 = .ok (.iadd, 1) := by decide +kernel
theorem dL_forwards_168 : decode cL_forwards 168 = .ok (.if_icmp .ne 17, 3) := by decide +kernel
theorem dL_forwards_171 : decode cL_forwards 171 = .ok (.aload_n 0, 1) := by decide +kernel
theorem dL_forwards_172 : decode cL_forwards 172 = .ok (.invokevirtual 66, 3) := by decide +kernel
theorem dL_forwards_175 : decode cL_forwards 175 = .ok (.iload_n 3, 1) := by decide +kernel
theorem dL_forwards_176 : decode cL_forwards 176 = .ok (.iconst 1, 1) := by decide +kernel
theorem dL_forwards_177 : decode cL_forwards 177 = .ok (.isub, 1) := by decide +kernel
theorem dL_forwards_178 : decode cL_forwards 178 = .ok (.if_icmp .ne 7, 3) := by decide +kernel
theorem dL_forwards_181 : decode cL_forwards 181 = .ok (.iconst 1, 1) := by decide +kernel
theorem dL_forwards_182 : decode cL_forwards 182 = .ok (.goto 4, 3) := by decide +kernel
theorem dL_forwards_185 : decode cL_forwards 185 = .ok (.iconst 0, 1) := by decide +kernel
theorem dL_forwards_186 : decode cL_forwards 186 = .ok (.ireturn, 1) := by decide +kernel
set_option maxRecDepth 20000 in
theorem ggL_comes_X5_tokens : GoodIn wsL_comes wsX5_tokens := goodIn_ca (goodIn_r _ [5, 6, 7, 8, 9, 4, 10, 11, 12, 13, 182, 183, 184, 185, 186, 187, 188, 189, 190, 191, 192, 193, 194, 195, 196, 197, 198, 199] (by decide +kernel) (by decide +kernel)) (goodIn_sub (fun _ h => List.mem_cons_of_mem _ (List.mem_append_left _ (List.mem_append_left _ (List.mem_append_right _ h)))) (by decide +kernel))
set_option maxRecDepth 20000 in
theorem gL_comes_X5_tokens : GoodIn wsL_comes (wsV RL 63 RX5 yX5_tokens wsX5_tokens) := goodIn_app (goodIn_of _ (by decide +kernel)) ggL_comes_X5_tokens
set_option maxRecDepth 20000 in
theorem ggL_comes_X5_repeats : GoodIn wsL_comes wsX5_repeats := goodIn_ca (goodIn_r _ [17, 18, 7, 8, 9, 4, 10, 11, 12, 13, 182, 183, 184, 185, 186, 187, 188, 189, 190, 191, 192, 193, 194, 195, 196, 197, 198, 199] (by decide +kernel) (by decide +kernel)) (goodIn_sub (fun _ h => List.mem_cons_of_mem _ (List.mem_append_left _ (List.mem_append_left _ (List.mem_append_right _ h)))) (by decide +kernel))
set_option maxRecDepth 20000 in
theorem gL_comes_X5_repeats : GoodIn wsL_comes (wsV RL 60 RX5 yX5_repeats wsX5_repeats) := goodIn_app (goodIn_of _ (by decide +kernel)) ggL_comes_X5_repeats
set_option maxRecDepth 20000 in
theorem ggL_comes_X5_drops : GoodIn wsL_comes wsX5_drops := goodIn_ca (goodIn_r _ [22, 23, 7, 8, 9, 4, 10, 11, 12, 13, 182, 183, 184, 185, 186, 187, 188, 189, 190, 191, 192, 193, 194, 195, 196, 197, 198, 199] (by decide +kernel) (by decide +kernel)) (goodIn_sub (fun _ h => List.mem_cons_of_mem _ (List.mem_append_left _ (List.mem_append_left _ (List.mem_append_right _ h)))) (by decide +kernel))
set_option maxRecDepth 20000 in
theorem gL_comes_X5_drops : GoodIn wsL_comes (wsV RL 87 RX5 yX5_drops wsX5_drops) := goodIn_app (goodIn_of _ (by decide +kernel)) ggL_comes_X5_drops
set_option maxRecDepth 20000 in
theorem ggL_comes_X5_message : GoodIn wsL_comes wsX5_message := goodIn_ca (goodIn_ca (goodIn_ca (goodIn_r _ [27, 28, 29, 30, 31, 32, 33, 34, 6, 23, 35, 7, 8, 9, 4, 10, 11, 12, 13, 36, 37, 38, 39, 40, 41, 42, 43, 44, 45, 46, 47, 48, 49, 50, 51, 52, 53, 54, 55, 56, 57, 58, 59, 60, 61, 62, 63, 64, 65, 66, 67, 68, 69, 18, 70, 71, 72, 73, 74, 75, 76, 77, 78, 79, 80, 81, 82, 83, 84, 85, 86, 87, 88, 89, 90, 91, 92, 93, 94, 95, 96, 97, 98, 99, 100, 101, 102, 103, 104, 105, 106, 107, 108, 109, 110, 111, 112, 113, 114, 115, 116, 117, 118, 119, 120, 121, 122, 123, 124, 125, 126, 127, 128, 129, 191, 192, 193, 194, 195, 196, 197, 198, 199, 182, 183, 184, 185, 186, 187, 188, 189, 190, 200, 201, 202, 203, 204, 205, 206, 207, 208, 209, 210, 211, 212, 213, 214, 215, 216, 217, 218, 219, 220, 221, 222, 223] (by decide +kernel) (by decide +kernel)) (goodIn_sub (fun _ h => List.mem_cons_of_mem _ (List.mem_append_left _ (List.mem_append_right _ h))) (by decide +kernel))) (goodIn_sub (fun _ h => List.mem_cons_of_mem _ (List.mem_append_right _ h)) (by decide +kernel))) (goodIn_sub (fun _ h => List.mem_cons_of_mem _ (List.mem_append_left _ (List.mem_append_left _ (List.mem_append_right _ h)))) (by decide +kernel))
set_option maxRecDepth 20000 in
theorem gL_comes_X5_message : GoodIn wsL_comes (wsV RL 90 RX5 yX5_message wsX5_message) := goodIn_app (goodIn_of _ (by decide +kernel)) ggL_comes_X5_message
set_option maxRecDepth 20000 in
theorem ggL_comes_X5_messages : GoodIn wsL_comes wsX5_messages := goodIn_r _ [133, 32, 35, 191, 192, 193, 194, 195, 196, 197, 198, 199, 200, 201, 202] (by decide +kernel) (by decide +kernel)
set_option maxRecDepth 20000 in
theorem gL_comes_X5_messages : GoodIn wsL_comes (wsV RL 93 RX5 yX5_messages wsX5_messages) := goodIn_app (goodIn_of _ (by decide +kernel)) ggL_comes_X5_messages
set_option maxRecDepth 20000 in
theorem ggL_comes_X5_fateOf : GoodIn wsL_comes wsX5_fateOf := goodIn_ca (goodIn_r _ [137, 11, 12, 32, 138, 139, 140, 42, 141, 44, 142, 143, 144, 145, 64, 191, 192, 193, 194, 195, 196, 197, 198, 199, 200, 201, 202] (by decide +kernel) (by decide +kernel)) (goodIn_sub (fun _ h => List.mem_cons_of_mem _ (List.mem_append_left _ (List.mem_append_left _ (List.mem_append_right _ h)))) (by decide +kernel))
set_option maxRecDepth 20000 in
theorem gL_comes_X5_fateOf : GoodIn wsL_comes (wsV RL 96 RX5 yX5_fateOf wsX5_fateOf) := goodIn_app (goodIn_of _ (by decide +kernel)) ggL_comes_X5_fateOf
set_option maxRecDepth 20000 in
theorem ggL_comes_X5_targetsOf : GoodIn wsL_comes wsX5_targetsOf := goodIn_ca (goodIn_r _ [149, 11, 12, 32, 138, 139, 140, 42, 141, 44, 150, 151, 152, 153, 65, 191, 192, 193, 194, 195, 196, 197, 198, 199, 200, 201, 202] (by decide +kernel) (by decide +kernel)) (goodIn_sub (fun _ h => List.mem_cons_of_mem _ (List.mem_append_left _ (List.mem_append_left _ (List.mem_append_right _ h)))) (by decide +kernel))
set_option maxRecDepth 20000 in
theorem gL_comes_X5_targetsOf : GoodIn wsL_comes (wsV RL 99 RX5 yX5_targetsOf wsX5_targetsOf) := goodIn_app (goodIn_of _ (by decide +kernel)) ggL_comes_X5_targetsOf
set_option maxRecDepth 20000 in
theorem ggL_comes_X5_lines : GoodIn wsL_comes wsX5_lines := goodIn_ca (goodIn_r _ [157, 11, 12, 158, 159, 160, 4, 161, 79, 162, 163, 164, 93, 165, 110, 166, 167, 168, 169, 98, 170, 171, 172, 173, 104, 191, 192, 193, 194, 195, 196, 197, 198, 199, 208, 209, 210, 211, 212, 213, 214, 215, 216, 217] (by decide +kernel) (by decide +kernel)) (goodIn_sub (fun _ h => List.mem_cons_of_mem _ (List.mem_append_left _ (List.mem_append_left _ (List.mem_append_right _ h)))) (by decide +kernel))
set_option maxRecDepth 20000 in
theorem gL_comes_X5_lines : GoodIn wsL_comes (wsV RL 40 RX5 yX5_lines wsX5_lines) := goodIn_app (goodIn_of _ (by decide +kernel)) ggL_comes_X5_lines
set_option maxRecDepth 20000 in
theorem ggL_comes_X5_line : GoodIn wsL_comes wsX5_line := goodIn_ca (goodIn_r _ [177, 11, 12, 158, 159, 160, 4, 161, 79, 162, 163, 164, 93, 165, 110, 166, 167, 168, 169, 98, 170, 171, 172, 173, 104, 36, 37, 38, 178, 179, 180, 181, 99, 191, 192, 193, 194, 195, 196, 197, 198, 199, 208, 209, 210, 211, 212, 213, 214, 215, 216, 217] (by decide +kernel) (by decide +kernel)) (goodIn_sub (fun _ h => List.mem_cons_of_mem _ (List.mem_append_left _ (List.mem_append_left _ (List.mem_append_right _ h)))) (by decide +kernel))
set_option maxRecDepth 20000 in
theorem gL_comes_X5_line : GoodIn wsL_comes (wsV RL 102 RX5 yX5_line wsX5_line) := goodIn_app (goodIn_of _ (by decide +kernel)) ggL_comes_X5_line
theorem dL_comes_0 : decode cL_comes 0 = .ok (.aload_n 0, 1) := by decide +kernel
theorem dL_comes_1 : decode cL_comes 1 = .ok (.iload_n 3, 1) := by decide +kernel
theorem dL_comes_2 : decode cL_comes 2 = .ok (.invokevirtual 63, 3) := by decide +kernel
theorem dL_comes_5 : decode cL_comes 5 = .ok (.istore 8, 2) := by decide +kernel
theorem dL_comes_7 : decode cL_comes 7 = .ok (.aload_n 0, 1) := by decide +kernel
theorem dL_comes_8 : decode cL_comes 8 = .ok (.iload_n 3, 1) := by decide +kernel
theorem dL_comes_9 : decode cL_comes 9 = .ok (.invokevirtual 60, 3) := by decide +kernel
theorem dL_comes_12 : decode cL_comes 12 = .ok (.istore 9, 2) := by decide +kernel
theorem dL_comes_14 : decode cL_comes 14 = .ok (.aload_n 0, 1) := by decide +kernel
theorem dL_comes_15 : decode cL_comes 15 = .ok (.iload_n 3, 1) := by decide +kernel
theorem dL_comes_16 : decode cL_comes 16 = .ok (.invokevirtual 87, 3) := by decide +kernel
theorem dL_comes_19 : decode cL_comes 19 = .ok (.istore 10, 2) := by decide +kernel
theorem dL_comes_21 : decode cL_comes 21 = .ok (.aload_n 2, 1) := by decide +kernel
theorem dL_comes_22 : decode cL_comes 22 = .ok (.iconst 0, 1) := by decide +kernel
theorem dL_comes_23 : decode cL_comes 23 = .ok (.iaload, 1) := by decide +kernel
theorem dL_comes_24 : decode cL_comes 24 = .ok (.istore 11, 2) := by decide +kernel
theorem dL_comes_26 : decode cL_comes 26 = .ok (.aload_n 1, 1) := by decide +kernel
theorem dL_comes_27 : decode cL_comes 27 = .ok (.iload 11, 2) := by decide +kernel
theorem dL_comes_29 : decode cL_comes 29 = .ok (.iload 7, 2) := by decide +kernel
theorem dL_comes_31 : decode cL_comes 31 = .ok (.iastore, 1) := by decide +kernel
theorem dL_comes_32 : decode cL_comes 32 = .ok (.aload_n 2, 1) := by decide +kernel
theorem dL_comes_33 : decode cL_comes 33 = .ok (.iconst 0, 1) := by decide +kernel
theorem dL_comes_34 : decode cL_comes 34 = .ok (.dup2, 1) := by decide +kernel
theorem dL_comes_35 : decode cL_comes 35 = .ok (.iaload, 1) := by decide +kernel
theorem dL_comes_36 : decode cL_comes 36 = .ok (.iconst 1, 1) := by decide +kernel
theorem dL_comes_37 : decode cL_comes 37 = .ok (.iadd, 1) := by decide +kernel
theorem dL_comes_38 : decode cL_comes 38 = .ok (.iastore, 1) := by decide +kernel
theorem dL_comes_39 : decode cL_comes 39 = .ok (.aload_n 0, 1) := by decide +kernel
theorem dL_comes_40 : decode cL_comes 40 = .ok (.iload_n 3, 1) := by decide +kernel
theorem dL_comes_41 : decode cL_comes 41 = .ok (.iload 4, 2) := by decide +kernel
theorem dL_comes_43 : decode cL_comes 43 = .ok (.iload 5, 2) := by decide +kernel
theorem dL_comes_45 : decode cL_comes 45 = .ok (.iload 6, 2) := by decide +kernel
theorem dL_comes_47 : decode cL_comes 47 = .ok (.iload 7, 2) := by decide +kernel
theorem dL_comes_49 : decode cL_comes 49 = .ok (.invokevirtual 90, 3) := by decide +kernel
theorem dL_comes_52 : decode cL_comes 52 = .ok (.istore 12, 2) := by decide +kernel
theorem dL_comes_54 : decode cL_comes 54 = .ok (.aload_n 0, 1) := by decide +kernel
theorem dL_comes_55 : decode cL_comes 55 = .ok (.invokevirtual 93, 3) := by decide +kernel
theorem dL_comes_58 : decode cL_comes 58 = .ok (.iload 11, 2) := by decide +kernel
theorem dL_comes_60 : decode cL_comes 60 = .ok (.iconst 1, 1) := by decide +kernel
theorem dL_comes_61 : decode cL_comes 61 = .ok (.iadd, 1) := by decide +kernel
theorem dL_comes_62 : decode cL_comes 62 = .ok (.if_icmp .ne 46, 3) := by decide +kernel
theorem dL_comes_65 : decode cL_comes 65 = .ok (.aload_n 0, 1) := by decide +kernel
theorem dL_comes_66 : decode cL_comes 66 = .ok (.iload 11, 2) := by decide +kernel
theorem dL_comes_68 : decode cL_comes 68 = .ok (.invokevirtual 96, 3) := by decide +kernel
theorem dL_comes_71 : decode cL_comes 71 = .ok (.iload 12, 2) := by decide +kernel
theorem dL_comes_73 : decode cL_comes 73 = .ok (.if_icmp .ne 35, 3) := by decide +kernel
theorem dL_comes_76 : decode cL_comes 76 = .ok (.iload 12, 2) := by decide +kernel
theorem dL_comes_78 : decode cL_comes 78 = .ok (.iconst 3, 1) := by decide +kernel
theorem dL_comes_79 : decode cL_comes 79 = .ok (.if_icmp .ne 7, 3) := by decide +kernel
theorem dL_comes_82 : decode cL_comes 82 = .ok (.iconst 1, 1) := by decide +kernel
theorem dL_comes_83 : decode cL_comes 83 = .ok (.goto 4, 3) := by decide +kernel
theorem dL_comes_86 : decode cL_comes 86 = .ok (.iconst 0, 1) := by decide +kernel
theorem dL_comes_87 : decode cL_comes 87 = .ok (.aload_n 0, 1) := by decide +kernel
theorem dL_comes_88 : decode cL_comes 88 = .ok (.iload 11, 2) := by decide +kernel
theorem dL_comes_90 : decode cL_comes 90 = .ok (.invokevirtual 99, 3) := by decide +kernel
theorem dL_comes_93 : decode cL_comes 93 = .ok (.ifCond .eq 7, 3) := by decide +kernel
theorem dL_comes_96 : decode cL_comes 96 = .ok (.iconst 1, 1) := by decide +kernel
theorem dL_comes_97 : decode cL_comes 97 = .ok (.goto 4, 3) := by decide +kernel
theorem dL_comes_100 : decode cL_comes 100 = .ok (.iconst 0, 1) := by decide +kernel
theorem dL_comes_101 : decode cL_comes 101 = .ok (.if_icmp .ne 7, 3) := by decide +kernel
theorem dL_comes_104 : decode cL_comes 104 = .ok (.iconst 1, 1) := by decide +kernel
theorem dL_comes_105 : decode cL_comes 105 = .ok (.goto 4, 3) := by decide +kernel
theorem dL_comes_108 : decode cL_comes 108 = .ok (.iconst 0, 1) := by decide +kernel
theorem dL_comes_109 : decode cL_comes 109 = .ok (.istore 13, 2) := by decide +kernel
theorem dL_comes_111 : decode cL_comes 111 = .ok (.iload 12, 2) := by decide +kernel
theorem dL_comes_113 : decode cL_comes 113 = .ok (.ifCond .ne 52, 3) := by decide +kernel
theorem dL_comes_116 : decode cL_comes 116 = .ok (.iload 13, 2) := by decide +kernel
theorem dL_comes_118 : decode cL_comes 118 = .ok (.ifCond .eq 45, 3) := by decide +kernel
theorem dL_comes_121 : decode cL_comes 121 = .ok (.aload_n 2, 1) := by decide +kernel
theorem dL_comes_122 : decode cL_comes 122 = .ok (.iconst 4, 1) := by decide +kernel
theorem dL_comes_123 : decode cL_comes 123 = .ok (.iaload, 1) := by decide +kernel
theorem dL_comes_124 : decode cL_comes 124 = .ok (.ifCond .le 39, 3) := by decide +kernel
theorem dL_comes_127 : decode cL_comes 127 = .ok (.aload_n 0, 1) := by decide +kernel
theorem dL_comes_128 : decode cL_comes 128 = .ok (.iload_n 3, 1) := by decide +kernel
theorem dL_comes_129 : decode cL_comes 129 = .ok (.invokevirtual 60, 3) := by decide +kernel
theorem dL_comes_132 : decode cL_comes 132 = .ok (.iload 9, 2) := by decide +kernel
theorem dL_comes_134 : decode cL_comes 134 = .ok (.iconst 1, 1) := by decide +kernel
theorem dL_comes_135 : decode cL_comes 135 = .ok (.iadd, 1) := by decide +kernel
theorem dL_comes_136 : decode cL_comes 136 = .ok (.if_icmp .ne 27, 3) := by decide +kernel
theorem dL_comes_139 : decode cL_comes 139 = .ok (.aload_n 0, 1) := by decide +kernel
theorem dL_comes_140 : decode cL_comes 140 = .ok (.iload_n 3, 1) := by decide +kernel
theorem dL_comes_141 : decode cL_comes 141 = .ok (.invokevirtual 63, 3) := by decide +kernel
theorem dL_comes_144 : decode cL_comes 144 = .ok (.iload 8, 2) := by decide +kernel
theorem dL_comes_146 : decode cL_comes 146 = .ok (.if_icmp .ne 17, 3) := by decide +kernel
theorem dL_comes_149 : decode cL_comes 149 = .ok (.aload_n 0, 1) := by decide +kernel
theorem dL_comes_150 : decode cL_comes 150 = .ok (.iload_n 3, 1) := by decide +kernel
theorem dL_comes_151 : decode cL_comes 151 = .ok (.invokevirtual 87, 3) := by decide +kernel
theorem dL_comes_154 : decode cL_comes 154 = .ok (.iload 10, 2) := by decide +kernel
theorem dL_comes_156 : decode cL_comes 156 = .ok (.if_icmp .ne 7, 3) := by decide +kernel
theorem dL_comes_159 : decode cL_comes 159 = .ok (.iconst 1, 1) := by decide +kernel
theorem dL_comes_160 : decode cL_comes 160 = .ok (.goto 4, 3) := by decide +kernel
theorem dL_comes_163 : decode cL_comes 163 = .ok (.iconst 0, 1) := by decide +kernel
theorem dL_comes_164 : decode cL_comes 164 = .ok (.ireturn, 1) := by decide +kernel
theorem dL_comes_165 : decode cL_comes 165 = .ok (.iload 13, 2) := by decide +kernel
theorem dL_comes_167 : decode cL_comes 167 = .ok (.ifCond .eq 15, 3) := by decide +kernel
theorem dL_comes_170 : decode cL_comes 170 = .ok (.aload_n 0, 1) := by decide +kernel
theorem dL_comes_171 : decode cL_comes 171 = .ok (.iload_n 3, 1) := by decide +kernel
theorem dL_comes_172 : decode cL_comes 172 = .ok (.invokevirtual 60, 3) := by decide +kernel
theorem dL_comes_175 : decode cL_comes 175 = .ok (.ifCond .ne 7, 3) := by decide +kernel
theorem dL_comes_178 : decode cL_comes 178 = .ok (.iconst 1, 1) := by decide +kernel
theorem dL_comes_179 : decode cL_comes 179 = .ok (.goto 4, 3) := by decide +kernel
theorem dL_comes_182 : decode cL_comes 182 = .ok (.iconst 0, 1) := by decide +kernel
theorem dL_comes_183 : decode cL_comes 183 = .ok (.istore 13, 2) := by decide +kernel
theorem dL_comes_185 : decode cL_comes 185 = .ok (.iload 12, 2) := by decide +kernel
theorem dL_comes_187 : decode cL_comes 187 = .ok (.iconst 1, 1) := by decide +kernel
theorem dL_comes_188 : decode cL_comes 188 = .ok (.if_icmp .ne 39, 3) := by decide +kernel
theorem dL_comes_191 : decode cL_comes 191 = .ok (.iload 13, 2) := by decide +kernel
theorem dL_comes_193 : decode cL_comes 193 = .ok (.ifCond .eq 32, 3) := by decide +kernel
theorem dL_comes_196 : decode cL_comes 196 = .ok (.iload 8, 2) := by decide +kernel
theorem dL_comes_198 : decode cL_comes 198 = .ok (.ifCond .ne 27, 3) := by decide +kernel
theorem dL_comes_201 : decode cL_comes 201 = .ok (.aload_n 0, 1) := by decide +kernel
theorem dL_comes_202 : decode cL_comes 202 = .ok (.iload_n 3, 1) := by decide +kernel
theorem dL_comes_203 : decode cL_comes 203 = .ok (.invokevirtual 63, 3) := by decide +kernel
theorem dL_comes_206 : decode cL_comes 206 = .ok (.ifCond .ne 19, 3) := by decide +kernel
theorem dL_comes_209 : decode cL_comes 209 = .ok (.aload_n 0, 1) := by decide +kernel
theorem dL_comes_210 : decode cL_comes 210 = .ok (.iload_n 3, 1) := by decide +kernel
theorem dL_comes_211 : decode cL_comes 211 = .ok (.invokevirtual 87, 3) := by decide +kernel
theorem dL_comes_214 : decode cL_comes 214 = .ok (.iload 10, 2) := by decide +kernel
theorem dL_comes_216 : decode cL_comes 216 = .ok (.iconst 1, 1) := by decide +kernel
theorem dL_comes_217 : decode cL_comes 217 = .ok (.iadd, 1) := by decide +kernel
theorem dL_comes_218 : decode cL_comes 218 = .ok (.if_icmp .ne 7, 3) := by decide +kernel
theorem dL_comes_221 : decode cL_comes 221 = .ok (.iconst 1, 1) := by decide +kernel
theorem dL_comes_222 : decode cL_comes 222 = .ok (.goto 4, 3) := by decide +kernel
theorem dL_comes_225 : decode cL_comes 225 = .ok (.iconst 0, 1) := by decide +kernel
theorem dL_comes_226 : decode cL_comes 226 = .ok (.ireturn, 1) := by decide +kernel
theorem dL_comes_227 : decode cL_comes 227 = .ok (.iconst 0, 1) := by decide +kernel
theorem dL_comes_228 : decode cL_comes 228 = .ok (.istore 14, 2) := by decide +kernel
theorem dL_comes_230 : decode cL_comes 230 = .ok (.iload 14, 2) := by decide +kernel
theorem dL_comes_232 : decode cL_comes 232 = .ok (.iconst 4, 1) := by decide +kernel
theorem dL_comes_233 : decode cL_comes 233 = .ok (.if_icmp .ge 56, 3) := by decide +kernel
theorem dL_comes_236 : decode cL_comes 236 = .ok (.iload 13, 2) := by decide +kernel
theorem dL_comes_238 : decode cL_comes 238 = .ok (.ifCond .eq 42, 3) := by decide +kernel
theorem dL_comes_241 : decode cL_comes 241 = .ok (.aload_n 0, 1) := by decide +kernel
theorem dL_comes_242 : decode cL_comes 242 = .ok (.iload 11, 2) := by decide +kernel
theorem dL_comes_244 : decode cL_comes 244 = .ok (.invokevirtual 99, 3) := by decide +kernel
theorem dL_comes_247 : decode cL_comes 247 = .ok (.iload 14, 2) := by decide +kernel
theorem dL_comes_249 : decode cL_comes 249 = .ok (.ishr, 1) := by decide +kernel
theorem dL_comes_250 : decode cL_comes 250 = .ok (.iconst 1, 1) := by decide +kernel
theorem dL_comes_251 : decode cL_comes 251 = .ok (.iand, 1) := by decide +kernel
theorem dL_comes_252 : decode cL_comes 252 = .ok (.ifCond .eq 24, 3) := by decide +kernel
theorem dL_comes_255 : decode cL_comes 255 = .ok (.aload_n 0, 1) := by decide +kernel
theorem dL_comes_256 : decode cL_comes 256 = .ok (.iload 14, 2) := by decide +kernel
theorem dL_comes_258 : decode cL_comes 258 = .ok (.iconst (-1), 1) := by decide +kernel
theorem dL_comes_259 : decode cL_comes 259 = .ok (.aload_n 0, 1) := by decide +kernel
theorem dL_comes_260 : decode cL_comes 260 = .ok (.iload 14, 2) := by decide +kernel
theorem dL_comes_262 : decode cL_comes 262 = .ok (.iconst (-1), 1) := by decide +kernel
theorem dL_comes_263 : decode cL_comes 263 = .ok (.invokevirtual 40, 3) := by decide +kernel
theorem dL_comes_266 : decode cL_comes 266 = .ok (.iconst 1, 1) := by decide +kernel
theorem dL_comes_267 : decode cL_comes 267 = .ok (.isub, 1) := by decide +kernel
theorem dL_comes_268 : decode cL_comes 268 = .ok (.invokevirtual 102, 3) := by decide +kernel
theorem dL_comes_271 : decode cL_comes 271 = .ok (.iload 11, 2) := by decide +kernel
theorem dL_comes_273 : decode cL_comes 273 = .ok (.if_icmp .ne 7, 3) := by decide +kernel
theorem dL_comes_276 : decode cL_comes 276 = .ok (.iconst 1, 1) := by decide +kernel
theorem dL_comes_277 : decode cL_comes 277 = .ok (.goto 4, 3) := by decide +kernel
theorem dL_comes_280 : decode cL_comes 280 = .ok (.iconst 0, 1) := by decide +kernel
theorem dL_comes_281 : decode cL_comes 281 = .ok (.istore 13, 2) := by decide +kernel
theorem dL_comes_283 : decode cL_comes 283 = .ok (.iinc 14 1, 3) := by decide +kernel
theorem dL_comes_286 : decode cL_comes 286 = .ok (.goto (-56), 3) := by decide +kernel
theorem dL_comes_289 : decode cL_comes 289 = .ok (.iload 13, 2) := by decide +kernel
theorem dL_comes_291 : decode cL_comes 291 = .ok (.ifCond .eq 32, 3) := by decide +kernel
theorem dL_comes_294 : decode cL_comes 294 = .ok (.iload 8, 2) := by decide +kernel
theorem dL_comes_296 : decode cL_comes 296 = .ok (.ifCond .le 27, 3) := by decide +kernel
theorem dL_comes_299 : decode cL_comes 299 = .ok (.aload_n 0, 1) := by decide +kernel
theorem dL_comes_300 : decode cL_comes 300 = .ok (.iload_n 3, 1) := by decide +kernel
theorem dL_comes_301 : decode cL_comes 301 = .ok (.invokevirtual 63, 3) := by decide +kernel
theorem dL_comes_304 : decode cL_comes 304 = .ok (.iload 8, 2) := by decide +kernel
theorem dL_comes_306 : decode cL_comes 306 = .ok (.iconst 1, 1) := by decide +kernel
theorem dL_comes_307 : decode cL_comes 307 = .ok (.isub, 1) := by decide +kernel
theorem dL_comes_308 : decode cL_comes 308 = .ok (.if_icmp .ne 15, 3) := by decide +kernel
theorem dL_comes_311 : decode cL_comes 311 = .ok (.aload_n 0, 1) := by decide +kernel
theorem dL_comes_312 : decode cL_comes 312 = .ok (.iload_n 3, 1) := by decide +kernel
theorem dL_comes_313 : decode cL_comes 313 = .ok (.invokevirtual 87, 3) := by decide +kernel
theorem dL_comes_316 : decode cL_comes 316 = .ok (.ifCond .ne 7, 3) := by decide +kernel
theorem dL_comes_319 : decode cL_comes 319 = .ok (.iconst 1, 1) := by decide +kernel
theorem dL_comes_320 : decode cL_comes 320 = .ok (.goto 4, 3) := by decide +kernel
theorem dL_comes_323 : decode cL_comes 323 = .ok (.iconst 0, 1) := by decide +kernel
theorem dL_comes_324 : decode cL_comes 324 = .ok (.ireturn, 1) := by decide +kernel
set_option maxRecDepth 20000 in
theorem ggL_areFiles_X5_lines : GoodIn wsL_areFiles wsX5_lines := goodIn_ca (goodIn_r _ [6, 7, 8, 9, 10, 11, 5, 12, 13, 14, 15, 16, 17, 18, 19, 20, 21, 22, 23, 24, 25, 26, 27, 28, 29, 68, 69, 70, 71, 72, 73, 74, 75, 76, 77, 78, 79, 80, 81, 82, 83, 84, 85, 86] (by decide +kernel) (by decide +kernel)) (goodIn_sub (fun _ h => List.mem_cons_of_mem _ (List.mem_append_right _ h)) (by decide +kernel))
set_option maxRecDepth 20000 in
theorem gL_areFiles_X5_lines : GoodIn wsL_areFiles (wsV RL 40 RX5 yX5_lines wsX5_lines) := goodIn_app (goodIn_of _ (by decide +kernel)) ggL_areFiles_X5_lines
set_option maxRecDepth 20000 in
theorem ggL_areFiles_X5_line : GoodIn wsL_areFiles wsX5_line := goodIn_ca (goodIn_r _ [33, 7, 8, 9, 10, 11, 5, 12, 13, 14, 15, 16, 17, 18, 19, 20, 21, 22, 23, 24, 25, 26, 27, 28, 29, 34, 35, 36, 37, 38, 39, 40, 41, 68, 69, 70, 71, 72, 73, 74, 75, 76, 77, 78, 79, 80, 81, 82, 83, 84, 85, 86] (by decide +kernel) (by decide +kernel)) (goodIn_sub (fun _ h => List.mem_cons_of_mem _ (List.mem_append_right _ h)) (by decide +kernel))
set_option maxRecDepth 20000 in
theorem gL_areFiles_X5_line : GoodIn wsL_areFiles (wsV RL 102 RX5 yX5_line wsX5_line) := goodIn_app (goodIn_of _ (by decide +kernel)) ggL_areFiles_X5_line
set_option maxRecDepth 20000 in
theorem ggL_areFiles_X5_size : GoodIn wsL_areFiles wsX5_size := goodIn_ca (goodIn_r _ [45, 46, 9, 10, 11, 5, 12, 7, 8, 13, 77, 78, 79, 80, 81, 82, 83, 84, 85, 86, 68, 69, 70, 71, 72, 73, 74, 75, 76] (by decide +kernel) (by decide +kernel)) (goodIn_sub (fun _ h => List.mem_cons_of_mem _ (List.mem_append_right _ h)) (by decide +kernel))
set_option maxRecDepth 20000 in
theorem gL_areFiles_X5_size : GoodIn wsL_areFiles (wsV RL 28 RX5 yX5_size wsX5_size) := goodIn_app (goodIn_of _ (by decide +kernel)) ggL_areFiles_X5_size
set_option maxRecDepth 20000 in
theorem ggL_areFiles_X5_generations : GoodIn wsL_areFiles wsX5_generations := goodIn_ca (goodIn_r _ [50, 51, 9, 10, 11, 5, 12, 7, 8, 13, 77, 78, 79, 80, 81, 82, 83, 84, 85, 86, 68, 69, 70, 71, 72, 73, 74, 75, 76] (by decide +kernel) (by decide +kernel)) (goodIn_sub (fun _ h => List.mem_cons_of_mem _ (List.mem_append_right _ h)) (by decide +kernel))
set_option maxRecDepth 20000 in
theorem gL_areFiles_X5_generations : GoodIn wsL_areFiles (wsV RL 31 RX5 yX5_generations wsX5_generations) := goodIn_app (goodIn_of _ (by decide +kernel)) ggL_areFiles_X5_generations
set_option maxRecDepth 20000 in
theorem ggL_areFiles_X5_targetsOf : GoodIn wsL_areFiles wsX5_targetsOf := goodIn_ca (goodIn_r _ [55, 7, 8, 56, 57, 58, 59, 60, 61, 62, 63, 64, 65, 66, 67, 68, 69, 70, 71, 72, 73, 74, 75, 76, 87, 88, 89] (by decide +kernel) (by decide +kernel)) (goodIn_sub (fun _ h => List.mem_cons_of_mem _ (List.mem_append_right _ h)) (by decide +kernel))
set_option maxRecDepth 20000 in
theorem gL_areFiles_X5_targetsOf : GoodIn wsL_areFiles (wsV RL 99 RX5 yX5_targetsOf wsX5_targetsOf) := goodIn_app (goodIn_of _ (by decide +kernel)) ggL_areFiles_X5_targetsOf
theorem dL_areFiles_0 : decode cL_areFiles 0 = .ok (.iconst 1, 1) := by decide +kernel
theorem dL_areFiles_1 : decode cL_areFiles 1 = .ok (.istore_n 3, 1) := by decide +kernel
theorem dL_areFiles_2 : decode cL_areFiles 2 = .ok (.iconst 0, 1) := by decide +kernel
theorem dL_areFiles_3 : decode cL_areFiles 3 = .ok (.istore 4, 2) := by decide +kernel
theorem dL_areFiles_5 : decode cL_areFiles 5 = .ok (.iload 4, 2) := by decide +kernel
theorem dL_areFiles_7 : decode cL_areFiles 7 = .ok (.iconst 4, 1) := by decide +kernel
theorem dL_areFiles_8 : decode cL_areFiles 8 = .ok (.if_icmp .ge 269, 3) := by decide +kernel
theorem dL_areFiles_11 : decode cL_areFiles 11 = .ok (.iload_n 3, 1) := by decide +kernel
theorem dL_areFiles_12 : decode cL_areFiles 12 = .ok (.ifCond .eq 265, 3) := by decide +kernel
theorem dL_areFiles_15 : decode cL_areFiles 15 = .ok (.iconst 0, 1) := by decide +kernel
theorem dL_areFiles_16 : decode cL_areFiles 16 = .ok (.istore 5, 2) := by decide +kernel
theorem dL_areFiles_18 : decode cL_areFiles 18 = .ok (.aload_n 0, 1) := by decide +kernel
theorem dL_areFiles_19 : decode cL_areFiles 19 = .ok (.iload 4, 2) := by decide +kernel
theorem dL_areFiles_21 : decode cL_areFiles 21 = .ok (.iconst (-1), 1) := by decide +kernel
theorem dL_areFiles_22 : decode cL_areFiles 22 = .ok (.invokevirtual 40, 3) := by decide +kernel
theorem dL_areFiles_25 : decode cL_areFiles 25 = .ok (.istore 6, 2) := by decide +kernel
theorem dL_areFiles_27 : decode cL_areFiles 27 = .ok (.iconst 0, 1) := by decide +kernel
theorem dL_areFiles_28 : decode cL_areFiles 28 = .ok (.istore 7, 2) := by decide +kernel
theorem dL_areFiles_30 : decode cL_areFiles 30 = .ok (.iload 7, 2) := by decide +kernel
theorem dL_areFiles_32 : decode cL_areFiles 32 = .ok (.iload 6, 2) := by decide +kernel
theorem dL_areFiles_34 : decode cL_areFiles 34 = .ok (.if_icmp .ge 54, 3) := by decide +kernel
theorem dL_areFiles_37 : decode cL_areFiles 37 = .ok (.aload_n 0, 1) := by decide +kernel
theorem dL_areFiles_38 : decode cL_areFiles 38 = .ok (.iload 4, 2) := by decide +kernel
theorem dL_areFiles_40 : decode cL_areFiles 40 = .ok (.iconst (-1), 1) := by decide +kernel
theorem dL_areFiles_41 : decode cL_areFiles 41 = .ok (.iload 7, 2) := by decide +kernel
theorem dL_areFiles_43 : decode cL_areFiles 43 = .ok (.invokevirtual 102, 3) := by decide +kernel
theorem dL_areFiles_46 : decode cL_areFiles 46 = .ok (.istore 8, 2) := by decide +kernel
theorem dL_areFiles_48 : decode cL_areFiles 48 = .ok (.iload 5, 2) := by decide +kernel
theorem dL_areFiles_50 : decode cL_areFiles 50 = .ok (.iload 8, 2) := by decide +kernel
theorem dL_areFiles_52 : decode cL_areFiles 52 = .ok (.ldc 106, 2) := by decide +kernel
theorem dL_areFiles_54 : decode cL_areFiles 54 = .ok (.if_icmp .lt 8, 3) := by decide +kernel
theorem dL_areFiles_57 : decode cL_areFiles 57 = .ok (.bipush 20, 2) := by decide +kernel
theorem dL_areFiles_59 : decode cL_areFiles 59 = .ok (.goto 20, 3) := by decide +kernel
theorem dL_areFiles_62 : decode cL_areFiles 62 = .ok (.iload 8, 2) := by decide +kernel
theorem dL_areFiles_64 : decode cL_areFiles 64 = .ok (.sipush 10000, 3) := by decide +kernel
theorem dL_areFiles_67 : decode cL_areFiles 67 = .ok (.if_icmp .lt 8, 3) := by decide +kernel
theorem dL_areFiles_70 : decode cL_areFiles 70 = .ok (.bipush 15, 2) := by decide +kernel
theorem dL_areFiles_72 : decode cL_areFiles 72 = .ok (.goto 7, 3) := by decide +kernel
theorem dL_areFiles_75 : decode cL_areFiles 75 = .ok (.aload_n 1, 1) := by decide +kernel
theorem dL_areFiles_76 : decode cL_areFiles 76 = .ok (.iload 8, 2) := by decide +kernel
theorem dL_areFiles_78 : decode cL_areFiles 78 = .ok (.iaload, 1) := by decide +kernel
theorem dL_areFiles_79 : decode cL_areFiles 79 = .ok (.iadd, 1) := by decide +kernel
theorem dL_areFiles_80 : decode cL_areFiles 80 = .ok (.istore 5, 2) := by decide +kernel
theorem dL_areFiles_82 : decode cL_areFiles 82 = .ok (.iinc 7 1, 3) := by decide +kernel
theorem dL_areFiles_85 : decode cL_areFiles 85 = .ok (.goto (-55), 3) := by decide +kernel
theorem dL_areFiles_88 : decode cL_areFiles 88 = .ok (.aload_n 0, 1) := by decide +kernel
theorem dL_areFiles_89 : decode cL_areFiles 89 = .ok (.iload 4, 2) := by decide +kernel
theorem dL_areFiles_91 : decode cL_areFiles 91 = .ok (.invokevirtual 28, 3) := by decide +kernel
theorem dL_areFiles_94 : decode cL_areFiles 94 = .ok (.iload 5, 2) := by decide +kernel
theorem dL_areFiles_96 : decode cL_areFiles 96 = .ok (.if_icmp .ne 32, 3) := by decide +kernel
theorem dL_areFiles_99 : decode cL_areFiles 99 = .ok (.aload_n 0, 1) := by decide +kernel
theorem dL_areFiles_100 : decode cL_areFiles 100 = .ok (.iload 4, 2) := by decide +kernel
theorem dL_areFiles_102 : decode cL_areFiles 102 = .ok (.invokevirtual 31, 3) := by decide +kernel
theorem dL_areFiles_105 : decode cL_areFiles 105 = .ok (.ifCond .lt 23, 3) := by decide +kernel
theorem dL_areFiles_108 : decode cL_areFiles 108 = .ok (.aload_n 0, 1) := by decide +kernel
theorem dL_areFiles_109 : decode cL_areFiles 109 = .ok (.iload 4, 2) := by decide +kernel
theorem dL_areFiles_111 : decode cL_areFiles 111 = .ok (.invokevirtual 31, 3) := by decide +kernel
theorem dL_areFiles_114 : decode cL_areFiles 114 = .ok (.aload_n 2, 1) := by decide +kernel
theorem dL_areFiles_115 : decode cL_areFiles 115 = .ok (.bipush 6, 2) := by decide +kernel
theorem dL_areFiles_117 : decode cL_areFiles 117 = .ok (.iload 4, 2) := by decide +kernel
theorem dL_areFiles_119 : decode cL_areFiles 119 = .ok (.iadd, 1) := by decide +kernel
theorem dL_areFiles_120 : decode cL_areFiles 120 = .ok (.iaload, 1) := by decide +kernel
theorem dL_areFiles_121 : decode cL_areFiles 121 = .ok (.if_icmp .gt 7, 3) := by decide +kernel
theorem dL_areFiles_124 : decode cL_areFiles 124 = .ok (.iconst 1, 1) := by decide +kernel
theorem dL_areFiles_125 : decode cL_areFiles 125 = .ok (.goto 4, 3) := by decide +kernel
theorem dL_areFiles_128 : decode cL_areFiles 128 = .ok (.iconst 0, 1) := by decide +kernel
theorem dL_areFiles_129 : decode cL_areFiles 129 = .ok (.istore_n 3, 1) := by decide +kernel
theorem dL_areFiles_130 : decode cL_areFiles 130 = .ok (.iconst (-1), 1) := by decide +kernel
theorem dL_areFiles_131 : decode cL_areFiles 131 = .ok (.istore 7, 2) := by decide +kernel
theorem dL_areFiles_133 : decode cL_areFiles 133 = .ok (.aload_n 0, 1) := by decide +kernel
theorem dL_areFiles_134 : decode cL_areFiles 134 = .ok (.iload 4, 2) := by decide +kernel
theorem dL_areFiles_136 : decode cL_areFiles 136 = .ok (.invokevirtual 31, 3) := by decide +kernel
theorem dL_areFiles_139 : decode cL_areFiles 139 = .ok (.iconst 1, 1) := by decide +kernel
theorem dL_areFiles_140 : decode cL_areFiles 140 = .ok (.isub, 1) := by decide +kernel
theorem dL_areFiles_141 : decode cL_areFiles 141 = .ok (.istore 8, 2) := by decide +kernel
theorem dL_areFiles_143 : decode cL_areFiles 143 = .ok (.iload 8, 2) := by decide +kernel
theorem dL_areFiles_145 : decode cL_areFiles 145 = .ok (.iconst (-1), 1) := by decide +kernel
theorem dL_areFiles_146 : decode cL_areFiles 146 = .ok (.if_icmp .lt 125, 3) := by decide +kernel
theorem dL_areFiles_149 : decode cL_areFiles 149 = .ok (.iload_n 3, 1) := by decide +kernel
theorem dL_areFiles_150 : decode cL_areFiles 150 = .ok (.ifCond .eq 121, 3) := by decide +kernel
theorem dL_areFiles_153 : decode cL_areFiles 153 = .ok (.aload_n 0, 1) := by decide +kernel
theorem dL_areFiles_154 : decode cL_areFiles 154 = .ok (.iload 4, 2) := by decide +kernel
theorem dL_areFiles_156 : decode cL_areFiles 156 = .ok (.iload 8, 2) := by decide +kernel
theorem dL_areFiles_158 : decode cL_areFiles 158 = .ok (.invokevirtual 40, 3) := by decide +kernel
theorem dL_areFiles_161 : decode cL_areFiles 161 = .ok (.istore 9, 2) := by decide +kernel
theorem dL_areFiles_163 : decode cL_areFiles 163 = .ok (.iload 9, 2) := by decide +kernel
theorem dL_areFiles_165 : decode cL_areFiles 165 = .ok (.ifCond .gt 9, 3) := by decide +kernel
theorem dL_areFiles_168 : decode cL_areFiles 168 = .ok (.iload 8, 2) := by decide +kernel
theorem dL_areFiles_170 : decode cL_areFiles 170 = .ok (.iconst (-1), 1) := by decide +kernel
theorem dL_areFiles_171 : decode cL_areFiles 171 = .ok (.if_icmp .ne 7, 3) := by decide +kernel
theorem dL_areFiles_174 : decode cL_areFiles 174 = .ok (.iconst 1, 1) := by decide +kernel
theorem dL_areFiles_175 : decode cL_areFiles 175 = .ok (.goto 4, 3) := by decide +kernel
theorem dL_areFiles_178 : decode cL_areFiles 178 = .ok (.iconst 0, 1) := by decide +kernel
theorem dL_areFiles_179 : decode cL_areFiles 179 = .ok (.istore_n 3, 1) := by decide +kernel
theorem dL_areFiles_180 : decode cL_areFiles 180 = .ok (.iconst 0, 1) := by decide +kernel
theorem dL_areFiles_181 : decode cL_areFiles 181 = .ok (.istore 10, 2) := by decide +kernel
theorem dL_areFiles_183 : decode cL_areFiles 183 = .ok (.iload 10, 2) := by decide +kernel
theorem dL_areFiles_185 : decode cL_areFiles 185 = .ok (.iload 9, 2) := by decide +kernel
theorem dL_areFiles_187 : decode cL_areFiles 187 = .ok (.if_icmp .ge 78, 3) := by decide +kernel
theorem dL_areFiles_190 : decode cL_areFiles 190 = .ok (.aload_n 0, 1) := by decide +kernel
theorem dL_areFiles_191 : decode cL_areFiles 191 = .ok (.iload 4, 2) := by decide +kernel
theorem dL_areFiles_193 : decode cL_areFiles 193 = .ok (.iload 8, 2) := by decide +kernel
theorem dL_areFiles_195 : decode cL_areFiles 195 = .ok (.iload 10, 2) := by decide +kernel
theorem dL_areFiles_197 : decode cL_areFiles 197 = .ok (.invokevirtual 102, 3) := by decide +kernel
theorem dL_areFiles_200 : decode cL_areFiles 200 = .ok (.istore 11, 2) := by decide +kernel
theorem dL_areFiles_202 : decode cL_areFiles 202 = .ok (.iload_n 3, 1) := by decide +kernel
theorem dL_areFiles_203 : decode cL_areFiles 203 = .ok (.ifCond .eq 37, 3) := by decide +kernel
theorem dL_areFiles_206 : decode cL_areFiles 206 = .ok (.iload 11, 2) := by decide +kernel
theorem dL_areFiles_208 : decode cL_areFiles 208 = .ok (.sipush 10000, 3) := by decide +kernel
theorem dL_areFiles_211 : decode cL_areFiles 211 = .ok (.if_icmp .ge 25, 3) := by decide +kernel
theorem dL_areFiles_214 : decode cL_areFiles 214 = .ok (.iload 11, 2) := by decide +kernel
theorem dL_areFiles_216 : decode cL_areFiles 216 = .ok (.iload 7, 2) := by decide +kernel
theorem dL_areFiles_218 : decode cL_areFiles 218 = .ok (.if_icmp .le 22, 3) := by decide +kernel
theorem dL_areFiles_221 : decode cL_areFiles 221 = .ok (.aload_n 0, 1) := by decide +kernel
theorem dL_areFiles_222 : decode cL_areFiles 222 = .ok (.iload 11, 2) := by decide +kernel
theorem dL_areFiles_224 : decode cL_areFiles 224 = .ok (.invokevirtual 99, 3) := by decide +kernel
theorem dL_areFiles_227 : decode cL_areFiles 227 = .ok (.iload 4, 2) := by decide +kernel
theorem dL_areFiles_229 : decode cL_areFiles 229 = .ok (.ishr, 1) := by decide +kernel
theorem dL_areFiles_230 : decode cL_areFiles 230 = .ok (.iconst 1, 1) := by decide +kernel
theorem dL_areFiles_231 : decode cL_areFiles 231 = .ok (.iand, 1) := by decide +kernel
theorem dL_areFiles_232 : decode cL_areFiles 232 = .ok (.iconst 1, 1) := by decide +kernel
theorem dL_areFiles_233 : decode cL_areFiles 233 = .ok (.if_icmp .ne 7, 3) := by decide +kernel
theorem dL_areFiles_236 : decode cL_areFiles 236 = .ok (.iconst 1, 1) := by decide +kernel
theorem dL_areFiles_237 : decode cL_areFiles 237 = .ok (.goto 4, 3) := by decide +kernel
theorem dL_areFiles_240 : decode cL_areFiles 240 = .ok (.iconst 0, 1) := by decide +kernel
theorem dL_areFiles_241 : decode cL_areFiles 241 = .ok (.istore_n 3, 1) := by decide +kernel
theorem dL_areFiles_242 : decode cL_areFiles 242 = .ok (.iload 11, 2) := by decide +kernel
theorem dL_areFiles_244 : decode cL_areFiles 244 = .ok (.sipush 10000, 3) := by decide +kernel
theorem dL_areFiles_247 : decode cL_areFiles 247 = .ok (.if_icmp .ge 8, 3) := by decide +kernel
theorem dL_areFiles_250 : decode cL_areFiles 250 = .ok (.iload 11, 2) := by decide +kernel
theorem dL_areFiles_252 : decode cL_areFiles 252 = .ok (.goto 5, 3) := by decide +kernel
theorem dL_areFiles_255 : decode cL_areFiles 255 = .ok (.iload 7, 2) := by decide +kernel
theorem dL_areFiles_257 : decode cL_areFiles 257 = .ok (.istore 7, 2) := by decide +kernel
theorem dL_areFiles_259 : decode cL_areFiles 259 = .ok (.iinc 10 1, 3) := by decide +kernel
theorem dL_areFiles_262 : decode cL_areFiles 262 = .ok (.goto (-79), 3) := by decide +kernel
theorem dL_areFiles_265 : decode cL_areFiles 265 = .ok (.iinc 8 (-1), 3) := by decide +kernel
theorem dL_areFiles_268 : decode cL_areFiles 268 = .ok (.goto (-125), 3) := by decide +kernel
theorem dL_areFiles_271 : decode cL_areFiles 271 = .ok (.iinc 4 1, 3) := by decide +kernel
theorem dL_areFiles_274 : decode cL_areFiles 274 = .ok (.goto (-269), 3) := by decide +kernel
theorem dL_areFiles_277 : decode cL_areFiles 277 = .ok (.iload_n 3, 1) := by decide +kernel
theorem dL_areFiles_278 : decode cL_areFiles 278 = .ok (.ireturn, 1) := by decide +kernel
set_option maxRecDepth 20000 in
theorem ggL_isLedger_X5_messages : GoodIn wsL_isLedger wsX5_messages := goodIn_r _ [6, 7, 8, 97, 98, 99, 100, 101, 102, 103, 104, 105, 106, 107, 108] (by decide +kernel) (by decide +kernel)
set_option maxRecDepth 20000 in
theorem gL_isLedger_X5_messages : GoodIn wsL_isLedger (wsV RL 93 RX5 yX5_messages wsX5_messages) := goodIn_app (goodIn_of _ (by decide +kernel)) ggL_isLedger_X5_messages
set_option maxRecDepth 20000 in
theorem ggL_isLedger_X5_fateOf : GoodIn wsL_isLedger wsX5_fateOf := goodIn_ca (goodIn_r _ [12, 13, 14, 7, 15, 16, 17, 18, 19, 20, 21, 22, 23, 24, 25, 97, 98, 99, 100, 101, 102, 103, 104, 105, 106, 107, 108] (by decide +kernel) (by decide +kernel)) (goodIn_sub (fun _ h => List.mem_cons_of_mem _ (List.mem_append_right _ h)) (by decide +kernel))
set_option maxRecDepth 20000 in
theorem gL_isLedger_X5_fateOf : GoodIn wsL_isLedger (wsV RL 96 RX5 yX5_fateOf wsX5_fateOf) := goodIn_app (goodIn_of _ (by decide +kernel)) ggL_isLedger_X5_fateOf
set_option maxRecDepth 20000 in
theorem ggL_isLedger_X5_targetsOf : GoodIn wsL_isLedger wsX5_targetsOf := goodIn_ca (goodIn_r _ [29, 13, 14, 7, 15, 16, 17, 18, 19, 20, 30, 31, 32, 33, 34, 97, 98, 99, 100, 101, 102, 103, 104, 105, 106, 107, 108] (by decide +kernel) (by decide +kernel)) (goodIn_sub (fun _ h => List.mem_cons_of_mem _ (List.mem_append_right _ h)) (by decide +kernel))
set_option maxRecDepth 20000 in
theorem gL_isLedger_X5_targetsOf : GoodIn wsL_isLedger (wsV RL 99 RX5 yX5_targetsOf wsX5_targetsOf) := goodIn_app (goodIn_of _ (by decide +kernel)) ggL_isLedger_X5_targetsOf
set_option maxRecDepth 20000 in
theorem ggL_isLedger_X5_count : GoodIn wsL_isLedger wsX5_count := goodIn_ca (goodIn_r _ [38, 13, 14, 7, 39, 40, 5, 41, 42, 43, 44, 18, 45, 20, 25, 97, 98, 99, 100, 101, 102, 103, 104, 105, 106, 107, 108] (by decide +kernel) (by decide +kernel)) (goodIn_sub (fun _ h => List.mem_cons_of_mem _ (List.mem_append_right _ h)) (by decide +kernel))
set_option maxRecDepth 20000 in
theorem gL_isLedger_X5_count : GoodIn wsL_isLedger (wsV RL 107 RX5 yX5_count wsX5_count) := goodIn_app (goodIn_of _ (by decide +kernel)) ggL_isLedger_X5_count
set_option maxRecDepth 20000 in
theorem ggL_isLedger_X5_drops : GoodIn wsL_isLedger wsX5_drops := goodIn_ca (goodIn_r _ [49, 50, 51, 52, 53, 5, 54, 13, 14, 55, 109, 110, 111, 112, 113, 114, 115, 116, 117, 97, 98, 99, 100, 101, 102, 103, 104, 105] (by decide +kernel) (by decide +kernel)) (goodIn_sub (fun _ h => List.mem_cons_of_mem _ (List.mem_append_right _ h)) (by decide +kernel))
set_option maxRecDepth 20000 in
theorem gL_isLedger_X5_drops : GoodIn wsL_isLedger (wsV RL 87 RX5 yX5_drops wsX5_drops) := goodIn_app (goodIn_of _ (by decide +kernel)) ggL_isLedger_X5_drops
set_option maxRecDepth 20000 in
theorem ggL_isLedger_X5_repeats : GoodIn wsL_isLedger wsX5_repeats := goodIn_ca (goodIn_r _ [59, 60, 51, 52, 53, 5, 54, 13, 14, 55, 109, 110, 111, 112, 113, 114, 115, 116, 117, 97, 98, 99, 100, 101, 102, 103, 104, 105] (by decide +kernel) (by decide +kernel)) (goodIn_sub (fun _ h => List.mem_cons_of_mem _ (List.mem_append_right _ h)) (by decide +kernel))
set_option maxRecDepth 20000 in
theorem gL_isLedger_X5_repeats : GoodIn wsL_isLedger (wsV RL 60 RX5 yX5_repeats wsX5_repeats) := goodIn_app (goodIn_of _ (by decide +kernel)) ggL_isLedger_X5_repeats
set_option maxRecDepth 20000 in
theorem ggL_isLedger_X5_tokens : GoodIn wsL_isLedger wsX5_tokens := goodIn_ca (goodIn_r _ [64, 65, 51, 52, 53, 5, 54, 13, 14, 55, 109, 110, 111, 112, 113, 114, 115, 116, 117, 97, 98, 99, 100, 101, 102, 103, 104, 105] (by decide +kernel) (by decide +kernel)) (goodIn_sub (fun _ h => List.mem_cons_of_mem _ (List.mem_append_right _ h)) (by decide +kernel))
set_option maxRecDepth 20000 in
theorem gL_isLedger_X5_tokens : GoodIn wsL_isLedger (wsV RL 63 RX5 yX5_tokens wsX5_tokens) := goodIn_app (goodIn_of _ (by decide +kernel)) ggL_isLedger_X5_tokens
set_option maxRecDepth 20000 in
theorem ggL_isLedger_X5_queued : GoodIn wsL_isLedger wsX5_queued := goodIn_r _ [69, 70, 71, 72, 73, 74, 75, 76, 77, 97, 98, 99, 100, 101, 102, 103, 104, 105, 118, 119, 120, 121, 122, 123] (by decide +kernel) (by decide +kernel)
set_option maxRecDepth 20000 in
theorem gL_isLedger_X5_queued : GoodIn wsL_isLedger (wsV RL 66 RX5 yX5_queued wsX5_queued) := goodIn_app (goodIn_of _ (by decide +kernel)) ggL_isLedger_X5_queued
set_option maxRecDepth 20000 in
theorem ggL_isLedger_X5_inFlight : GoodIn wsL_isLedger wsX5_inFlight := goodIn_r _ [81, 70, 82, 83, 84, 74, 85, 77, 86, 97, 98, 99, 100, 101, 102, 103, 104, 105, 118, 119, 120, 121, 122, 123] (by decide +kernel) (by decide +kernel)
set_option maxRecDepth 20000 in
theorem gL_isLedger_X5_inFlight : GoodIn wsL_isLedger (wsV RL 69 RX5 yX5_inFlight wsX5_inFlight) := goodIn_app (goodIn_of _ (by decide +kernel)) ggL_isLedger_X5_inFlight
set_option maxRecDepth 20000 in
theorem ggL_isLedger_X5_acknowledged : GoodIn wsL_isLedger wsX5_acknowledged := goodIn_r _ [90, 70, 91, 97, 98, 99, 100, 101, 102, 103, 104, 105, 118, 119, 120, 121, 122, 123] (by decide +kernel) (by decide +kernel)
set_option maxRecDepth 20000 in
theorem gL_isLedger_X5_acknowledged : GoodIn wsL_isLedger (wsV RL 78 RX5 yX5_acknowledged wsX5_acknowledged) := goodIn_app (goodIn_of _ (by decide +kernel)) ggL_isLedger_X5_acknowledged
set_option maxRecDepth 20000 in
theorem ggL_isLedger_X5_lost : GoodIn wsL_isLedger wsX5_lost := goodIn_r _ [95, 70, 96, 97, 98, 99, 100, 101, 102, 103, 104, 105, 118, 119, 120, 121, 122, 123] (by decide +kernel) (by decide +kernel)
set_option maxRecDepth 20000 in
theorem gL_isLedger_X5_lost : GoodIn wsL_isLedger (wsV RL 110 RX5 yX5_lost wsX5_lost) := goodIn_app (goodIn_of _ (by decide +kernel)) ggL_isLedger_X5_lost
theorem dL_isLedger_0 : decode cL_isLedger 0 = .ok (.iconst 4, 1) := by decide +kernel
theorem dL_isLedger_1 : decode cL_isLedger 1 = .ok (.newarray .int, 2) := by decide +kernel
theorem dL_isLedger_3 : decode cL_isLedger 3 = .ok (.astore_n 2, 1) := by decide +kernel
theorem dL_isLedger_4 : decode cL_isLedger 4 = .ok (.iconst 0, 1) := by decide +kernel
theorem dL_isLedger_5 : decode cL_isLedger 5 = .ok (.istore_n 3, 1) := by decide +kernel
theorem dL_isLedger_6 : decode cL_isLedger 6 = .ok (.aload_n 0, 1) := by decide +kernel
theorem dL_isLedger_7 : decode cL_isLedger 7 = .ok (.invokevirtual 93, 3) := by decide +kernel
theorem dL_isLedger_10 : decode cL_isLedger 10 = .ok (.aload_n 1, 1) := by decide +kernel
theorem dL_isLedger_11 : decode cL_isLedger 11 = .ok (.iconst 0, 1) := by decide +kernel
theorem dL_isLedger_12 : decode cL_isLedger 12 = .ok (.iaload, 1) := by decide +kernel
theorem dL_isLedger_13 : decode cL_isLedger 13 = .ok (.if_icmp .ne 7, 3) := by decide +kernel
theorem dL_isLedger_16 : decode cL_isLedger 16 = .ok (.iconst 1, 1) := by decide +kernel
theorem dL_isLedger_17 : decode cL_isLedger 17 = .ok (.goto 4, 3) := by decide +kernel
theorem dL_isLedger_20 : decode cL_isLedger 20 = .ok (.iconst 0, 1) := by decide +kernel
theorem dL_isLedger_21 : decode cL_isLedger 21 = .ok (.istore 4, 2) := by decide +kernel
theorem dL_isLedger_23 : decode cL_isLedger 23 = .ok (.iconst 0, 1) := by decide +kernel
theorem dL_isLedger_24 : decode cL_isLedger 24 = .ok (.istore 5, 2) := by decide +kernel
theorem dL_isLedger_26 : decode cL_isLedger 26 = .ok (.iload 5, 2) := by decide +kernel
theorem dL_isLedger_28 : decode cL_isLedger 28 = .ok (.aload_n 1, 1) := by decide +kernel
theorem dL_isLedger_29 : decode cL_isLedger 29 = .ok (.iconst 0, 1) := by decide +kernel
theorem dL_isLedger_30 : decode cL_isLedger 30 = .ok (.iaload, 1) := by decide +kernel
theorem dL_isLedger_31 : decode cL_isLedger 31 = .ok (.if_icmp .ge 32, 3) := by decide +kernel
theorem dL_isLedger_34 : decode cL_isLedger 34 = .ok (.aload_n 2, 1) := by decide +kernel
theorem dL_isLedger_35 : decode cL_isLedger 35 = .ok (.aload_n 0, 1) := by decide +kernel
theorem dL_isLedger_36 : decode cL_isLedger 36 = .ok (.iload 5, 2) := by decide +kernel
theorem dL_isLedger_38 : decode cL_isLedger 38 = .ok (.invokevirtual 96, 3) := by decide +kernel
theorem dL_isLedger_41 : decode cL_isLedger 41 = .ok (.dup2, 1) := by decide +kernel
theorem dL_isLedger_42 : decode cL_isLedger 42 = .ok (.iaload, 1) := by decide +kernel
theorem dL_isLedger_43 : decode cL_isLedger 43 = .ok (.iconst 1, 1) := by decide +kernel
theorem dL_isLedger_44 : decode cL_isLedger 44 = .ok (.iadd, 1) := by decide +kernel
theorem dL_isLedger_45 : decode cL_isLedger 45 = .ok (.iastore, 1) := by decide +kernel
theorem dL_isLedger_46 : decode cL_isLedger 46 = .ok (.iload_n 3, 1) := by decide +kernel
theorem dL_isLedger_47 : decode cL_isLedger 47 = .ok (.aload_n 0, 1) := by decide +kernel
theorem dL_isLedger_48 : decode cL_isLedger 48 = .ok (.iload 5, 2) := by decide +kernel
theorem dL_isLedger_50 : decode cL_isLedger 50 = .ok (.invokevirtual 99, 3) := by decide +kernel
theorem dL_isLedger_53 : decode cL_isLedger 53 = .ok (.iconst 4, 1) := by decide +kernel
theorem dL_isLedger_54 : decode cL_isLedger 54 = .ok (.ishr, 1) := by decide +kernel
theorem dL_isLedger_55 : decode cL_isLedger 55 = .ok (.iadd, 1) := by decide +kernel
theorem dL_isLedger_56 : decode cL_isLedger 56 = .ok (.istore_n 3, 1) := by decide +kernel
theorem dL_isLedger_57 : decode cL_isLedger 57 = .ok (.iinc 5 1, 3) := by decide +kernel
theorem dL_isLedger_60 : decode cL_isLedger 60 = .ok (.goto (-34), 3) := by decide +kernel
theorem dL_isLedger_63 : decode cL_isLedger 63 = .ok (.iconst 0, 1) := by decide +kernel
theorem dL_isLedger_64 : decode cL_isLedger 64 = .ok (.istore 5, 2) := by decide +kernel
theorem dL_isLedger_66 : decode cL_isLedger 66 = .ok (.iload 5, 2) := by decide +kernel
theorem dL_isLedger_68 : decode cL_isLedger 68 = .ok (.iconst 4, 1) := by decide +kernel
theorem dL_isLedger_69 : decode cL_isLedger 69 = .ok (.if_icmp .ge 34, 3) := by decide +kernel
theorem dL_isLedger_72 : decode cL_isLedger 72 = .ok (.iload 4, 2) := by decide +kernel
theorem dL_isLedger_74 : decode cL_isLedger 74 = .ok (.ifCond .eq 20, 3) := by decide +kernel
theorem dL_isLedger_77 : decode cL_isLedger 77 = .ok (.aload_n 0, 1) := by decide +kernel
theorem dL_isLedger_78 : decode cL_isLedger 78 = .ok (.iload 5, 2) := by decide +kernel
theorem dL_isLedger_80 : decode cL_isLedger 80 = .ok (.invokevirtual 107, 3) := by decide +kernel
theorem dL_isLedger_83 : decode cL_isLedger 83 = .ok (.aload_n 2, 1) := by decide +kernel
theorem dL_isLedger_84 : decode cL_isLedger 84 = .ok (.iload 5, 2) := by decide +kernel
theorem dL_isLedger_86 : decode cL_isLedger 86 = .ok (.iaload, 1) := by decide +kernel
theorem dL_isLedger_87 : decode cL_isLedger 87 = .ok (.if_icmp .ne 7, 3) := by decide +kernel
theorem dL_isLedger_90 : decode cL_isLedger 90 = .ok (.iconst 1, 1) := by decide +kernel
theorem dL_isLedger_91 : decode cL_isLedger 91 = .ok (.goto 4, 3) := by decide +kernel
theorem dL_isLedger_94 : decode cL_isLedger 94 = .ok (.iconst 0, 1) := by decide +kernel
theorem dL_isLedger_95 : decode cL_isLedger 95 = .ok (.istore 4, 2) := by decide +kernel
theorem dL_isLedger_97 : decode cL_isLedger 97 = .ok (.iinc 5 1, 3) := by decide +kernel
theorem dL_isLedger_100 : decode cL_isLedger 100 = .ok (.goto (-34), 3) := by decide +kernel
theorem dL_isLedger_103 : decode cL_isLedger 103 = .ok (.iconst 0, 1) := by decide +kernel
theorem dL_isLedger_104 : decode cL_isLedger 104 = .ok (.istore 5, 2) := by decide +kernel
theorem dL_isLedger_106 : decode cL_isLedger 106 = .ok (.iconst 0, 1) := by decide +kernel
theorem dL_isLedger_107 : decode cL_isLedger 107 = .ok (.istore 6, 2) := by decide +kernel
theorem dL_isLedger_109 : decode cL_isLedger 109 = .ok (.iconst 0, 1) := by decide +kernel
theorem dL_isLedger_110 : decode cL_isLedger 110 = .ok (.istore 7, 2) := by decide +kernel
theorem dL_isLedger_112 : decode cL_isLedger 112 = .ok (.iload 7, 2) := by decide +kernel
theorem dL_isLedger_114 : decode cL_isLedger 114 = .ok (.bipush 6, 2) := by decide +kernel
theorem dL_isLedger_116 : decode cL_isLedger 116 = .ok (.if_icmp .ge 64, 3) := by decide +kernel
theorem dL_isLedger_119 : decode cL_isLedger 119 = .ok (.iload 5, 2) := by decide +kernel
theorem dL_isLedger_121 : decode cL_isLedger 121 = .ok (.aload_n 0, 1) := by decide +kernel
theorem dL_isLedger_122 : decode cL_isLedger 122 = .ok (.iload 7, 2) := by decide +kernel
theorem dL_isLedger_124 : decode cL_isLedger 124 = .ok (.invokevirtual 87, 3) := by decide +kernel
theorem dL_isLedger_127 : decode cL_isLedger 127 = .ok (.iadd, 1) := by decide +kernel
theorem dL_isLedger_128 : decode cL_isLedger 128 = .ok (.istore 5, 2) := by decide +kernel
theorem dL_isLedger_130 : decode cL_isLedger 130 = .ok (.iload 6, 2) := by decide +kernel
theorem dL_isLedger_132 : decode cL_isLedger 132 = .ok (.aload_n 0, 1) := by decide +kernel
theorem dL_isLedger_133 : decode cL_isLedger 133 = .ok (.iload 7, 2) := by decide +kernel
theorem dL_isLedger_135 : decode cL_isLedger 135 = .ok (.invokevirtual 60, 3) := by decide +kernel
theorem dL_isLedger_138 : decode cL_isLedger 138 = .ok (.iadd, 1) := by decide +kernel
theorem dL_isLedger_139 : decode cL_isLedger 139 = .ok (.istore 6, 2) := by decide +kernel
theorem dL_isLedger_141 : decode cL_isLedger 141 = .ok (.iload 4, 2) := by decide +kernel
theorem dL_isLedger_143 : decode cL_isLedger 143 = .ok (.ifCond .eq 28, 3) := by decide +kernel
theorem dL_isLedger_146 : decode cL_isLedger 146 = .ok (.aload_n 0, 1) := by decide +kernel
theorem dL_isLedger_147 : decode cL_isLedger 147 = .ok (.iload 7, 2) := by decide +kernel
theorem dL_isLedger_149 : decode cL_isLedger 149 = .ok (.invokevirtual 63, 3) := by decide +kernel
theorem dL_isLedger_152 : decode cL_isLedger 152 = .ok (.ifCond .lt 19, 3) := by decide +kernel
theorem dL_isLedger_155 : decode cL_isLedger 155 = .ok (.aload_n 0, 1) := by decide +kernel
theorem dL_isLedger_156 : decode cL_isLedger 156 = .ok (.iload 7, 2) := by decide +kernel
theorem dL_isLedger_158 : decode cL_isLedger 158 = .ok (.invokevirtual 63, 3) := by decide +kernel
theorem dL_isLedger_161 : decode cL_isLedger 161 = .ok (.aload_n 1, 1) := by decide +kernel
theorem dL_isLedger_162 : decode cL_isLedger 162 = .ok (.iconst 2, 1) := by decide +kernel
theorem dL_isLedger_163 : decode cL_isLedger 163 = .ok (.iaload, 1) := by decide +kernel
theorem dL_isLedger_164 : decode cL_isLedger 164 = .ok (.if_icmp .gt 7, 3) := by decide +kernel
theorem dL_isLedger_167 : decode cL_isLedger 167 = .ok (.iconst 1, 1) := by decide +kernel
theorem dL_isLedger_168 : decode cL_isLedger 168 = .ok (.goto 4, 3) := by decide +kernel
theorem dL_isLedger_171 : decode cL_isLedger 171 = .ok (.iconst 0, 1) := by decide +kernel
theorem dL_isLedger_172 : decode cL_isLedger 172 = .ok (.istore 4, 2) := by decide +kernel
theorem dL_isLedger_174 : decode cL_isLedger 174 = .ok (.iinc 7 1, 3) := by decide +kernel
theorem dL_isLedger_177 : decode cL_isLedger 177 = .ok (.goto (-65), 3) := by decide +kernel
theorem dL_isLedger_180 : decode cL_isLedger 180 = .ok (.iload 4, 2) := by decide +kernel
theorem dL_isLedger_182 : decode cL_isLedger 182 = .ok (.ifCond .eq 68, 3) := by decide +kernel
theorem dL_isLedger_185 : decode cL_isLedger 185 = .ok (.iload 5, 2) := by decide +kernel
theorem dL_isLedger_187 : decode cL_isLedger 187 = .ok (.aload_n 2, 1) := by decide +kernel
theorem dL_isLedger_188 : decode cL_isLedger 188 = .ok (.iconst 1, 1) := by decide +kernel
theorem dL_isLedger_189 : decode cL_isLedger 189 = .ok (.iaload, 1) := by decide +kernel
theorem dL_isLedger_190 : decode cL_isLedger 190 = .ok (.if_icmp .gt 60, 3) := by decide +kernel
theorem dL_isLedger_193 : decode cL_isLedger 193 = .ok (.iload 6, 2) := by decide +kernel
theorem dL_isLedger_195 : decode cL_isLedger 195 = .ok (.aload_n 2, 1) := by decide +kernel
theorem dL_isLedger_196 : decode cL_isLedger 196 = .ok (.iconst 0, 1) := by decide +kernel
theorem dL_isLedger_197 : decode cL_isLedger 197 = .ok (.iaload, 1) := by decide +kernel
theorem dL_isLedger_198 : decode cL_isLedger 198 = .ok (.if_icmp .gt 52, 3) := by decide +kernel
theorem dL_isLedger_201 : decode cL_isLedger 201 = .ok (.aload_n 0, 1) := by decide +kernel
theorem dL_isLedger_202 : decode cL_isLedger 202 = .ok (.invokevirtual 66, 3) := by decide +kernel
theorem dL_isLedger_205 : decode cL_isLedger 205 = .ok (.aload_n 0, 1) := by decide +kernel
theorem dL_isLedger_206 : decode cL_isLedger 206 = .ok (.invokevirtual 69, 3) := by decide +kernel
theorem dL_isLedger_209 : decode cL_isLedger 209 = .ok (.iadd, 1) := by decide +kernel
theorem dL_isLedger_210 : decode cL_isLedger 210 = .ok (.bipush 30, 2) := by decide +kernel
theorem dL_isLedger_212 : decode cL_isLedger 212 = .ok (.if_icmp .gt 38, 3) := by decide +kernel
theorem dL_isLedger_215 : decode cL_isLedger 215 = .ok (.aload_n 0, 1) := by decide +kernel
theorem dL_isLedger_216 : decode cL_isLedger 216 = .ok (.invokevirtual 69, 3) := by decide +kernel
theorem dL_isLedger_219 : decode cL_isLedger 219 = .ok (.iconst 5, 1) := by decide +kernel
theorem dL_isLedger_220 : decode cL_isLedger 220 = .ok (.if_icmp .gt 30, 3) := by decide +kernel
theorem dL_isLedger_223 : decode cL_isLedger 223 = .ok (.aload_n 0, 1) := by decide +kernel
theorem dL_isLedger_224 : decode cL_isLedger 224 = .ok (.invokevirtual 66, 3) := by decide +kernel
theorem dL_isLedger_227 : decode cL_isLedger 227 = .ok (.aload_n 0, 1) := by decide +kernel
theorem dL_isLedger_228 : decode cL_isLedger 228 = .ok (.invokevirtual 69, 3) := by decide +kernel
theorem dL_isLedger_231 : decode cL_isLedger 231 = .ok (.iadd, 1) := by decide +kernel
theorem dL_isLedger_232 : decode cL_isLedger 232 = .ok (.aload_n 0, 1) := by decide +kernel
theorem dL_isLedger_233 : decode cL_isLedger 233 = .ok (.invokevirtual 78, 3) := by decide +kernel
theorem dL_isLedger_236 : decode cL_isLedger 236 = .ok (.iadd, 1) := by decide +kernel
theorem dL_isLedger_237 : decode cL_isLedger 237 = .ok (.aload_n 0, 1) := by decide +kernel
theorem dL_isLedger_238 : decode cL_isLedger 238 = .ok (.invokevirtual 110, 3) := by decide +kernel
theorem dL_isLedger_241 : decode cL_isLedger 241 = .ok (.iadd, 1) := by decide +kernel
theorem dL_isLedger_242 : decode cL_isLedger 242 = .ok (.iload_n 3, 1) := by decide +kernel
theorem dL_isLedger_243 : decode cL_isLedger 243 = .ok (.if_icmp .lt 7, 3) := by decide +kernel
theorem dL_isLedger_246 : decode cL_isLedger 246 = .ok (.iconst 1, 1) := by decide +kernel
theorem dL_isLedger_247 : decode cL_isLedger 247 = .ok (.goto 4, 3) := by decide +kernel
theorem dL_isLedger_250 : decode cL_isLedger 250 = .ok (.iconst 0, 1) := by decide +kernel
theorem dL_isLedger_251 : decode cL_isLedger 251 = .ok (.ireturn, 1) := by decide +kernel
end
