section
-- ===== PART A: goes FIRST, ahead of the names: the tables' words, and 'selects' of the private methods out of them =====
/-- a private method of a class that the tables say can be made, by its rows of tables_1 -/
def lw_okq (q : MethodName × Nat) : Prop := (q.1.cls ≠ "java/lang/invoke/MethodHandle" ∧ q.1.cls ≠ "java/lang/invoke/VarHandle") ∧ Cond.instantiable q.1.cls q.2 ∈ tables_1 ∧ Cond.privateMethod q.1 ∈ tables_1 ∧ Cond.instanceMethod q.1 ∈ tables_1
theorem lw_p0 : lw_okq (⟨"java/lang/Throwable", "fillInStackTrace", "(I)Ljava/lang/Throwable;"⟩, 6) := ⟨⟨by decide +kernel, by decide +kernel⟩, List.mem_of_getElem? (i := 286) (by decide +kernel), List.mem_of_getElem? (i := 284) (by decide +kernel), List.mem_of_getElem? (i := 285) (by decide +kernel)⟩
theorem lw_p1 : lw_okq (⟨"LogSpooler", "ruleAt", "(I)LLogSpooler$Rule;"⟩, 9) := ⟨⟨by decide +kernel, by decide +kernel⟩, List.mem_of_getElem? (i := 15) (by decide +kernel), List.mem_of_getElem? (i := 336) (by decide +kernel), List.mem_of_getElem? (i := 337) (by decide +kernel)⟩
theorem lw_p2 : lw_okq (⟨"LogSpooler", "rulesThatAreSet", "()I"⟩, 9) := ⟨⟨by decide +kernel, by decide +kernel⟩, List.mem_of_getElem? (i := 15) (by decide +kernel), List.mem_of_getElem? (i := 362) (by decide +kernel), List.mem_of_getElem? (i := 363) (by decide +kernel)⟩
theorem lw_p3 : lw_okq (⟨"LogSpooler", "fileAt", "(I)LLogSpooler$LogFile;"⟩, 9) := ⟨⟨by decide +kernel, by decide +kernel⟩, List.mem_of_getElem? (i := 15) (by decide +kernel), List.mem_of_getElem? (i := 380) (by decide +kernel), List.mem_of_getElem? (i := 381) (by decide +kernel)⟩
theorem lw_p4 : lw_okq (⟨"LogSpooler", "senderAt", "(I)LLogSpooler$Sender;"⟩, 9) := ⟨⟨by decide +kernel, by decide +kernel⟩, List.mem_of_getElem? (i := 15) (by decide +kernel), List.mem_of_getElem? (i := 398) (by decide +kernel), List.mem_of_getElem? (i := 399) (by decide +kernel)⟩
theorem lw_p5 : lw_okq (⟨"LogSpooler", "tellRepeats", "(LLogSpooler$Sender;)V"⟩, 9) := ⟨⟨by decide +kernel, by decide +kernel⟩, List.mem_of_getElem? (i := 15) (by decide +kernel), List.mem_of_getElem? (i := 436) (by decide +kernel), List.mem_of_getElem? (i := 437) (by decide +kernel)⟩
theorem lw_p6 : lw_okq (⟨"LogSpooler", "route", "(IIIII)I"⟩, 9) := ⟨⟨by decide +kernel, by decide +kernel⟩, List.mem_of_getElem? (i := 15) (by decide +kernel), List.mem_of_getElem? (i := 440) (by decide +kernel), List.mem_of_getElem? (i := 441) (by decide +kernel)⟩
theorem lw_p7 : lw_okq (⟨"LogSpooler", "tellDrops", "(LLogSpooler$Sender;)V"⟩, 9) := ⟨⟨by decide +kernel, by decide +kernel⟩, List.mem_of_getElem? (i := 15) (by decide +kernel), List.mem_of_getElem? (i := 464) (by decide +kernel), List.mem_of_getElem? (i := 465) (by decide +kernel)⟩
theorem lw_p8 : lw_okq (⟨"LogSpooler", "rotationsOfAllFiles", "()I"⟩, 9) := ⟨⟨by decide +kernel, by decide +kernel⟩, List.mem_of_getElem? (i := 15) (by decide +kernel), List.mem_of_getElem? (i := 480) (by decide +kernel), List.mem_of_getElem? (i := 481) (by decide +kernel)⟩
theorem lw_p9 : lw_okq (⟨"LogSpooler", "passOneSecond", "()V"⟩, 9) := ⟨⟨by decide +kernel, by decide +kernel⟩, List.mem_of_getElem? (i := 15) (by decide +kernel), List.mem_of_getElem? (i := 484) (by decide +kernel), List.mem_of_getElem? (i := 485) (by decide +kernel)⟩
theorem lw_p10 : lw_okq (⟨"LogSpooler", "giveTokens", "()V"⟩, 9) := ⟨⟨by decide +kernel, by decide +kernel⟩, List.mem_of_getElem? (i := 15) (by decide +kernel), List.mem_of_getElem? (i := 488) (by decide +kernel), List.mem_of_getElem? (i := 489) (by decide +kernel)⟩
theorem lw_p11 : lw_okq (⟨"LogSpooler", "tellDueRepeats", "()V"⟩, 9) := ⟨⟨by decide +kernel, by decide +kernel⟩, List.mem_of_getElem? (i := 15) (by decide +kernel), List.mem_of_getElem? (i := 496) (by decide +kernel), List.mem_of_getElem? (i := 497) (by decide +kernel)⟩
theorem lw_p12 : lw_okq (⟨"LogSpooler", "firstWithDueRepeats", "()LLogSpooler$Sender;"⟩, 9) := ⟨⟨by decide +kernel, by decide +kernel⟩, List.mem_of_getElem? (i := 15) (by decide +kernel), List.mem_of_getElem? (i := 500) (by decide +kernel), List.mem_of_getElem? (i := 501) (by decide +kernel)⟩
theorem lw_p13 : lw_okq (⟨"LogSpooler", "rotateAgedFiles", "()V"⟩, 9) := ⟨⟨by decide +kernel, by decide +kernel⟩, List.mem_of_getElem? (i := 15) (by decide +kernel), List.mem_of_getElem? (i := 504) (by decide +kernel), List.mem_of_getElem? (i := 505) (by decide +kernel)⟩
theorem lw_p14 : lw_okq (⟨"LogSpooler$Forwarder", "lineAt", "(I)I"⟩, 6) := ⟨⟨by decide +kernel, by decide +kernel⟩, List.mem_of_getElem? (i := 29) (by decide +kernel), List.mem_of_getElem? (i := 560) (by decide +kernel), List.mem_of_getElem? (i := 561) (by decide +kernel)⟩
theorem lw_p15 : lw_okq (⟨"LogSpooler$LogFile", "startOf", "(I)I"⟩, 10) := ⟨⟨by decide +kernel, by decide +kernel⟩, List.mem_of_getElem? (i := 137) (by decide +kernel), List.mem_of_getElem? (i := 620) (by decide +kernel), List.mem_of_getElem? (i := 621) (by decide +kernel)⟩
def lw_privs_1 : List (MethodName × Nat) := [(⟨"java/lang/Throwable", "fillInStackTrace", "(I)Ljava/lang/Throwable;"⟩, 6), (⟨"LogSpooler", "ruleAt", "(I)LLogSpooler$Rule;"⟩, 9), (⟨"LogSpooler", "rulesThatAreSet", "()I"⟩, 9), (⟨"LogSpooler", "fileAt", "(I)LLogSpooler$LogFile;"⟩, 9), (⟨"LogSpooler", "senderAt", "(I)LLogSpooler$Sender;"⟩, 9), (⟨"LogSpooler", "tellRepeats", "(LLogSpooler$Sender;)V"⟩, 9), (⟨"LogSpooler", "route", "(IIIII)I"⟩, 9), (⟨"LogSpooler", "tellDrops", "(LLogSpooler$Sender;)V"⟩, 9), (⟨"LogSpooler", "rotationsOfAllFiles", "()I"⟩, 9), (⟨"LogSpooler", "passOneSecond", "()V"⟩, 9), (⟨"LogSpooler", "giveTokens", "()V"⟩, 9), (⟨"LogSpooler", "tellDueRepeats", "()V"⟩, 9), (⟨"LogSpooler", "firstWithDueRepeats", "()LLogSpooler$Sender;"⟩, 9), (⟨"LogSpooler", "rotateAgedFiles", "()V"⟩, 9), (⟨"LogSpooler$Forwarder", "lineAt", "(I)I"⟩, 6), (⟨"LogSpooler$LogFile", "startOf", "(I)I"⟩, 10)]
theorem lw_r1 : ∀ q ∈ lw_privs_1, lw_okq q := List.forall_mem_cons.mpr ⟨lw_p0, List.forall_mem_cons.mpr ⟨lw_p1, List.forall_mem_cons.mpr ⟨lw_p2, List.forall_mem_cons.mpr ⟨lw_p3, List.forall_mem_cons.mpr ⟨lw_p4, List.forall_mem_cons.mpr ⟨lw_p5, List.forall_mem_cons.mpr ⟨lw_p6, List.forall_mem_cons.mpr ⟨lw_p7, List.forall_mem_cons.mpr ⟨lw_p8, List.forall_mem_cons.mpr ⟨lw_p9, List.forall_mem_cons.mpr ⟨lw_p10, List.forall_mem_cons.mpr ⟨lw_p11, List.forall_mem_cons.mpr ⟨lw_p12, List.forall_mem_cons.mpr ⟨lw_p13, List.forall_mem_cons.mpr ⟨lw_p14, List.forall_mem_cons.mpr ⟨lw_p15, fun _ h => absurd h List.not_mem_nil⟩⟩⟩⟩⟩⟩⟩⟩⟩⟩⟩⟩⟩⟩⟩⟩
theorem lw_p16 : lw_okq (⟨"LogSpoolerModel", "holds", "(I)Z"⟩, 34) := ⟨⟨by decide +kernel, by decide +kernel⟩, List.mem_of_getElem? (i := 682) (by decide +kernel), List.mem_of_getElem? (i := 803) (by decide +kernel), List.mem_of_getElem? (i := 804) (by decide +kernel)⟩
theorem lw_p17 : lw_okq (⟨"LogSpoolerModel", "notes", "(II)I"⟩, 34) := ⟨⟨by decide +kernel, by decide +kernel⟩, List.mem_of_getElem? (i := 682) (by decide +kernel), List.mem_of_getElem? (i := 831) (by decide +kernel), List.mem_of_getElem? (i := 832) (by decide +kernel)⟩
theorem lw_p18 : lw_okq (⟨"LogSpoolerModel", "tellsRepeats", "(I)V"⟩, 34) := ⟨⟨by decide +kernel, by decide +kernel⟩, List.mem_of_getElem? (i := 682) (by decide +kernel), List.mem_of_getElem? (i := 835) (by decide +kernel), List.mem_of_getElem? (i := 836) (by decide +kernel)⟩
theorem lw_p19 : lw_okq (⟨"LogSpoolerModel", "goes", "(IIIII)I"⟩, 34) := ⟨⟨by decide +kernel, by decide +kernel⟩, List.mem_of_getElem? (i := 682) (by decide +kernel), List.mem_of_getElem? (i := 839) (by decide +kernel), List.mem_of_getElem? (i := 840) (by decide +kernel)⟩
theorem lw_p20 : lw_okq (⟨"LogSpoolerModel", "forwards", "(I)V"⟩, 34) := ⟨⟨by decide +kernel, by decide +kernel⟩, List.mem_of_getElem? (i := 682) (by decide +kernel), List.mem_of_getElem? (i := 843) (by decide +kernel), List.mem_of_getElem? (i := 844) (by decide +kernel)⟩
theorem lw_p21 : lw_okq (⟨"LogSpoolerModel", "comesTo", "(III)V"⟩, 34) := ⟨⟨by decide +kernel, by decide +kernel⟩, List.mem_of_getElem? (i := 682) (by decide +kernel), List.mem_of_getElem? (i := 847) (by decide +kernel), List.mem_of_getElem? (i := 848) (by decide +kernel)⟩
theorem lw_p22 : lw_okq (⟨"LogSpoolerModel", "linesOf", "(I)I"⟩, 34) := ⟨⟨by decide +kernel, by decide +kernel⟩, List.mem_of_getElem? (i := 682) (by decide +kernel), List.mem_of_getElem? (i := 851) (by decide +kernel), List.mem_of_getElem? (i := 852) (by decide +kernel)⟩
theorem lw_p23 : lw_okq (⟨"LogSpoolerModel", "rotates", "(I)V"⟩, 34) := ⟨⟨by decide +kernel, by decide +kernel⟩, List.mem_of_getElem? (i := 682) (by decide +kernel), List.mem_of_getElem? (i := 855) (by decide +kernel), List.mem_of_getElem? (i := 856) (by decide +kernel)⟩
theorem lw_p24 : lw_okq (⟨"LogSpoolerModel", "tellsDrops", "(I)V"⟩, 34) := ⟨⟨by decide +kernel, by decide +kernel⟩, List.mem_of_getElem? (i := 682) (by decide +kernel), List.mem_of_getElem? (i := 859) (by decide +kernel), List.mem_of_getElem? (i := 860) (by decide +kernel)⟩
theorem lw_p25 : lw_okq (⟨"LogSpoolerModel", "passes", "()V"⟩, 34) := ⟨⟨by decide +kernel, by decide +kernel⟩, List.mem_of_getElem? (i := 682) (by decide +kernel), List.mem_of_getElem? (i := 868) (by decide +kernel), List.mem_of_getElem? (i := 869) (by decide +kernel)⟩
theorem lw_p26 : lw_okq (⟨"LogSpoolerModel", "due", "()I"⟩, 34) := ⟨⟨by decide +kernel, by decide +kernel⟩, List.mem_of_getElem? (i := 682) (by decide +kernel), List.mem_of_getElem? (i := 872) (by decide +kernel), List.mem_of_getElem? (i := 873) (by decide +kernel)⟩
theorem lw_p27 : lw_okq (⟨"LogSpoolerModel", "isSender", "(I)Z"⟩, 34) := ⟨⟨by decide +kernel, by decide +kernel⟩, List.mem_of_getElem? (i := 682) (by decide +kernel), List.mem_of_getElem? (i := 904) (by decide +kernel), List.mem_of_getElem? (i := 905) (by decide +kernel)⟩
theorem lw_p28 : lw_okq (⟨"LogSpoolerModel", "isPart", "(II)Z"⟩, 34) := ⟨⟨by decide +kernel, by decide +kernel⟩, List.mem_of_getElem? (i := 682) (by decide +kernel), List.mem_of_getElem? (i := 924) (by decide +kernel), List.mem_of_getElem? (i := 925) (by decide +kernel)⟩
theorem lw_p29 : lw_okq (⟨"LogSpoolerModel", "endOf", "(II)I"⟩, 34) := ⟨⟨by decide +kernel, by decide +kernel⟩, List.mem_of_getElem? (i := 682) (by decide +kernel), List.mem_of_getElem? (i := 928) (by decide +kernel), List.mem_of_getElem? (i := 929) (by decide +kernel)⟩
theorem lw_p30 : lw_okq (⟨"LogSpoolerModel", "startOf", "(II)I"⟩, 34) := ⟨⟨by decide +kernel, by decide +kernel⟩, List.mem_of_getElem? (i := 682) (by decide +kernel), List.mem_of_getElem? (i := 932) (by decide +kernel), List.mem_of_getElem? (i := 933) (by decide +kernel)⟩
theorem lw_p31 : lw_okq (⟨"LogSpoolerModel", "isMessage", "(I)Z"⟩, 34) := ⟨⟨by decide +kernel, by decide +kernel⟩, List.mem_of_getElem? (i := 682) (by decide +kernel), List.mem_of_getElem? (i := 968) (by decide +kernel), List.mem_of_getElem? (i := 969) (by decide +kernel)⟩
def lw_privs_2 : List (MethodName × Nat) := [(⟨"LogSpoolerModel", "holds", "(I)Z"⟩, 34), (⟨"LogSpoolerModel", "notes", "(II)I"⟩, 34), (⟨"LogSpoolerModel", "tellsRepeats", "(I)V"⟩, 34), (⟨"LogSpoolerModel", "goes", "(IIIII)I"⟩, 34), (⟨"LogSpoolerModel", "forwards", "(I)V"⟩, 34), (⟨"LogSpoolerModel", "comesTo", "(III)V"⟩, 34), (⟨"LogSpoolerModel", "linesOf", "(I)I"⟩, 34), (⟨"LogSpoolerModel", "rotates", "(I)V"⟩, 34), (⟨"LogSpoolerModel", "tellsDrops", "(I)V"⟩, 34), (⟨"LogSpoolerModel", "passes", "()V"⟩, 34), (⟨"LogSpoolerModel", "due", "()I"⟩, 34), (⟨"LogSpoolerModel", "isSender", "(I)Z"⟩, 34), (⟨"LogSpoolerModel", "isPart", "(II)Z"⟩, 34), (⟨"LogSpoolerModel", "endOf", "(II)I"⟩, 34), (⟨"LogSpoolerModel", "startOf", "(II)I"⟩, 34), (⟨"LogSpoolerModel", "isMessage", "(I)Z"⟩, 34)]
theorem lw_r2 : ∀ q ∈ lw_privs_2, lw_okq q := List.forall_mem_cons.mpr ⟨lw_p16, List.forall_mem_cons.mpr ⟨lw_p17, List.forall_mem_cons.mpr ⟨lw_p18, List.forall_mem_cons.mpr ⟨lw_p19, List.forall_mem_cons.mpr ⟨lw_p20, List.forall_mem_cons.mpr ⟨lw_p21, List.forall_mem_cons.mpr ⟨lw_p22, List.forall_mem_cons.mpr ⟨lw_p23, List.forall_mem_cons.mpr ⟨lw_p24, List.forall_mem_cons.mpr ⟨lw_p25, List.forall_mem_cons.mpr ⟨lw_p26, List.forall_mem_cons.mpr ⟨lw_p27, List.forall_mem_cons.mpr ⟨lw_p28, List.forall_mem_cons.mpr ⟨lw_p29, List.forall_mem_cons.mpr ⟨lw_p30, List.forall_mem_cons.mpr ⟨lw_p31, fun _ h => absurd h List.not_mem_nil⟩⟩⟩⟩⟩⟩⟩⟩⟩⟩⟩⟩⟩⟩⟩⟩
def lw_privs : List (MethodName × Nat) := lw_privs_1 ++ (lw_privs_2)
def lw_tbl : List Cond := k2_sels lw_privs ++ tables_1
theorem lw_privs_ok : ∀ q ∈ lw_privs, lw_okq q := by
  show ∀ q ∈ lw_privs_1 ++ (lw_privs_2), lw_okq q
  exact List.forall_mem_append.mpr ⟨lw_r1, lw_r2⟩
-- ===== end of PART A; then your names; then what follows =====
/-! ===== BEGIN words of one list among another's, by their places ===== -/
theorem goodIn_r {big : List Cond} (ws : List Cond) (ps : List Nat) (hp : ws = ps.filterMap (fun i => big[i]?)) (h : ws.all goodWord = true) : GoodIn big ws := by
  intro w hw
  have h1 := List.all_eq_true.mp h w hw
  rw [hp] at hw
  obtain ⟨i, -, hi⟩ := List.mem_filterMap.mp hw
  have hm : w ∈ big := by first | exact List.mem_of_getElem? hi | exact List.getElem?_mem hi
  exact ⟨hm, good_of_word h1⟩
theorem goodIn_app {big a b : List Cond} (ha : GoodIn big a) (hb : GoodIn big b) : GoodIn big (a ++ b) := fun w h => (List.mem_append.mp h).elim (ha w) (hb w)
theorem goodIn_ca {big a b : List Cond} {c : Cond} (ha : GoodIn big (c :: a)) (hb : GoodIn big b) : GoodIn big (c :: (a ++ b)) := fun w h => (List.mem_cons.mp h).elim (fun e => ha w (List.mem_cons.mpr (Or.inl e))) (fun h => (List.mem_append.mp h).elim (fun h => ha w (List.mem_cons.mpr (Or.inr h))) (hb w))
theorem goodIn_sub {big ws : List Cond} (hm : ∀ w ∈ ws, w ∈ big) (h : ws.all goodWord = true) : GoodIn big ws := fun w hw => ⟨hm w hw, good_of_word (List.all_eq_true.mp h w hw)⟩
/-! ===== END ===== -/

/-! ===== BEGIN exceptions that leave a method, and their catching by the caller (launches without stack traces) ===== -/
section VXA
/-! The laws vx_back, vx_callV, vx_callS, vx_callSW, vx_throw0, vx_throwS follow proofs of the library, with one case more: JvmDerived/Free/Laws.lean (Back.of_free), Shelf42/LK1.lean (callV, callS), Shelf/KitTraced.lean (throwNew0V, throwNewS). -/
/-- where a method has thrown q: the class by its name, the cell, what was written, the world -/
def vx_T (XC : String → State → State → Prop) (st : State) (q : Addr) (t : State) (mc ms : Nat) (free : Addr → Prop) : Prop :=
  ∃ (E : String) (ce : Cell) (L : List Loc), XC E st t ∧ t.heap[q]? = some ce ∧ ce.vm = .none ∧ st.vm.findClass E = some ce.cls ∧ st.WarmedH t.vm ∧ st.sameButNew ({ t with vm := st.vm } : State) L mc ms ∧ ∀ z ∈ L, free z.base
def vx_Q (Qc : Array Value → State → Outcome → State → Prop) (XC : String → State → State → Prop) (mc ms : Nat) (free : Addr → Prop) : Array Value → State → Outcome → State → Prop := fun a st o t =>
  (Qc a st o t ∧ ∃ L, FrameEnd st o t L mc ms ∧ ∀ q ∈ L, free q.base) ∨ ∃ q, o = .threw q ∧ vx_T XC st q t mc ms free
/-- a callee that returns or throws -/
def vx_Met (l : Launch) (y : MethodName) (ws : List Cond) (rm : Room) (Pc : Array Value → State → Prop) (Qc : Array Value → State → Outcome → State → Prop) (XC : String → State → State → Prop) (mc ms : Nat) (free : Addr → Prop) : Prop :=
  MetFree l y (headSpec ws rm) Pc (fun _ _ _ _ _ => True) (vx_Q Qc XC mc ms free)
def vx_Post (XC : String → State → State → Prop) (mc ms : Nat) (free : Addr → Prop) : Pt → Array Value → Addr → Pt → Prop := fun A a q B =>
  ∃ (g : JFrame) (mk : MethodId) (t : State) (L : List Loc) (E : String) (ce : Cell), B.U.heap = t.heap ∧ B.U.vm = t.vm ∧ XC E (A.U.calling g mk a) t ∧ t.heap[q]? = some ce ∧ ce.vm = .none ∧ A.U.vm.findClass E = some ce.cls ∧ B.locs = A.locs ++ L ∧ (∀ z ∈ L, free z.base) ∧ B.cells = A.cells + mc ∧ B.slots = A.slots + ms
def vx_Back (l : Launch) (R : Room) (p : Program) (e : Env) (below : List Frame) (s : State) (sargs : Array Value) (y : MethodName) (len W9 : Nat)
    (Pre : Pt → Array Value → Prop) (Post : Pt → Array Value → Option Value → Pt → Prop) (PostX : Pt → Array Value → Addr → Pt → Prop) : Prop :=
  ∀ (m : MethodId) (meth : Method) (c : Code) (A : Pt) (g : JFrame) (ig : Instr) (mk : MethodId) (a : Array Value),
    Stand p l e R s m sargs below meth c A.U A.locs A.cells A.slots → g.method = m → g.locals.size = c.maxLocals → decode c.code g.pc = .ok (ig, len) →
    2 * g.monitorRoom + (g.stack.map fun v => v.category).sum ≤ W9 → A.U.methodNamed? y = some mk → Pre A a →
    (∃ (v : Option Value) (B : Pt), Stand p l e R s m sargs below meth c B.U B.locs B.cells B.slots ∧ Post A a v B ∧
      Steps p.tables e below (doInvoke e (A.U.setTop g) [] mk a).1 (B.U.setTop { g with pc := g.pc + len, stack := v.toList ++ g.stack })) ∨
    (∃ (q : Addr) (B : Pt), Stand p l e R s m sargs below meth c B.U B.locs B.cells B.slots ∧ PostX A a q B ∧
      Steps p.tables e below (doInvoke e (A.U.setTop g) [] mk a).1 ((B.U.setTop g).pushFrame (.throwing q)))
section Payer
variable {l : Launch} {R : Room} {p : Program} {e : Env} {below : List Frame} {s : State} {sargs : Array Value} {y : MethodName} {len W9 : Nat}
theorem vx_back {ws : List Cond} {rm : Room} {Pc : Array Value → State → Prop} {Qc : Array Value → State → Outcome → State → Prop} {XC : String → State → State → Prop} {mc ms : Nat} {free : Addr → Prop} {bytes : ByteArray} {maxL : Nat} {ret : Option FieldType}
    (hM : vx_Met l y ws rm Pc Qc XC mc ms free) (hblind : FrameBlind Pc) (hrc : rm.cells = mc) (hrs : rm.slots = ms)
    (hframes : rm.frames + 1 ≤ R.frames) (hlocals : W9 + (maxL + 11) + rm.locals ≤ R.locals)
    (hws : ∀ w ∈ ws, ∀ a' U, s.WarmedH U.vm → w.before a' U = true) (hcode : Cond.code y bytes maxL ret ∈ ws) (hinit : ∀ a' U, s.WarmedH U.vm → (Cond.initialized y.cls).before a' U = true) :
    vx_Back l R p e below s sargs y len W9 (PreOf R mc ms Pc) (PostOf Qc mc ms free) (vx_Post XC mc ms free) := by
  intro m meth c A g ig mk a X hg hsize hdg hW hn hp
  have h1 : (headSpec ws rm).pre.before a A.U = true := atoms_intro fun w hw => hws w hw _ _ X.warmed
  have h2 : (Cond.code y bytes maxL ret).before a A.U = true := hws _ hcode _ _ X.warmed
  have h3 : (Cond.initialized y.cls).before a A.U = true := hinit _ _ X.warmed
  have h4 : A.cells + (headSpec ws rm).room.cells ≤ R.cells := by rw [show (headSpec ws rm).room.cells = mc from hrc]; exact hp.1
  have h5 : A.slots + (headSpec ws rm).room.slots ≤ R.slots := by rw [show (headSpec ws rm).room.slots = ms from hrs]; exact hp.2.1
  have hPc : Pc a (A.U.calling g mk a) := hblind _ _ _ _ hp.2.2
  obtain ⟨U, Ls, c0, s0⟩ := A
  dsimp only [Pt.U, Pt.locs, Pt.cells, Pt.slots] at h1 h2 h3 h4 h5 X hn hPc ⊢
  obtain ⟨methY, cY, hmY, hcY, -, hlY, -, -, -, -⟩ := Cond.code_spec hn h2
  obtain ⟨kY, hkY, -⟩ := className_of_methodNamed hn
  have hinitY : kY.init = .initialized := Cond.initialized_spec (findClass_of_methodNamed hn) hkY h3
  have h : At U g.method c below := by rw [hg]; exact X.here
  have hlocals9 : W9 + (maxL + 11) + (headSpec ws rm).room.locals ≤ R.locals := hlocals
  have happ : (headSpec ws rm).appliesLoose y e.platform (U.calling g mk a) = true :=
    Spec.appliesLoose_calling (g := g) h hdg hn hkY hinitY
      (X.room_calling (g := g) (R' := (headSpec ws rm).room) hsize hmY hcY hframes (by rw [hlY]; omega) h4 h5) h1
  obtain ⟨mid, hmid⟩ := h.above
  have hfr : (U.setTop g).frames = (.java g :: mid) ++ below := by rw [State.frames_setTop' g h.top, hmid]; rfl
  obtain ⟨o, s₂, hsteps, -, hend, hq⟩ := Steps.callFree hM p X.admits X.cas X.clock (acts := []) hfr happ hPc trivial
  have hq' : vx_Q Qc XC mc ms free a (U.calling g mk a) o s₂ := hq
  rw [State.frames_setTop' g h.top] at hend
  obtain ⟨g₀, hg0⟩ := Option.isSome_iff_exists.mp h.top
  obtain ⟨r, hr⟩ := State.topJava?_eq_some.mp hg0
  have hr' : (({ U with heap := s₂.heap, slotsUsed := s₂.slotsUsed } : State).setVm s₂.vm).frames = .java g₀ :: r := hr
  rcases hq' with ⟨hqc, L, hfe, hL⟩ | ⟨q, rfl, E, ce, L, hx, hce, hcv, hcl, hW₂, hsm, hL⟩
  · obtain ⟨⟨v, rfl⟩, hW₂, e2, q2, q3, q4, q5, q6⟩ := id hfe
    have e3 : s₂ = ({ (U.calling g mk a).setFrames s₂.frames with heap := s₂.heap, slotsUsed := s₂.slotsUsed } : State).setVm s₂.vm := by
      have : s₂ = ({ s₂ with vm := (U.calling g mk a).vm } : State).setVm s₂.vm := rfl
      rw [e2] at this
      exact this
    obtain ⟨c₂, i₂, len₂, hc₂, hd₂, hf₂⟩ := hend
    have hW' : U.WarmedH s₂.vm := hW₂
    have hcc : c₂ = c := by
      have h1 : s₂.code? g.method = U.code? g.method := by
        rw [State.code?_eq, State.code?_eq, hW'.alike.method?]
      exact Option.some.inj (hc₂.symm.trans (h1.trans h.code))
    subst hcc
    have hlen : len₂ = len := by rw [hdg] at hd₂; cases hd₂; rfl
    subst hlen
    have hs₂ : s₂ = (({ U with heap := s₂.heap, slotsUsed := s₂.slotsUsed } : State).setVm s₂.vm).setTop { g with pc := g.pc + len₂, stack := v.toList ++ g.stack } := by
      refine e3.trans ?_
      rw [hf₂, State.calling_eq h.top, State.setFrames_setFrames, State.setTop_of_frames _ hr', hr]
      rfl
    have hsame : U.sameButNew ({ U with heap := s₂.heap, slotsUsed := s₂.slotsUsed } : State) L mc ms := by
      refine ⟨?_, q2, q3, q4, q5, q6⟩
      obtain ⟨t, ht, -⟩ := State.frames_cons hr
      show ({ U with heap := s₂.heap, slotsUsed := s₂.slotsUsed } : State) = { U.setFrames U.frames with heap := s₂.heap, slotsUsed := s₂.slotsUsed }
      rw [State.setFrames_self ht]
    subst hg
    refine Or.inl ⟨v, ⟨(({ U with heap := s₂.heap, slotsUsed := s₂.slotsUsed } : State).setVm s₂.vm), Ls ++ L, c0 + mc, s0 + ms⟩,
      ⟨X.admits, X.cas, X.clock, X.frames, X.room, X.hears, X.method, X.code, (X.here.setHeapUsed s₂.heap s₂.slotsUsed).setVm hW'.alike, X.tail, State.WarmedH.trans X.warmed hW', X.limits, X.bytes, X.same.trans (hsame.setVm s.vm)⟩,
      ⟨g, mk, s₂, L, rfl, rfl, hqc, rfl, hL, rfl, rfl⟩, ?_⟩
    show Steps p.tables e below _ ((({ U with heap := s₂.heap, slotsUsed := s₂.slotsUsed } : State).setVm s₂.vm).setTop { g with pc := g.pc + len₂, stack := v.toList ++ g.stack })
    rw [← hs₂]
    exact hsteps
  · obtain ⟨e2, q2, q3, q4, q5, q6⟩ := id hsm
    have e3 : s₂ = ({ (U.calling g mk a).setFrames s₂.frames with heap := s₂.heap, slotsUsed := s₂.slotsUsed } : State).setVm s₂.vm := by
      have : s₂ = ({ s₂ with vm := (U.calling g mk a).vm } : State).setVm s₂.vm := rfl
      rw [e2] at this
      exact this
    have hf₂ : s₂.frames = .throwing q :: .java g :: U.frames.tail := hend
    have hW' : U.WarmedH s₂.vm := hW₂
    have hs₂ : s₂ = ((({ U with heap := s₂.heap, slotsUsed := s₂.slotsUsed } : State).setVm s₂.vm).setTop g).pushFrame (.throwing q) := by
      refine e3.trans ?_
      rw [hf₂, State.calling_eq h.top, State.setFrames_setFrames, State.pushFrame, State.frames_setTop _ hr', State.setTop_of_frames _ hr', State.setFrames_setFrames, hr]
      rfl
    have hsame : U.sameButNew ({ U with heap := s₂.heap, slotsUsed := s₂.slotsUsed } : State) L mc ms := by
      refine ⟨?_, q2, q3, q4, q5, q6⟩
      obtain ⟨t, ht, -⟩ := State.frames_cons hr
      show ({ U with heap := s₂.heap, slotsUsed := s₂.slotsUsed } : State) = { U.setFrames U.frames with heap := s₂.heap, slotsUsed := s₂.slotsUsed }
      rw [State.setFrames_self ht]
    subst hg
    refine Or.inr ⟨q, ⟨(({ U with heap := s₂.heap, slotsUsed := s₂.slotsUsed } : State).setVm s₂.vm), Ls ++ L, c0 + mc, s0 + ms⟩,
      ⟨X.admits, X.cas, X.clock, X.frames, X.room, X.hears, X.method, X.code, (X.here.setHeapUsed s₂.heap s₂.slotsUsed).setVm hW'.alike, X.tail, State.WarmedH.trans X.warmed hW', X.limits, X.bytes, X.same.trans (hsame.setVm s.vm)⟩,
      ⟨g, mk, s₂, L, E, ce, rfl, rfl, hx, hce, hcv, hcl, rfl, hL, rfl, rfl⟩, ?_⟩
    show Steps p.tables e below _ (((({ U with heap := s₂.heap, slotsUsed := s₂.slotsUsed } : State).setVm s₂.vm).setTop g).pushFrame (.throwing q))
    rw [← hs₂]
    exact hsteps
end Payer
section Calls
variable {p : Program} {l : Launch} {e : Env} {R : Room} {s : State} {m : MethodId} {args : Array Value} {below : List Frame} {meth : Method} {c : Code} {T : State} {locs : List Loc} {cells slots : Nat}
theorem vx_callV (X : Stand p l e R s m args below meth c T locs cells slots) (hexec : p.tables.exec = Jvm.exec) {own C : String} {index : Nat} {y : MethodName} {bytes : ByteArray} {maxL : Nat} {ret : Option FieldType}
    (hown : s.vm.findClass own = some m.cls) (hlink : (Cond.methodLink own index y).before args s = true) (hinst : (Cond.instanceMethod y).before args s = true) (hsel : (Cond.selects C y y).before args s = true)
    (hcode : (Cond.code y bytes maxL ret).before args s = true) (hy : y.cls ≠ "java/lang/invoke/MethodHandle" ∧ y.cls ≠ "java/lang/invoke/VarHandle")
    {W9 : Nat} {Pre : Pt → Array Value → Prop} {Post : Pt → Array Value → Option Value → Pt → Prop} {PostX : Pt → Array Value → Addr → Pt → Prop} (hK : vx_Back l R p e below s args y 3 W9 Pre Post PostX)
    {b : Addr} {cellB : Cell} (hcell : T.heap[b]? = some cellB) (hobj : cellB.vm.isStatics = false) (hcls : s.vm.findClass C = some cellB.cls)
    {g : JFrame} (hg : g.method = m) (hsize : g.locals.size = c.maxLocals) {argsL rest : List Value} (hlen : ∀ sig, parseMethodDescriptor y.desc = some sig → argsL.length = sig.parameters.length)
    (hstack : g.stack = argsL.reverse ++ .ref b :: rest) (hW : 2 * g.monitorRoom + (rest.map fun v => v.category).sum ≤ W9) (hdg : decode c.code g.pc = .ok (.invokevirtual index, 3))
    (hpre : ∀ vm₁, s.WarmedH vm₁ → Pre ⟨T.setVm vm₁, locs, cells, slots⟩ (Value.ref b :: argsL).toArray) :
    (∃ (v : Option Value) (vm₁ : Vm) (B : Pt), s.WarmedH vm₁ ∧ Stand p l e R s m args below meth c B.U B.locs B.cells B.slots ∧ Post ⟨T.setVm vm₁, locs, cells, slots⟩ (Value.ref b :: argsL).toArray v B ∧
      ∀ target, Steps p.tables e below (B.U.setTop { g with pc := g.pc + 3, stack := v.toList ++ rest }) target → Steps p.tables e below (T.setTop g) target) ∨
    (∃ (q : Addr) (vm₁ : Vm) (B : Pt), s.WarmedH vm₁ ∧ Stand p l e R s m args below meth c B.U B.locs B.cells B.slots ∧ PostX ⟨T.setVm vm₁, locs, cells, slots⟩ (Value.ref b :: argsL).toArray q B ∧
      Steps p.tables e below (T.setTop g) ((B.U.setTop { g with stack := rest }).pushFrame (.throwing q))) := by
  obtain ⟨mk, methM, hnamed, hmethM, hstM, habM⟩ := Cond.instanceMethod_spec hinst
  obtain ⟨methM', cM, hmethM', -, -, -, -, -, -, hsigM⟩ := Cond.code_spec hnamed hcode
  cases hmethM.symm.trans hmethM'
  obtain ⟨c2, r2, m2, q1, q2, q3, q4, kP, hkP, hkPi⟩ := Cond.selects_spec hsel
  cases hcls.symm.trans q1
  cases (State.methodFound?_of_named hnamed hy).symm.trans q2
  cases hnamed.symm.trans q3
  have hselP : selectMethod e.platform s.vm cellB.cls mk = .method mk := by rw [Launch.admits_selectMethod X.admits]; exact q4
  obtain ⟨vm₁, X₁, hstep₁⟩ := X.invokevirtual hexec hown hlink hnamed hmethM hstM hkP hkPi hy (a := b) (cell := cellB) hcell
    (fun z h => by rw [h] at hobj; cases hobj) hselP hmethM habM hkP hkPi (g := g) hg (argsL := argsL) (rest := rest) (hlen _ hsigM) hstack hdg
  rcases hK m meth c ⟨T.setVm vm₁, locs, cells, slots⟩ { g with stack := rest } (.invokevirtual index) mk (Value.ref b :: argsL).toArray X₁ hg hsize hdg hW (X₁.named hnamed) (hpre vm₁ X₁.warmed) with ⟨v, B, X', hpost, hsteps⟩ | ⟨q, B, X', hpost, hsteps⟩
  · exact Or.inl ⟨v, vm₁, B, X₁.warmed, X', hpost, fun target h => hstep₁ _ fun acts => by rw [doInvoke_state]; exact hsteps.trans h⟩
  · exact Or.inr ⟨q, vm₁, B, X₁.warmed, X', hpost, hstep₁ _ fun acts => by rw [doInvoke_state]; exact hsteps⟩
theorem vx_callS (X : Stand p l e R s m args below meth c T locs cells slots) (hexec : p.tables.exec = Jvm.exec) {own : String} {index : Nat} {y : MethodName} {bytes : ByteArray} {maxL : Nat} {ret : Option FieldType}
    (hown : s.vm.findClass own = some m.cls) (hlink : (Cond.methodLink own index y).before args s = true) (hstat : (Cond.static y).before args s = true) (hinit : (Cond.initialized y.cls).before args s = true)
    (hcode : (Cond.code y bytes maxL ret).before args s = true) (hy : y.cls ≠ "java/lang/invoke/MethodHandle" ∧ y.cls ≠ "java/lang/invoke/VarHandle")
    {W9 : Nat} {Pre : Pt → Array Value → Prop} {Post : Pt → Array Value → Option Value → Pt → Prop} {PostX : Pt → Array Value → Addr → Pt → Prop} (hK : vx_Back l R p e below s args y 3 W9 Pre Post PostX)
    {g : JFrame} (hg : g.method = m) (hsize : g.locals.size = c.maxLocals) {argsL rest : List Value} (hlen : ∀ sig, parseMethodDescriptor y.desc = some sig → argsL.length = sig.parameters.length)
    (hstack : g.stack = argsL.reverse ++ rest) (hW : 2 * g.monitorRoom + (rest.map fun v => v.category).sum ≤ W9) (hdg : decode c.code g.pc = .ok (.invokestatic index, 3))
    (hpre : ∀ vm₁, s.WarmedH vm₁ → Pre ⟨T.setVm vm₁, locs, cells, slots⟩ argsL.toArray) :
    (∃ (v : Option Value) (vm₁ : Vm) (B : Pt), s.WarmedH vm₁ ∧ Stand p l e R s m args below meth c B.U B.locs B.cells B.slots ∧ Post ⟨T.setVm vm₁, locs, cells, slots⟩ argsL.toArray v B ∧
      ∀ target, Steps p.tables e below (B.U.setTop { g with pc := g.pc + 3, stack := v.toList ++ rest }) target → Steps p.tables e below (T.setTop g) target) ∨
    (∃ (q : Addr) (vm₁ : Vm) (B : Pt), s.WarmedH vm₁ ∧ Stand p l e R s m args below meth c B.U B.locs B.cells B.slots ∧ PostX ⟨T.setVm vm₁, locs, cells, slots⟩ argsL.toArray q B ∧
      Steps p.tables e below (T.setTop g) ((B.U.setTop { g with stack := rest }).pushFrame (.throwing q))) := by
  obtain ⟨mk, hnamed⟩ := Cond.code_named hcode
  obtain ⟨methM, cM, hmethM, -, -, -, -, -, -, hsigM⟩ := Cond.code_spec hnamed hcode
  have hstatic : methM.isStatic = true := Cond.static_spec hnamed hmethM hstat
  obtain ⟨kP, hkP, -⟩ := className_of_methodNamed hnamed
  have hinitP : kP.init = .initialized := Cond.initialized_spec (findClass_of_methodNamed hnamed) hkP hinit
  obtain ⟨vm₁, X₁, hstep₁⟩ := X.invokestatic hexec hown hlink hnamed hmethM hstatic hkP hinitP hy (g := g) hg (argsL := argsL) (rest := rest) (hlen _ hsigM) hstack hdg
  rcases hK m meth c ⟨T.setVm vm₁, locs, cells, slots⟩ { g with stack := rest } (.invokestatic index) mk argsL.toArray X₁ hg hsize hdg hW (X₁.named hnamed) (hpre vm₁ X₁.warmed) with ⟨v, B, X', hpost, hsteps⟩ | ⟨q, B, X', hpost, hsteps⟩
  · exact Or.inl ⟨v, vm₁, B, X₁.warmed, X', hpost, fun target h => hstep₁ _ fun acts => by rw [doInvoke_state]; exact hsteps.trans h⟩
  · exact Or.inr ⟨q, vm₁, B, X₁.warmed, X', hpost, hstep₁ _ fun acts => by rw [doInvoke_state]; exact hsteps⟩
end Calls
theorem vx_cls {s : State} {T : State} {vm₁ : Vm} {E : String} {k : ClassId} (hW : s.WarmedH vm₁) (h : (T.setVm vm₁).vm.findClass E = some k) : s.vm.findClass E = some k := by
  have h1 : vm₁.findClass E = some k := h
  rw [hW.alike.findClass] at h1
  exact h1
/-- the method's frame g, with q thrown over it -/
def vx_W (p : Program) (l : Launch) (e : Env) (R : Room) (s : State) (m : MethodId) (args : Array Value) (below : List Frame) (meth : Method) (c : Code) (H : Heap) (locs : List Loc) (cells slots : Nat) (Q : State → Prop) (g : JFrame) (q : Addr) : Prop :=
  ∀ T : State, T.heap = H → Stand p l e R s m args below meth c T locs cells slots → ∃ t, Steps p.tables e below ((T.setTop g).pushFrame (.throwing q)) t ∧ Q t
def vx_Run (p : Program) (l : Launch) (e : Env) (R : Room) (s : State) (m : MethodId) (args : Array Value) (below : List Frame) (meth : Method) (c : Code) (H : Heap) (locs : List Loc) (cells slots mc ms : Nat) (g : JFrame) (rest : List Value) (Qa : State → Outcome → State → Prop) (XC : String → State → State → Prop) (free : Addr → Prop) : Prop :=
  ∀ T : State, T.heap = H → Stand p l e R s m args below meth c T locs cells slots →
    (∃ (v : Option Value) (st₀ t T' : State) (L : List Loc), st₀.heap = H ∧ Stand p l e R s m args below meth c T' (locs ++ L) (cells + mc) (slots + ms) ∧ (∀ q ∈ L, free q.base) ∧ T'.heap = t.heap ∧ T'.vm = t.vm ∧ Qa st₀ (.returned v) t ∧
      Goes p e below T g T' { g with pc := g.pc + 3, stack := v.toList ++ rest }) ∨
    (∃ (q : Addr) (st₀ t T' : State) (L : List Loc) (E : String) (ce : Cell), st₀.heap = H ∧ Stand p l e R s m args below meth c T' (locs ++ L) (cells + mc) (slots + ms) ∧ (∀ z ∈ L, free z.base) ∧ T'.heap = t.heap ∧ T'.vm = t.vm ∧ XC E st₀ t ∧ t.heap[q]? = some ce ∧ ce.vm = .none ∧ s.vm.findClass E = some ce.cls ∧
      Steps p.tables e below (T.setTop g) ((T'.setTop { g with stack := rest }).pushFrame (.throwing q)))
def vx_X {S : Type} (px : S → Prop) (B : String → S → State → Prop) (A : Nat → Prop) : String → State → State → Prop := fun E st t => ∃ u : S, px u ∧ B E u t ∧ va_F A st t
section Runs
variable {p : Program} {l : Launch} {e : Env} {R : Room} {s : State} {m : MethodId} {args : Array Value} {below : List Frame} {meth : Method} {c : Code} {H : Heap} {locs : List Loc} {cells slots : Nat}
variable {y : MethodName} {bytes cc : ByteArray} {maxL nL mc ms n index : Nat} {ret : Option FieldType} {ws : List Cond} {rm : Room} {Pc : Array Value → State → Prop} {Qc : Array Value → State → Outcome → State → Prop} {XC : String → State → State → Prop} {free : Addr → Prop} {Ts : List Cond} {own C : String} {b : Addr} {As rest : List Value} {g : JFrame}
theorem vx_callBack (cb : CallB R s args own index y bytes maxL ret ws rm mc ms n) (hM : vx_Met l y ws rm Pc Qc XC mc ms free) (hbl : FrameBlind Pc) : vx_Back l R p e below s args y 3 8 (PreOf R mc ms Pc) (PostOf Qc mc ms free) (vx_Post XC mc ms free) := by
  obtain ⟨hrc, hrs, hfr, hlo, hws, hcw, -, hini, -⟩ := cb
  exact vx_back (bytes := bytes) (maxL := maxL) (ret := ret) hM hbl hrc hrs hfr hlo hws hcw (fun a' U hW => word_at hW (Or.inl (by first | rfl | simp [Cond.onTables, Cond.keeps, Cond.steady])) hini)
theorem vx_runV (S : CallFix p m c cc nL s args Ts own) (hM : vx_Met l y ws rm Pc Qc XC mc ms free) (cw : CallW R s args own C index y bytes maxL ret ws rm mc ms n) (hp : PreV s H C b Pc As)
    (hg : g.method = m) (hn : As.length = n) (hsize : g.locals.size = nL) (hstack : g.stack = As.reverse ++ .ref b :: rest) (hW : 2 * g.monitorRoom + (rest.map fun v => v.category).sum ≤ 8) (hdg : decode cc g.pc = .ok (.invokevirtual index, 3)) (hf : cells + mc ≤ R.cells ∧ slots + ms ≤ R.slots) :
    vx_Run p l e R s m args below meth c H locs cells slots mc ms g rest (Qc (Value.ref b :: As).toArray) XC free := by
  have hK : vx_Back l R p e below s args y 3 8 (PreOf R mc ms Pc) (PostOf Qc mc ms free) (vx_Post XC mc ms free) := vx_callBack cw.1 hM hp.1
  obtain ⟨⟨-, -, -, -, -, -, hcode, -, hy, hlen, hl⟩, hin, hse⟩ := cw
  obtain ⟨hx, hb, hml, ho, -⟩ := S
  obtain ⟨-, ⟨cellB, hcB, hoB, hclB⟩, hPc⟩ := hp
  intro T hT X
  rcases vx_callV X hx (C := C) (bytes := bytes) (maxL := maxL) (ret := ret) ho hl hin hse hcode hy hK (by rw [hT]; exact hcB) hoB hclB hg (hsize.trans hml.symm) (argsL := As) (rest := rest) (fun sig h => hn.trans (hlen sig h)) hstack hW (by rw [hb]; exact hdg)
    (fun vm₁ hW₁ => ⟨hf.1, hf.2, hPc (T.setVm vm₁) hT hW₁⟩) with ⟨v, vm₁, ⟨U', l2, c2, s2⟩, hW₁, X', ⟨g', mk, t, L, e1, e2, hq, h1, hL, h2, h3⟩, st⟩ | ⟨q, vm₁, ⟨U', l2, c2, s2⟩, hW₁, X', ⟨g', mk, t, L, E, ce, e1, e2, hq, hce, hcv, hcl, h1, hL, h2, h3⟩, st⟩
  · dsimp only [Pt.U, Pt.locs, Pt.cells, Pt.slots] at X' e1 e2 h1 h2 h3 st
    subst h1; subst h2; subst h3
    exact Or.inl ⟨v, (T.setVm vm₁).calling g' mk (Value.ref b :: As).toArray, t, U', L, hT, X', hL, e1, e2, hq, st⟩
  · dsimp only [Pt.U, Pt.locs, Pt.cells, Pt.slots] at X' e1 e2 h1 h2 h3 st hcl
    subst h1; subst h2; subst h3
    exact Or.inr ⟨q, (T.setVm vm₁).calling g' mk (Value.ref b :: As).toArray, t, U', L, E, ce, hT, X', hL, e1, e2, hq, hce, hcv, vx_cls hW₁ hcl, st⟩
theorem vx_runS (S : CallFix p m c cc nL s args Ts own) (hM : vx_Met l y ws rm Pc Qc XC mc ms free) (cw : CallB R s args own index y bytes maxL ret ws rm mc ms n ∧ (Cond.static y).before args s = true) (hp : PreS s H Pc As)
    (hg : g.method = m) (hn : As.length = n) (hsize : g.locals.size = nL) (hstack : g.stack = As.reverse ++ rest) (hW : 2 * g.monitorRoom + (rest.map fun v => v.category).sum ≤ 8) (hdg : decode cc g.pc = .ok (.invokestatic index, 3)) (hf : cells + mc ≤ R.cells ∧ slots + ms ≤ R.slots) :
    vx_Run p l e R s m args below meth c H locs cells slots mc ms g rest (Qc As.toArray) XC free := by
  have hK : vx_Back l R p e below s args y 3 8 (PreOf R mc ms Pc) (PostOf Qc mc ms free) (vx_Post XC mc ms free) := vx_callBack cw.1 hM hp.1
  obtain ⟨⟨-, -, -, -, -, -, hcode, hini, hy, hlen, hl⟩, hstt⟩ := cw
  obtain ⟨hx, hb, hml, ho, -⟩ := S
  intro T hT X
  rcases vx_callS X hx (bytes := bytes) (maxL := maxL) (ret := ret) ho hl hstt hini hcode hy hK hg (hsize.trans hml.symm) (argsL := As) (rest := rest) (fun sig h => hn.trans (hlen sig h)) hstack hW (by rw [hb]; exact hdg)
    (fun vm₁ hW₁ => ⟨hf.1, hf.2, hp.2 (T.setVm vm₁) hT hW₁⟩) with ⟨v, vm₁, ⟨U', l2, c2, s2⟩, hW₁, X', ⟨g', mk, t, L, e1, e2, hq, h1, hL, h2, h3⟩, st⟩ | ⟨q, vm₁, ⟨U', l2, c2, s2⟩, hW₁, X', ⟨g', mk, t, L, E, ce, e1, e2, hq, hce, hcv, hcl, h1, hL, h2, h3⟩, st⟩
  · dsimp only [Pt.U, Pt.locs, Pt.cells, Pt.slots] at X' e1 e2 h1 h2 h3 st
    subst h1; subst h2; subst h3
    exact Or.inl ⟨v, (T.setVm vm₁).calling g' mk As.toArray, t, U', L, hT, X', hL, e1, e2, hq, st⟩
  · dsimp only [Pt.U, Pt.locs, Pt.cells, Pt.slots] at X' e1 e2 h1 h2 h3 st hcl
    subst h1; subst h2; subst h3
    exact Or.inr ⟨q, (T.setVm vm₁).calling g' mk As.toArray, t, U', L, E, ce, hT, X', hL, e1, e2, hq, hce, hcv, vx_cls hW₁ hcl, st⟩
end Runs
section Rows
variable {p : Program} {l : Launch} {e : Env} {R : Room} {s : State} {m : MethodId} {args : Array Value} {below : List Frame} {meth : Method} {c : Code} {H : Heap} {locs : List Loc} {cells slots : Nat} {Q : State → Prop}
variable {mc ms : Nat} {free : Addr → Prop} {A0 A1 : Nat → Prop} {H0 : Heap} {a : Array Value} {pc : Nat} {ls : Array Slot} {st0 rest : List Value}
theorem vx_keep {st₀ t T' : State} {L : List Loc} (h0 : st₀.heap = H) (e1 : T'.heap = t.heap) (hS : va_S A0 H0 H locs) (hA : ∀ q, q < H.size → A1 q → A0 q) (hf : ∀ q, free q → A0 q) (hL : ∀ q ∈ L, free q.base) (hF : va_F A1 st₀ t) :
    H.size ≤ T'.heap.size ∧ (∀ q : Nat, q < H.size → ¬ A1 q → T'.heap[q]? = H[q]?) ∧ va_S A0 H0 T'.heap (locs ++ L) := by
  obtain ⟨hz, hk⟩ := hF
  rw [h0] at hz hk
  exact ⟨by rw [e1]; exact hz, fun q h1 h2 => by rw [e1]; exact hk q h1 h2,
    ⟨Nat.le_trans hS.1 (by rw [e1]; exact hz), fun q h1 h2 => by rw [e1, hk q (Nat.lt_of_lt_of_le h1 hS.1) (fun z => h2 (hA q (Nat.lt_of_lt_of_le h1 hS.1) z))]; exact hS.2.1 q h1 h2, fun q hq => by
      rcases List.mem_append.mp hq with h | h
      · exact hS.2.2 q h
      · exact hf _ (hL q h)⟩⟩
theorem vx_calli {S SX : Type} {post : Int32 → S → Prop} {px : SX → Prop} {B : S → State → Prop} {BX : String → SX → State → Prop} {AX : Nat → Prop} (hr : vx_Run p l e R s m args below meth c H locs cells slots mc ms (F0 m pc ls st0) rest (va_Qi post B A1 a) (vx_X px BX AX) free) (hS : va_S A0 H0 H locs) (hA : ∀ q, q < H.size → A1 q → A0 q) (hf : ∀ q, free q → A0 q) (hAX : ∀ q, q < H.size → AX q → A0 q)
    (kx : ∀ (E : String) (ce : Cell) (q9 : Addr) (u : SX) (t : State) (H1 : Heap) (locs1 : List Loc), t.heap = H1 → s.vm.Alike t.vm → px u → BX E u t → H.size ≤ H1.size → (∀ q : Nat, q < H.size → ¬ AX q → H1[q]? = H[q]?) → va_S A0 H0 H1 locs1 → H1[q9]? = some ce → ce.vm = .none → s.vm.findClass E = some ce.cls → vx_W p l e R s m args below meth c H1 locs1 (cells + mc) (slots + ms) Q (F0 m pc ls rest) q9)
    (kk : ∀ (r : Int32) (u : S) (t : State) (H1 : Heap) (locs1 : List Loc), t.heap = H1 → s.vm.Alike t.vm → post r u → B u t → H.size ≤ H1.size → (∀ q : Nat, q < H.size → ¬ A1 q → H1[q]? = H[q]?) → va_S A0 H0 H1 locs1 → W p l e R s m args below meth c H1 locs1 (cells + mc) (slots + ms) Q (F0 m (pc + 3) ls (.int r :: rest))) : W p l e R s m args below meth c H locs cells slots Q (F0 m pc ls st0) := by
  intro T hT X
  rcases hr T hT X with ⟨v, st₀, t, T', L, h0, X', hL, e1, e2, ⟨⟨r, u, hv, hp, hb⟩, hF⟩, st⟩ | ⟨q, st₀, t, T', L, E, ce, h0, X', hL, e1, e2, ⟨u, hp, hb, hF⟩, hce, hcv, hcl, st⟩
  · cases hv
    obtain ⟨k1, k2, k3⟩ := vx_keep h0 e1 hS hA hf hL hF
    obtain ⟨t2, a1, b1⟩ := kk r u t T'.heap (locs ++ L) e1.symm (by rw [← e2]; exact X'.warmed.alike) hp hb k1 k2 k3 T' rfl X'
    exact ⟨t2, st t2 a1, b1⟩
  · obtain ⟨k1, k2, k3⟩ := vx_keep h0 e1 hS hAX hf hL hF
    obtain ⟨t2, a1, b1⟩ := kx E ce q u t T'.heap (locs ++ L) e1.symm (by rw [← e2]; exact X'.warmed.alike) hp hb k1 k2 k3 (by rw [e1]; exact hce) hcv hcl T' rfl X'
    exact ⟨t2, st.trans a1, b1⟩
theorem vx_calll {S SX : Type} {post : Int64 → S → Prop} {px : SX → Prop} {B : S → State → Prop} {BX : String → SX → State → Prop} {AX : Nat → Prop} (hr : vx_Run p l e R s m args below meth c H locs cells slots mc ms (F0 m pc ls st0) rest (va_Ql post B A1 a) (vx_X px BX AX) free) (hS : va_S A0 H0 H locs) (hA : ∀ q, q < H.size → A1 q → A0 q) (hf : ∀ q, free q → A0 q) (hAX : ∀ q, q < H.size → AX q → A0 q)
    (kx : ∀ (E : String) (ce : Cell) (q9 : Addr) (u : SX) (t : State) (H1 : Heap) (locs1 : List Loc), t.heap = H1 → s.vm.Alike t.vm → px u → BX E u t → H.size ≤ H1.size → (∀ q : Nat, q < H.size → ¬ AX q → H1[q]? = H[q]?) → va_S A0 H0 H1 locs1 → H1[q9]? = some ce → ce.vm = .none → s.vm.findClass E = some ce.cls → vx_W p l e R s m args below meth c H1 locs1 (cells + mc) (slots + ms) Q (F0 m pc ls rest) q9)
    (kk : ∀ (r : Int64) (u : S) (t : State) (H1 : Heap) (locs1 : List Loc), t.heap = H1 → s.vm.Alike t.vm → post r u → B u t → H.size ≤ H1.size → (∀ q : Nat, q < H.size → ¬ A1 q → H1[q]? = H[q]?) → va_S A0 H0 H1 locs1 → W p l e R s m args below meth c H1 locs1 (cells + mc) (slots + ms) Q (F0 m (pc + 3) ls (.long r :: rest))) : W p l e R s m args below meth c H locs cells slots Q (F0 m pc ls st0) := by
  intro T hT X
  rcases hr T hT X with ⟨v, st₀, t, T', L, h0, X', hL, e1, e2, ⟨⟨r, u, hv, hp, hb⟩, hF⟩, st⟩ | ⟨q, st₀, t, T', L, E, ce, h0, X', hL, e1, e2, ⟨u, hp, hb, hF⟩, hce, hcv, hcl, st⟩
  · cases hv
    obtain ⟨k1, k2, k3⟩ := vx_keep h0 e1 hS hA hf hL hF
    obtain ⟨t2, a1, b1⟩ := kk r u t T'.heap (locs ++ L) e1.symm (by rw [← e2]; exact X'.warmed.alike) hp hb k1 k2 k3 T' rfl X'
    exact ⟨t2, st t2 a1, b1⟩
  · obtain ⟨k1, k2, k3⟩ := vx_keep h0 e1 hS hAX hf hL hF
    obtain ⟨t2, a1, b1⟩ := kx E ce q u t T'.heap (locs ++ L) e1.symm (by rw [← e2]; exact X'.warmed.alike) hp hb k1 k2 k3 (by rw [e1]; exact hce) hcv hcl T' rfl X'
    exact ⟨t2, st.trans a1, b1⟩
theorem vx_callf {S SX : Type} {post : UInt32 → S → Prop} {px : SX → Prop} {B : S → State → Prop} {BX : String → SX → State → Prop} {AX : Nat → Prop} (hr : vx_Run p l e R s m args below meth c H locs cells slots mc ms (F0 m pc ls st0) rest (va_Qf post B A1 a) (vx_X px BX AX) free) (hS : va_S A0 H0 H locs) (hA : ∀ q, q < H.size → A1 q → A0 q) (hf : ∀ q, free q → A0 q) (hAX : ∀ q, q < H.size → AX q → A0 q)
    (kx : ∀ (E : String) (ce : Cell) (q9 : Addr) (u : SX) (t : State) (H1 : Heap) (locs1 : List Loc), t.heap = H1 → s.vm.Alike t.vm → px u → BX E u t → H.size ≤ H1.size → (∀ q : Nat, q < H.size → ¬ AX q → H1[q]? = H[q]?) → va_S A0 H0 H1 locs1 → H1[q9]? = some ce → ce.vm = .none → s.vm.findClass E = some ce.cls → vx_W p l e R s m args below meth c H1 locs1 (cells + mc) (slots + ms) Q (F0 m pc ls rest) q9)
    (kk : ∀ (r : UInt32) (u : S) (t : State) (H1 : Heap) (locs1 : List Loc), t.heap = H1 → s.vm.Alike t.vm → post r u → B u t → H.size ≤ H1.size → (∀ q : Nat, q < H.size → ¬ A1 q → H1[q]? = H[q]?) → va_S A0 H0 H1 locs1 → W p l e R s m args below meth c H1 locs1 (cells + mc) (slots + ms) Q (F0 m (pc + 3) ls (.float r :: rest))) : W p l e R s m args below meth c H locs cells slots Q (F0 m pc ls st0) := by
  intro T hT X
  rcases hr T hT X with ⟨v, st₀, t, T', L, h0, X', hL, e1, e2, ⟨⟨r, u, hv, hp, hb⟩, hF⟩, st⟩ | ⟨q, st₀, t, T', L, E, ce, h0, X', hL, e1, e2, ⟨u, hp, hb, hF⟩, hce, hcv, hcl, st⟩
  · cases hv
    obtain ⟨k1, k2, k3⟩ := vx_keep h0 e1 hS hA hf hL hF
    obtain ⟨t2, a1, b1⟩ := kk r u t T'.heap (locs ++ L) e1.symm (by rw [← e2]; exact X'.warmed.alike) hp hb k1 k2 k3 T' rfl X'
    exact ⟨t2, st t2 a1, b1⟩
  · obtain ⟨k1, k2, k3⟩ := vx_keep h0 e1 hS hAX hf hL hF
    obtain ⟨t2, a1, b1⟩ := kx E ce q u t T'.heap (locs ++ L) e1.symm (by rw [← e2]; exact X'.warmed.alike) hp hb k1 k2 k3 (by rw [e1]; exact hce) hcv hcl T' rfl X'
    exact ⟨t2, st.trans a1, b1⟩
theorem vx_calld {S SX : Type} {post : UInt64 → S → Prop} {px : SX → Prop} {B : S → State → Prop} {BX : String → SX → State → Prop} {AX : Nat → Prop} (hr : vx_Run p l e R s m args below meth c H locs cells slots mc ms (F0 m pc ls st0) rest (va_Qd post B A1 a) (vx_X px BX AX) free) (hS : va_S A0 H0 H locs) (hA : ∀ q, q < H.size → A1 q → A0 q) (hf : ∀ q, free q → A0 q) (hAX : ∀ q, q < H.size → AX q → A0 q)
    (kx : ∀ (E : String) (ce : Cell) (q9 : Addr) (u : SX) (t : State) (H1 : Heap) (locs1 : List Loc), t.heap = H1 → s.vm.Alike t.vm → px u → BX E u t → H.size ≤ H1.size → (∀ q : Nat, q < H.size → ¬ AX q → H1[q]? = H[q]?) → va_S A0 H0 H1 locs1 → H1[q9]? = some ce → ce.vm = .none → s.vm.findClass E = some ce.cls → vx_W p l e R s m args below meth c H1 locs1 (cells + mc) (slots + ms) Q (F0 m pc ls rest) q9)
    (kk : ∀ (r : UInt64) (u : S) (t : State) (H1 : Heap) (locs1 : List Loc), t.heap = H1 → s.vm.Alike t.vm → post r u → B u t → H.size ≤ H1.size → (∀ q : Nat, q < H.size → ¬ A1 q → H1[q]? = H[q]?) → va_S A0 H0 H1 locs1 → W p l e R s m args below meth c H1 locs1 (cells + mc) (slots + ms) Q (F0 m (pc + 3) ls (.double r :: rest))) : W p l e R s m args below meth c H locs cells slots Q (F0 m pc ls st0) := by
  intro T hT X
  rcases hr T hT X with ⟨v, st₀, t, T', L, h0, X', hL, e1, e2, ⟨⟨r, u, hv, hp, hb⟩, hF⟩, st⟩ | ⟨q, st₀, t, T', L, E, ce, h0, X', hL, e1, e2, ⟨u, hp, hb, hF⟩, hce, hcv, hcl, st⟩
  · cases hv
    obtain ⟨k1, k2, k3⟩ := vx_keep h0 e1 hS hA hf hL hF
    obtain ⟨t2, a1, b1⟩ := kk r u t T'.heap (locs ++ L) e1.symm (by rw [← e2]; exact X'.warmed.alike) hp hb k1 k2 k3 T' rfl X'
    exact ⟨t2, st t2 a1, b1⟩
  · obtain ⟨k1, k2, k3⟩ := vx_keep h0 e1 hS hAX hf hL hF
    obtain ⟨t2, a1, b1⟩ := kx E ce q u t T'.heap (locs ++ L) e1.symm (by rw [← e2]; exact X'.warmed.alike) hp hb k1 k2 k3 (by rw [e1]; exact hce) hcv hcl T' rfl X'
    exact ⟨t2, st.trans a1, b1⟩
theorem vx_callv {S SX : Type} {post : S → Prop} {px : SX → Prop} {B : S → State → Prop} {BX : String → SX → State → Prop} {AX : Nat → Prop} (hr : vx_Run p l e R s m args below meth c H locs cells slots mc ms (F0 m pc ls st0) rest (va_Qv post B A1 a) (vx_X px BX AX) free) (hS : va_S A0 H0 H locs) (hA : ∀ q, q < H.size → A1 q → A0 q) (hf : ∀ q, free q → A0 q) (hAX : ∀ q, q < H.size → AX q → A0 q)
    (kx : ∀ (E : String) (ce : Cell) (q9 : Addr) (u : SX) (t : State) (H1 : Heap) (locs1 : List Loc), t.heap = H1 → s.vm.Alike t.vm → px u → BX E u t → H.size ≤ H1.size → (∀ q : Nat, q < H.size → ¬ AX q → H1[q]? = H[q]?) → va_S A0 H0 H1 locs1 → H1[q9]? = some ce → ce.vm = .none → s.vm.findClass E = some ce.cls → vx_W p l e R s m args below meth c H1 locs1 (cells + mc) (slots + ms) Q (F0 m pc ls rest) q9)
    (kk : ∀ (u : S) (t : State) (H1 : Heap) (locs1 : List Loc), t.heap = H1 → s.vm.Alike t.vm → post u → B u t → H.size ≤ H1.size → (∀ q : Nat, q < H.size → ¬ A1 q → H1[q]? = H[q]?) → va_S A0 H0 H1 locs1 → W p l e R s m args below meth c H1 locs1 (cells + mc) (slots + ms) Q (F0 m (pc + 3) ls (rest))) : W p l e R s m args below meth c H locs cells slots Q (F0 m pc ls st0) := by
  intro T hT X
  rcases hr T hT X with ⟨v, st₀, t, T', L, h0, X', hL, e1, e2, ⟨⟨u, hv, hp, hb⟩, hF⟩, st⟩ | ⟨q, st₀, t, T', L, E, ce, h0, X', hL, e1, e2, ⟨u, hp, hb, hF⟩, hce, hcv, hcl, st⟩
  · cases hv
    obtain ⟨k1, k2, k3⟩ := vx_keep h0 e1 hS hA hf hL hF
    obtain ⟨t2, a1, b1⟩ := kk u t T'.heap (locs ++ L) e1.symm (by rw [← e2]; exact X'.warmed.alike) hp hb k1 k2 k3 T' rfl X'
    exact ⟨t2, st t2 a1, b1⟩
  · obtain ⟨k1, k2, k3⟩ := vx_keep h0 e1 hS hAX hf hL hF
    obtain ⟨t2, a1, b1⟩ := kx E ce q u t T'.heap (locs ++ L) e1.symm (by rw [← e2]; exact X'.warmed.alike) hp hb k1 k2 k3 (by rw [e1]; exact hce) hcv hcl T' rfl X'
    exact ⟨t2, st.trans a1, b1⟩
/-- caught by the row x of this method's table; the rows ahead don't take it -/
theorem vx_catch {own name : String} {E : String} {ce : Cell} {q : Addr} (hown : s.vm.findClass own = some m.cls) (pre : List ExceptionTableEntry) (x : ExceptionTableEntry) (suf : List ExceptionTableEntry) (hsplit : c.exceptionTable.toList = pre ++ x :: suf)
    (hpass : ∀ z ∈ pre, covers z pc = false ∨ (z.catchType ≠ 0 ∧ ∃ nm : String, (Cond.classLink own z.catchType nm).before args s = true ∧ va_Nc E nm s)) (hx : covers x pc = true) (h0 : x.catchType ≠ 0)
    (hlink : (Cond.classLink own x.catchType name).before args s = true) (hcast : (Cond.castable E name).before args s = true) (hcell : H[q]? = some ce) (hv : ce.vm = .none) (hcl : s.vm.findClass E = some ce.cls)
    (kk : W p l e R s m args below meth c H locs cells slots Q (F0 m x.handlerPc ls [.ref q])) : vx_W p l e R s m args below meth c H locs cells slots Q (F0 m pc ls rest) q := by
  intro T hT X
  have hpl : e.platform.magicAccessors = ({} : Platform).magicAccessors := by rw [X.admits.platform]
  obtain ⟨c3, c4, hc3, hc4, hasg⟩ := Cond.castable_spec hcast
  cases Option.some.inj (hc3.symm.trans hcl)
  obtain ⟨c5, hc5, hcl5⟩ := Cond.classLink_spec hown hlink e.platform hpl
  cases Option.some.inj (hc4.symm.trans hc5)
  obtain ⟨vm', X', st⟩ := X.thenCaughtThrough q (g := F0 m pc ls rest) rfl (Steps.refl _) (by rw [hT]; exact hcell) (by rw [hv]; rfl) (by obtain ⟨k9, h9, -⟩ := Vm.findClass_spec hcl; exact ⟨k9, h9⟩) pre x suf hsplit
    (fun z hz => by
      rcases hpass z hz with h | ⟨hz0, nm, hl1, hn1⟩
      · exact Or.inl h
      · obtain ⟨c6, hc6, hcl6⟩ := Cond.classLink_spec hown hl1 e.platform hpl
        obtain ⟨a8, b8, h1, h2, h3⟩ := hn1
        cases Option.some.inj (h1.symm.trans hcl)
        cases Option.some.inj (h2.symm.trans hc6)
        exact Or.inr ⟨hz0, _, hcl6, h3⟩) hx (Or.inr ⟨h0, c4, hcl5, hasg⟩)
  obtain ⟨t, a1, b1⟩ := kk (T.setVm vm') hT X'
  exact ⟨t, st.trans a1, b1⟩
end Rows
section Ends
variable {p : Program} {l : Launch} {e : Env} {R : Room} {s : State} {m : MethodId} {args : Array Value} {below : List Frame} {meth : Method} {c : Code} {H : Heap} {locs : List Loc} {cells slots : Nat} {Q : State → Prop}
variable {mc ms : Nat} {free : Addr → Prop} {A0 A1 : Nat → Prop} {H0 : Heap} {a : Array Value} {ls : Array Slot} {st0 rest : List Value}
variable {Qc : Array Value → State → Outcome → State → Prop} {XC : String → State → State → Prop}
/-- what a body that may throw owes at its end -/
def vx_MQ (below : List Frame) (Qc : Array Value → State → Outcome → State → Prop) (XC : String → State → State → Prop) (a : Array Value) (s : State) (mc ms : Nat) (free : Addr → Prop) : State → Prop := fun t =>
  ∃ o, t.status = .running ∧ Ended t below o ∧ vx_Q Qc XC mc ms free a s o t
theorem vx_ret {g : JFrame} {mc ms : Nat} (k : W p l e R s m args below meth c H locs cells slots (MQ below Qc args s mc ms free) g) : W p l e R s m args below meth c H locs cells slots (vx_MQ below Qc XC args s mc ms free) g := by
  intro T hT X
  obtain ⟨t, a1, o, b1, b2, b3, b4⟩ := k T hT X
  exact ⟨t, a1, o, b1, b2, Or.inl ⟨b3, b4⟩⟩
/-- not caught here: it goes on to the caller -/
theorem vx_widen {g : JFrame} {q : Addr} {k n : Nat} (h1 : cells ≤ k) (h2 : slots ≤ n) (kk : vx_W p l e R s m args below meth c H locs k n Q g q) : vx_W p l e R s m args below meth c H locs cells slots Q g q := fun T hT X => kk T hT (stand_widen X h1 h2)
theorem vx_out {pc : Nat} {E : String} {ce : Cell} {q : Addr} {mc ms : Nat} (hout : ∀ x ∈ c.exceptionTable.toList, covers x pc = false) (hlocks : meth.locks = false) (hcell : H[q]? = some ce) (hv : ce.vm = .none) (hcl : s.vm.findClass E = some ce.cls)
    (hx : ∀ t : State, t.heap = H → s.vm.Alike t.vm → XC E s t) (hf : ∀ z ∈ locs, free z.base) (hc : cells ≤ mc) (hs : slots ≤ ms) :
    vx_W p l e R s m args below meth c H locs cells slots (vx_MQ below Qc XC args s mc ms free) (F0 m pc ls rest) q := by
  intro T hT X
  obtain ⟨st1, hrun, hend, hW, hsm⟩ := X.leaveThrown q (g := F0 m pc ls rest) rfl rfl rfl hout hlocks
  have hcell9 : (T.setFrames (.throwing q :: below)).heap[q]? = some ce := by
    show T.heap[q]? = some ce
    rw [hT]; exact hcell
  exact ⟨_, st1, .threw q, hrun, hend, Or.inr ⟨q, rfl, E, ce, locs, hx _ hT hW.alike, hcell9, hv, hcl, hW, hsm.mono hc hs, hf⟩⟩
theorem vx_frame {U : State} {k n : Nat} (h : s.sameButNew ({ U with vm := s.vm } : State) locs k n) : s.heap.size ≤ U.heap.size ∧ ∀ q : Nat, q < s.heap.size → (∀ z ∈ locs, z.base ≠ q) → U.heap[q]? = s.heap[q]? := by
  obtain ⟨-, h2, -, -, -, h6⟩ := h
  refine ⟨h2, fun q hq hz => ?_⟩
  obtain ⟨c9, e1, e2, e3, e4⟩ := h6 q _ (Array.getElem?_eq_getElem hq)
  have hs : c9.slots = (s.heap[q]).slots := Array.ext_getElem? fun i => e4 i fun hm => hz _ hm rfl
  have h9 : c9 = s.heap[q] := by
    rw [hs] at e2
    exact e2
  have e5 : U.heap[q]? = some c9 := e1
  rw [e5, h9, Array.getElem?_eq_getElem hq]
/-- the words of a throw but the four that speak of the heap -/
def vx_no (w : Cond) : Bool := decide (w ≠ .isRef (.static Bundle.tN "UNASSIGNED_STACK" Bundle.steD)) && decide (w ≠ .isRef (.static Bundle.tN "SUPPRESSED_SENTINEL" Bundle.listD)) && decide (w ≠ .laysStatic Bundle.tN "UNASSIGNED_STACK" Bundle.steD) && decide (w ≠ .laysStatic Bundle.tN "SUPPRESSED_SENTINEL" Bundle.listD)
def vx_at0 (own : String) (ic : Nat) (X : String) (names : List String) : List Cond := (Bundle.ownAtoms0 own ic X names).filter vx_no
def vx_atS (own : String) (ic : Nat) (X : String) (names : List String) : List Cond := (Bundle.ownAtoms own ic X names).filter vx_no
/-- a word that the tables alone decide, or a good one -/
def vx_ot (w : Cond) : Bool := w.onTables || goodWord w
theorem vx_ot_at {args a' : Array Value} {s U : State} {w : Cond} (hW : s.WarmedH U.vm) (hvm : s.vm = U.vm) (hg : vx_ot w = true) (h : w.before args s = true) : w.before a' U = true := by
  simp only [vx_ot, Bool.or_eq_true] at hg
  rcases hg with hg | hg
  · exact va_tabs hg hvm h
  · exact word_at hW (good_of_word hg) h
/-- a list's words: the good ones out of the method's own list, the others by premises of their own -/
theorem vx_hat {args : Array Value} {s : State} {L B : List Cond} (h1 : ∀ w ∈ L.filter goodWord, w.before args s = true) (h2 : ∀ w ∈ L.filter (fun w => !goodWord w), w ∈ B) (h3 : ∀ w ∈ B, w.before args s = true) : ∀ w ∈ L, w.before args s = true := by
  intro w hw
  by_cases g : goodWord w = true
  · exact h1 w (List.mem_filter.mpr ⟨hw, g⟩)
  · refine h3 w (h2 w (List.mem_filter.mpr ⟨hw, ?_⟩))
    show (!goodWord w) = true
    cases hgw : goodWord w
    · rfl
    · exact absurd hgw g
theorem vx_c {args : Array Value} {s : State} {w : Cond} {B : List Cond} (h : w.before args s = true) (t : ∀ w ∈ B, w.before args s = true) : ∀ w' ∈ w :: B, w'.before args s = true := fun w' h' => (List.mem_cons.mp h').elim (fun e => by rw [e]; exact h) (t w')
theorem vx_n {args : Array Value} {s : State} : ∀ w ∈ ([] : List Cond), w.before args s = true := fun _ h => nomatch h
theorem vx_own {args : Array Value} {s : State} {L : List Cond} (h1 : ∀ w ∈ L.filter vx_no, w.before args s = true)
    (hU : (Cond.isRef (.static Bundle.tN "UNASSIGNED_STACK" Bundle.steD)).before args s = true) (hN : (Cond.isRef (.static Bundle.tN "SUPPRESSED_SENTINEL" Bundle.listD)).before args s = true)
    (lU : (Cond.laysStatic Bundle.tN "UNASSIGNED_STACK" Bundle.steD).before args s = true) (lN : (Cond.laysStatic Bundle.tN "SUPPRESSED_SENTINEL" Bundle.listD).before args s = true) : ∀ w ∈ L, w.before args s = true := by
  intro w hw
  by_cases e1 : w = .isRef (.static Bundle.tN "UNASSIGNED_STACK" Bundle.steD)
  · rw [e1]; exact hU
  · by_cases e2 : w = .isRef (.static Bundle.tN "SUPPRESSED_SENTINEL" Bundle.listD)
    · rw [e2]; exact hN
    · by_cases e3 : w = .laysStatic Bundle.tN "UNASSIGNED_STACK" Bundle.steD
      · rw [e3]; exact lU
      · by_cases e4 : w = .laysStatic Bundle.tN "SUPPRESSED_SENTINEL" Bundle.listD
        · rw [e4]; exact lN
        · exact h1 w (List.mem_filter.mpr ⟨hw, by unfold vx_no; rw [decide_eq_true e1, decide_eq_true e2, decide_eq_true e3, decide_eq_true e4]; rfl⟩)
/-- where a static field lies, its class's statics cell in H -/
def vx_L (C n d : String) (A : Nat → Prop) (U : State) (H : Heap) : Prop := ∃ (c : ClassId) (k : Class) (i : Nat) (f : Field) (a : Nat) (cell : Cell), U.vm.findClass C = some c ∧ U.fieldFound? C n d = some (c, k, i, f) ∧ f.isStatic = true ∧ k.statics = some a ∧ H[a]? = some cell ∧ cell.vm.isStatics = true ∧ cell.cls = c ∧ f.slot < cell.slots.size ∧ k.staticTypes[f.slot]? = some f.type ∧ ¬ A a
theorem vx_L.moved {C n d : String} {A : Nat → Prop} {u U : State} {H : Heap} (hvm : u.vm.Alike U.vm) (h : vx_L C n d A u H) : vx_L C n d A U H := by
  obtain ⟨c, k, i, f, a, cell, h1, h2, h3, h4, h5, h6, h7, h8, h9, h10⟩ := h
  obtain ⟨k', hi', he⟩ := State.fieldFound?_setVm hvm h2
  exact ⟨c, k', i, f, a, cell, by rw [hvm.findClass]; exact h1, hi', h3, by rw [he]; exact h4, h5, h6, h7, h8, by rw [he]; exact h9, h10⟩
theorem vx_L.kept {C n d : String} {A : Nat → Prop} {U : State} {H H1 : Heap} (h : vx_L C n d A U H) (hq : ∀ a : Nat, a < H.size → ¬ A a → H1[a]? = H[a]?) : vx_L C n d A U H1 := by
  obtain ⟨c, k, i, f, a, cell, h1, h2, h3, h4, h5, h6, h7, h8, h9, h10⟩ := h
  exact ⟨c, k, i, f, a, cell, h1, h2, h3, h4, by rw [hq a (Array.getElem?_eq_some_iff.mp h5).1 h10]; exact h5, h6, h7, h8, h9, h10⟩
theorem vx_L.narrow {C n d : String} {A B : Nat → Prop} {U : State} {H : Heap} (h : vx_L C n d A U H) (hAB : ∀ q, B q → A q) : vx_L C n d B U H := by
  obtain ⟨c, k, i, f, a, cell, h1, h2, h3, h4, h5, h6, h7, h8, h9, h10⟩ := h
  exact ⟨c, k, i, f, a, cell, h1, h2, h3, h4, h5, h6, h7, h8, h9, fun z => h10 (hAB _ z)⟩
theorem vx_L.word {C n d : String} {A : Nat → Prop} {s : State} {args : Array Value} (h : vx_L C n d A s s.heap) : (Cond.laysStatic C n d).before args s = true := by
  obtain ⟨c, k, i, f, a, cell, h1, h2, h3, h4, h5, h6, h7, h8, h9, -⟩ := h
  show (Cond.laysStatic C n d).holds args s none s [] = true
  exact Cond.laysStatic_of h1 h2 h3 h4 h5 h6 h7 h8 h9
/-- .. and what it holds: null or some reference -/
def vx_Zq (C n d : String) (A : Nat → Prop) (U : State) (H : Heap) : Prop := va_Zq C n d A U H ∧ vx_L C n d A U H
theorem vx_Zq.moved {C n d : String} {A : Nat → Prop} {u U : State} {H : Heap} (hvm : u.vm.Alike U.vm) (h : vx_Zq C n d A u H) : vx_Zq C n d A U H := ⟨va_Zq.moved hvm h.1, vx_L.moved hvm h.2⟩
theorem vx_Zq.kept {C n d : String} {A : Nat → Prop} {U : State} {H H1 : Heap} (h : vx_Zq C n d A U H) (hq : ∀ a : Nat, a < H.size → ¬ A a → H1[a]? = H[a]?) : vx_Zq C n d A U H1 := ⟨va_Zq.kept h.1 hq, vx_L.kept h.2 hq⟩
theorem vx_Zq.narrow {C n d : String} {A B : Nat → Prop} {U : State} {H : Heap} (h : vx_Zq C n d A U H) (hAB : ∀ q, B q → A q) : vx_Zq C n d B U H := ⟨va_Zq.narrow h.1 hAB, vx_L.narrow h.2 hAB⟩
theorem vx_Zqof {args : Array Value} {s : State} {C n d : String} {A : Nat → Prop} (hl : (Cond.laysStatic C n d).before args s = true) (hini : (Cond.initialized C).before args s = true) (h : (Cond.isRef (.static C n d)).before args s = true) (hA : ∀ a : Nat, a < s.heap.size → ¬ A a) : vx_Zq C n d A s s.heap := by
  refine ⟨va_Zqof hl hini h hA, ?_⟩
  obtain ⟨c, k, i, f, a, cell, h1, h2, h3, h4, h5, h6, h7, h8, h9⟩ := Cond.laysStatic_spec hl
  exact ⟨c, k, i, f, a, cell, h1, h2, h3, h4, h5, h6, h7, h8, h9, hA a (Array.getElem?_eq_some_iff.mp h5).1⟩
theorem vx_isRef {C n d : String} {v : Value} {A : Nat → Prop} {s : State} {args : Array Value} (h : va_Z C n d v A s s.heap) (hv : v.isRef = true) : (Cond.isRef (.static C n d)).before args s = true := by
  obtain ⟨cf, kf, fi, f, a, cell, h1, h2, h3, h4, h5, h6, h7, -⟩ := h
  have he : (Term.static C n d).eval args s none [] s = some v := by
    simp [Term.eval, State.fieldNamed?, h1, h2, h4, h5, h6, h7]
  simp only [Cond.before, Cond.holds, Cond.value, he]
  cases v <;> simp_all [Value.isRef]
theorem vx_isRefq {C n d : String} {A : Nat → Prop} {s : State} {args : Array Value} (h : va_Zq C n d A s s.heap) : (Cond.isRef (.static C n d)).before args s = true := by
  rcases h with h | ⟨t, h⟩
  · exact vx_isRef h rfl
  · exact vx_isRef h rfl
/-- the same frame, seen from here: as if the method were called anew in this heap -/
theorem vx_rebase {T : State} (X : Stand p l e R s m args below meth c T locs cells slots) {R' : Room} (hf : R'.frames ≤ R.frames) (hl : R'.locals ≤ R.locals) (hc : cells + R'.cells ≤ R.cells) (hs : slots + R'.slots ≤ R.slots) :
    Stand p l e R' ((T.setVm s.vm).setFrames (.invoking m args :: below)) m args below meth c T [] 0 0 := by
  have htop : (T.setVm s.vm).topJava?.isSome := X.here.top
  have hF : ((T.setVm s.vm).setFrames (.invoking m args :: below)).frames = .invoking m args :: below := State.frames_setFrames _ (State.cur_lt_of_top htop)
  obtain ⟨g₀, hg0⟩ := Option.isSome_iff_exists.mp htop
  obtain ⟨r, hr⟩ := State.topJava?_eq_some.mp hg0
  have hl9 : e.platform.stackLimits (T.setVm s.vm).me = e.platform.stackLimits s.me := X.limits
  have hb9 : (T.setVm s.vm).me.stackBytes = s.me.stackBytes := X.bytes
  refine ⟨X.admits, X.cas, X.clock, hF, ?_, X.hears, X.method, X.code, X.here, X.tail, X.warmed, ?_, ?_, ?_⟩
  · have h := X.room
    have hU : ((T.setVm s.vm).setFrames (.invoking m args :: below)).localsInUse = s.localsInUse := by
      rw [State.localsInUse_invoking hF (meth := meth) (c := c) X.method X.code, State.localsInUse_invoking X.frames X.method X.code]
    simp only [State.hasRoom, Bool.and_eq_true, decide_eq_true_eq] at h ⊢
    obtain ⟨⟨⟨⟨h1, h2, h3, h4, h5, h6⟩, h7⟩, h8⟩, h9⟩ := h
    rw [X.frames, List.length_cons] at h2 h3
    have q1 := X.heapSize
    have q2 := X.used
    simp only [hF, hU, List.length_cons, State.stackLimits_setFrames, State.stackBytes_setFrames, hl9, hb9]
    refine ⟨⟨⟨⟨by omega, by omega, by omega, by omega, by omega, h6⟩, ?_⟩, ?_⟩, X.book⟩
    · show T.heap.size + R'.cells ≤ e.platform.maxCells
      omega
    · show T.slotsUsed + R'.slots ≤ e.platform.maxSlots
      omega
  · rw [State.stackLimits_setFrames]; rfl
  · rw [State.stackBytes_setFrames]; rfl
  · refine ⟨?_, Nat.le_refl _, Nat.le_refl _, ?_, ?_, fun a c9 h9 => ⟨c9, h9, rfl, rfl, fun _ _ => rfl⟩⟩
    · obtain ⟨t, ht, -⟩ := State.frames_cons hr
      show T.setVm s.vm = { ((T.setVm s.vm).setFrames (.invoking m args :: below)).setFrames (T.setVm s.vm).frames with heap := T.heap, slotsUsed := T.slotsUsed }
      rw [State.setFrames_setFrames, State.setFrames_self ht]
      rfl
    · show T.slotsUsed = T.slotsUsed + ((T.heap.toList.drop T.heap.size).map (·.slots.size)).sum
      rw [List.drop_eq_nil_of_le (Nat.le_of_eq Array.length_toList)]
      rfl
    · show ((T.heap.toList.drop T.heap.size).map (·.slots.size)).sum ≤ 0
      rw [List.drop_eq_nil_of_le (Nat.le_of_eq Array.length_toList)]
      exact Nat.le_refl _
/-- 'throw new E()': new; dup; invokespecial; athrow -/
theorem vx_throw0 {cc : ByteArray} {pc : Nat} (hexec : p.tables.exec = Jvm.exec) (hb : c.code = cc) (hl : l.stackTraces = false) {own cls : String} {names : List String} {ik ic mc ms : Nat} {A : Nat → Prop}
    (hown : s.vm.findClass own = some m.cls) (hcls : Bundle.fit cls = true) (hnames : ∀ n ∈ names, Bundle.fit n = true)
    (hk : (Cond.classLink own ik cls).before args s = true) (hini : (Cond.initialized cls).before args s = true) (hat : ∀ w ∈ vx_at0 own ic cls names, w.before args s = true)
    (hgood : ∀ w ∈ Cond.classLink own ik cls :: Cond.initialized cls :: vx_at0 own ic cls names, vx_ot w = true)
    (hU : vx_Zq Bundle.tN "UNASSIGNED_STACK" Bundle.steD A s s.heap) (hN : vx_Zq Bundle.tN "SUPPRESSED_SENTINEL" Bundle.listD A s s.heap) (hS : va_S A s.heap H locs) (hsize : ls.size = c.maxLocals)
    (d0 : decode cc pc = .ok (.new ik, 3)) (d3 : decode cc (pc + 3) = .ok (.dup, 1)) (d4 : decode cc (pc + 4) = .ok (.invokespecial ic, 3)) (d7 : decode cc (pc + 7) = .ok (.athrow, 1))
    (hout : ∀ x ∈ c.exceptionTable.toList, covers x (pc + 7) = false)
    (hRframes : names.length + 3 < R.frames) (hRlocals : (rest.map fun v => v.category).sum + (13 * (names.length + 1) + 42) ≤ R.locals) (hRcells : cells + 1 ≤ R.cells) (hRslots : slots + 6 ≤ R.slots) (hlocks : meth.locks = false)
    (hx : ∀ t : State, s.vm.Alike t.vm → H.size ≤ t.heap.size → (∀ q : Nat, q < H.size → t.heap[q]? = H[q]?) → XC cls s t)
    (hf : ∀ z ∈ locs, free z.base) (hc : cells + 1 ≤ mc) (hs : slots + 6 ≤ ms) :
    W p l e R s m args below meth c H locs cells slots (vx_MQ below Qc XC args s mc ms free) (F0 m pc ls rest) := by
  intro T hT X
  have htr : e.platform.stackTraces = false := (show e.platform.stackTraces = l.stackTraces by rw [X.admits.platform]).trans hl
  have Y := vx_rebase X (R' := { frames := R.frames, locals := R.locals, cells := 1, slots := 6 }) (Nat.le_refl _) (Nat.le_refl _) hRcells hRslots
  obtain ⟨s', hA⟩ : ∃ z, z = (T.setVm s.vm).setFrames (.invoking m args :: below) := ⟨_, rfl⟩
  rw [← hA] at Y
  have hvm : s'.vm = s.vm := by rw [hA]; rfl
  have hhp : s'.heap = H := by rw [hA]; exact hT
  have hW0 : s.WarmedH s'.vm := by rw [hvm]; exact State.WarmedH.refl s
  have hat' : ∀ w ∈ vx_at0 own ic cls names, w.before args s' = true := fun w hw => vx_ot_at hW0 hvm.symm (hgood w (List.mem_cons_of_mem _ (List.mem_cons_of_mem _ hw))) (hat w hw)
  have hk' : (Cond.classLink own ik cls).before args s' = true := vx_ot_at hW0 hvm.symm (hgood _ List.mem_cons_self) hk
  have hini' : (Cond.initialized cls).before args s' = true := vx_ot_at hW0 hvm.symm (hgood _ (List.mem_cons_of_mem _ List.mem_cons_self)) hini
  have hU' : vx_Zq Bundle.tN "UNASSIGNED_STACK" Bundle.steD A s' s'.heap := by rw [hhp]; exact vx_Zq.moved hW0.alike (hU.kept hS.2.1)
  have hN' : vx_Zq Bundle.tN "SUPPRESSED_SENTINEL" Bundle.listD A s' s'.heap := by rw [hhp]; exact vx_Zq.moved hW0.alike (hN.kept hS.2.1)
  have h : ∀ w ∈ Bundle.ownAtoms0 own ic cls names, w.before args s' = true := vx_own hat' (vx_isRefq hU'.1) (vx_isRefq hN'.1) hU'.2.word hN'.2.word
  have hown' : s'.vm.findClass own = some m.cls := by rw [hvm]; exact hown
  have hins : (Cond.instantiable cls 6).before args s' = true := h _ (by simp [Bundle.ownAtoms0])
  obtain ⟨vm₁, cX, kX, hfX, hkX, -, -, X₁, st1⟩ := Y.newCold hexec (own := own) (C := cls) (index := ik) (n := 6) hown' hk' hins hini'
    (g := F0 m pc ls rest) rfl (by rw [hb]; exact d0) (Nat.le_refl _) (Nat.le_refl _)
  generalize hT1 : (T.setVm vm₁).pushCell { cls := cX, slots := kX.instanceTypes.map defaultValue, vm := .none } = T1 at X₁ st1
  have hcat : (Value.ref T.heap.size).category = 1 := rfl
  have hcellA : T1.heap[T.heap.size]? = some (freshCell cX kX) := by rw [← hT1]; exact State.heap_pushCell_size _ _
  have d3' : decode c.code (pc + 3) = .ok (.dup, 1) := by rw [hb]; exact d3
  obtain ⟨U, hsteps, hrun, hend, hW, hsame, ce, hce, hO⟩ := X₁.ctorThrow0 hexec htr (own := own) (cls := cls) (names := names) (ic := ic) hown' hcls hnames h (fun x hx => nomatch hx) hfX hkX hcellA (by rw [hhp, hT]; exact Nat.le_refl _)
    (g := { method := m, pc := pc + 4, locals := ls, stack := .ref T.heap.size :: .ref T.heap.size :: rest, locked := none }) rfl hsize rfl rfl (rest := rest) rfl
    (by rw [hb]; exact d4) (by rw [hb]; exact d7) hout hRframes (by simp only [List.map_cons, List.sum_cons, hcat]; omega) hlocks
  obtain ⟨f1, f2⟩ := vx_frame hsame
  rw [hhp] at f1 f2
  have hWs : s.WarmedH U.vm := State.WarmedH.trans hW0 hW
  have hcl : s.vm.findClass cls = some ce.cls := by
    have h9 := hO.cls
    rw [hvm] at h9
    exact h9
  have hall : s.sameButNew ({ U with vm := s.vm } : State) locs mc ms := by
    subst hA
    obtain ⟨e1, e2⟩ := hsame
    rw [State.setFrames_setFrames] at e1
    have h2 : (T.setVm s.vm).sameButNew ({ U with vm := s.vm } : State) [] (0 + 1) (0 + 6) := ⟨e1, e2⟩
    have h3 := X.same.trans h2
    rw [List.append_nil] at h3
    exact h3.mono hc hs
  refine ⟨U, ?_, .threw T.heap.size, hrun, hend, Or.inr ⟨T.heap.size, rfl, cls, ce, locs, hx U hWs.alike f1 (fun q hq => f2 q hq (fun z hz => nomatch hz)), hce, hO.vm, hcl, hWs, hall, hf⟩⟩
  refine st1 _ ?_
  show Steps p.tables e below (T1.setTop { method := m, pc := pc + 3, locals := ls, stack := .ref T.heap.size :: rest, locked := none }) _
  jvm_step X₁.here [X₁.here.top, hexec, d3', Value.category]
  exact hsteps
/-- 'throw new E("text")': new; dup; ldc; invokespecial; athrow -/
theorem vx_throwS {cc : ByteArray} {pc : Nat} (hexec : p.tables.exec = Jvm.exec) (hb : c.code = cc) (hl : l.stackTraces = false) {own cls text : String} {names : List String} {ik is ic mc ms sa : Nat} {A : Nat → Prop}
    (hown : s.vm.findClass own = some m.cls) (hcls : Bundle.fit cls = true) (hnames : ∀ n ∈ names, Bundle.fit n = true)
    (hk : (Cond.classLink own ik cls).before args s = true) (hini : (Cond.initialized cls).before args s = true) (hstr : vk_R own is text sa s) (hat : ∀ w ∈ vx_atS own ic cls names, w.before args s = true)
    (hgood : ∀ w ∈ Cond.classLink own ik cls :: Cond.initialized cls :: vx_atS own ic cls names, vx_ot w = true)
    (hU : vx_Zq Bundle.tN "UNASSIGNED_STACK" Bundle.steD A s s.heap) (hN : vx_Zq Bundle.tN "SUPPRESSED_SENTINEL" Bundle.listD A s s.heap) (hS : va_S A s.heap H locs) (hsize : ls.size = c.maxLocals)
    (d0 : decode cc pc = .ok (.new ik, 3)) (d3 : decode cc (pc + 3) = .ok (.dup, 1)) (d4 : decode cc (pc + 4) = .ok (.ldc is, 2)) (d6 : decode cc (pc + 6) = .ok (.invokespecial ic, 3)) (d9 : decode cc (pc + 9) = .ok (.athrow, 1))
    (hout : ∀ x ∈ c.exceptionTable.toList, covers x (pc + 9) = false)
    (hRframes : names.length + 3 < R.frames) (hRlocals : (rest.map fun v => v.category).sum + (13 * (names.length + 1) + 43) ≤ R.locals) (hRcells : cells + 1 ≤ R.cells) (hRslots : slots + 6 ≤ R.slots) (hlocks : meth.locks = false)
    (hx : ∀ t : State, s.vm.Alike t.vm → H.size ≤ t.heap.size → (∀ q : Nat, q < H.size → t.heap[q]? = H[q]?) → XC cls s t)
    (hf : ∀ z ∈ locs, free z.base) (hc : cells + 1 ≤ mc) (hs : slots + 6 ≤ ms) :
    W p l e R s m args below meth c H locs cells slots (vx_MQ below Qc XC args s mc ms free) (F0 m pc ls rest) := by
  intro T hT X
  have htr : e.platform.stackTraces = false := (show e.platform.stackTraces = l.stackTraces by rw [X.admits.platform]).trans hl
  have Y := vx_rebase X (R' := { frames := R.frames, locals := R.locals, cells := 1, slots := 6 }) (Nat.le_refl _) (Nat.le_refl _) hRcells hRslots
  obtain ⟨s', hA⟩ : ∃ z, z = (T.setVm s.vm).setFrames (.invoking m args :: below) := ⟨_, rfl⟩
  rw [← hA] at Y
  have hvm : s'.vm = s.vm := by rw [hA]; rfl
  have hhp : s'.heap = H := by rw [hA]; exact hT
  have hW0 : s.WarmedH s'.vm := by rw [hvm]; exact State.WarmedH.refl s
  have hat' : ∀ w ∈ vx_atS own ic cls names, w.before args s' = true := fun w hw => vx_ot_at hW0 hvm.symm (hgood w (List.mem_cons_of_mem _ (List.mem_cons_of_mem _ hw))) (hat w hw)
  have hk' : (Cond.classLink own ik cls).before args s' = true := vx_ot_at hW0 hvm.symm (hgood _ List.mem_cons_self) hk
  have hini' : (Cond.initialized cls).before args s' = true := vx_ot_at hW0 hvm.symm (hgood _ (List.mem_cons_of_mem _ List.mem_cons_self)) hini
  have hU' : vx_Zq Bundle.tN "UNASSIGNED_STACK" Bundle.steD A s' s'.heap := by rw [hhp]; exact vx_Zq.moved hW0.alike (hU.kept hS.2.1)
  have hN' : vx_Zq Bundle.tN "SUPPRESSED_SENTINEL" Bundle.listD A s' s'.heap := by rw [hhp]; exact vx_Zq.moved hW0.alike (hN.kept hS.2.1)
  have h : ∀ w ∈ Bundle.ownAtoms own ic cls names, w.before args s' = true := vx_own hat' (vx_isRefq hU'.1) (vx_isRefq hN'.1) hU'.2.word hN'.2.word
  have hown' : s'.vm.findClass own = some m.cls := by rw [hvm]; exact hown
  have hins : (Cond.instantiable cls 6).before args s' = true := h _ (by simp [Bundle.ownAtoms])
  obtain ⟨vm₁, cX, kX, hfX, hkX, -, -, X₁, st1⟩ := Y.newCold hexec (own := own) (C := cls) (index := ik) (n := 6) hown' hk' hins hini'
    (g := F0 m pc ls rest) rfl (by rw [hb]; exact d0) (Nat.le_refl _) (Nat.le_refl _)
  generalize hT1 : (T.setVm vm₁).pushCell { cls := cX, slots := kX.instanceTypes.map defaultValue, vm := .none } = T1 at X₁ st1
  have hcat : (Value.ref T.heap.size).category = 1 := rfl
  have hcellA : T1.heap[T.heap.size]? = some (freshCell cX kX) := by rw [← hT1]; exact State.heap_pushCell_size _ _
  have d3' : decode c.code (pc + 3) = .ok (.dup, 1) := by rw [hb]; exact d3
  have d4' : decode c.code (pc + 4) = .ok (.ldc is, 2) := by rw [hb]; exact d4
  have hstr' : vk_R own is text sa s' := vk_R.warm hW0 hstr
  obtain ⟨U, hsteps, hrun, hend, hW, hsame, ce, hce, hO⟩ := X₁.ctorThrowS hexec htr (own := own) (cls := cls) (names := names) (ic := ic) hown' hcls hnames h (fun x hx => nomatch hx) hfX hkX hcellA (by rw [hhp, hT]; exact Nat.le_refl _) (msg := .ref sa) rfl
    (g := { method := m, pc := pc + 6, locals := ls, stack := .ref sa :: .ref T.heap.size :: .ref T.heap.size :: rest, locked := none }) rfl hsize rfl rfl (rest := rest) rfl
    (by rw [hb]; exact d6) (by rw [hb]; exact d9) hout hRframes (by simp only [List.map_cons, List.sum_cons, hcat]; omega) hlocks
  obtain ⟨f1, f2⟩ := vx_frame hsame
  rw [hhp] at f1 f2
  have hWs : s.WarmedH U.vm := State.WarmedH.trans hW0 hW
  have hcl : s.vm.findClass cls = some ce.cls := by
    have h9 := hO.cls
    rw [hvm] at h9
    exact h9
  have hall : s.sameButNew ({ U with vm := s.vm } : State) locs mc ms := by
    subst hA
    obtain ⟨e1, e2⟩ := hsame
    rw [State.setFrames_setFrames] at e1
    have h2 : (T.setVm s.vm).sameButNew ({ U with vm := s.vm } : State) [] (0 + 1) (0 + 6) := ⟨e1, e2⟩
    have h3 := X.same.trans h2
    rw [List.append_nil] at h3
    exact h3.mono hc hs
  refine ⟨U, ?_, .threw T.heap.size, hrun, hend, Or.inr ⟨T.heap.size, rfl, cls, ce, locs, hx U hWs.alike f1 (fun q hq => f2 q hq (fun z hz => nomatch hz)), hce, hO.vm, hcl, hWs, hall, hf⟩⟩
  refine st1 _ ?_
  show Steps p.tables e below (T1.setTop { method := m, pc := pc + 3, locals := ls, stack := .ref T.heap.size :: rest, locked := none }) _
  jvm_step X₁.here [X₁.here.top, hexec, d3', Value.category]
  exact X₁.ldcString hexec (own := own) (text := text) (index := is) (a := sa) hown' hstr'.1 hstr'.2
    (g := { method := m, pc := pc + 4, locals := ls, stack := .ref T.heap.size :: .ref T.heap.size :: rest, locked := none }) rfl d4' _ hsteps
/-- 'throw new E("text")', the text by a wide index -/
theorem vx_throwSW {cc : ByteArray} {pc : Nat} (hexec : p.tables.exec = Jvm.exec) (hb : c.code = cc) (hl : l.stackTraces = false) {own cls text : String} {names : List String} {ik is ic mc ms sa : Nat} {A : Nat → Prop}
    (hown : s.vm.findClass own = some m.cls) (hcls : Bundle.fit cls = true) (hnames : ∀ n ∈ names, Bundle.fit n = true)
    (hk : (Cond.classLink own ik cls).before args s = true) (hini : (Cond.initialized cls).before args s = true) (hstr : vk_R own is text sa s) (hat : ∀ w ∈ vx_atS own ic cls names, w.before args s = true)
    (hgood : ∀ w ∈ Cond.classLink own ik cls :: Cond.initialized cls :: vx_atS own ic cls names, vx_ot w = true)
    (hU : vx_Zq Bundle.tN "UNASSIGNED_STACK" Bundle.steD A s s.heap) (hN : vx_Zq Bundle.tN "SUPPRESSED_SENTINEL" Bundle.listD A s s.heap) (hS : va_S A s.heap H locs) (hsize : ls.size = c.maxLocals)
    (d0 : decode cc pc = .ok (.new ik, 3)) (d3 : decode cc (pc + 3) = .ok (.dup, 1)) (d4 : decode cc (pc + 4) = .ok (.ldc_w is, 3)) (d7 : decode cc (pc + 7) = .ok (.invokespecial ic, 3)) (d10 : decode cc (pc + 10) = .ok (.athrow, 1))
    (hout : ∀ x ∈ c.exceptionTable.toList, covers x (pc + 10) = false)
    (hRframes : names.length + 3 < R.frames) (hRlocals : (rest.map fun v => v.category).sum + (13 * (names.length + 1) + 43) ≤ R.locals) (hRcells : cells + 1 ≤ R.cells) (hRslots : slots + 6 ≤ R.slots) (hlocks : meth.locks = false)
    (hx : ∀ t : State, s.vm.Alike t.vm → H.size ≤ t.heap.size → (∀ q : Nat, q < H.size → t.heap[q]? = H[q]?) → XC cls s t)
    (hf : ∀ z ∈ locs, free z.base) (hc : cells + 1 ≤ mc) (hs : slots + 6 ≤ ms) :
    W p l e R s m args below meth c H locs cells slots (vx_MQ below Qc XC args s mc ms free) (F0 m pc ls rest) := by
  intro T hT X
  have htr : e.platform.stackTraces = false := (show e.platform.stackTraces = l.stackTraces by rw [X.admits.platform]).trans hl
  have Y := vx_rebase X (R' := { frames := R.frames, locals := R.locals, cells := 1, slots := 6 }) (Nat.le_refl _) (Nat.le_refl _) hRcells hRslots
  obtain ⟨s', hA⟩ : ∃ z, z = (T.setVm s.vm).setFrames (.invoking m args :: below) := ⟨_, rfl⟩
  rw [← hA] at Y
  have hvm : s'.vm = s.vm := by rw [hA]; rfl
  have hhp : s'.heap = H := by rw [hA]; exact hT
  have hW0 : s.WarmedH s'.vm := by rw [hvm]; exact State.WarmedH.refl s
  have hat' : ∀ w ∈ vx_atS own ic cls names, w.before args s' = true := fun w hw => vx_ot_at hW0 hvm.symm (hgood w (List.mem_cons_of_mem _ (List.mem_cons_of_mem _ hw))) (hat w hw)
  have hk' : (Cond.classLink own ik cls).before args s' = true := vx_ot_at hW0 hvm.symm (hgood _ List.mem_cons_self) hk
  have hini' : (Cond.initialized cls).before args s' = true := vx_ot_at hW0 hvm.symm (hgood _ (List.mem_cons_of_mem _ List.mem_cons_self)) hini
  have hU' : vx_Zq Bundle.tN "UNASSIGNED_STACK" Bundle.steD A s' s'.heap := by rw [hhp]; exact vx_Zq.moved hW0.alike (hU.kept hS.2.1)
  have hN' : vx_Zq Bundle.tN "SUPPRESSED_SENTINEL" Bundle.listD A s' s'.heap := by rw [hhp]; exact vx_Zq.moved hW0.alike (hN.kept hS.2.1)
  have h : ∀ w ∈ Bundle.ownAtoms own ic cls names, w.before args s' = true := vx_own hat' (vx_isRefq hU'.1) (vx_isRefq hN'.1) hU'.2.word hN'.2.word
  have hown' : s'.vm.findClass own = some m.cls := by rw [hvm]; exact hown
  have hins : (Cond.instantiable cls 6).before args s' = true := h _ (by simp [Bundle.ownAtoms])
  obtain ⟨vm₁, cX, kX, hfX, hkX, -, -, X₁, st1⟩ := Y.newCold hexec (own := own) (C := cls) (index := ik) (n := 6) hown' hk' hins hini'
    (g := F0 m pc ls rest) rfl (by rw [hb]; exact d0) (Nat.le_refl _) (Nat.le_refl _)
  generalize hT1 : (T.setVm vm₁).pushCell { cls := cX, slots := kX.instanceTypes.map defaultValue, vm := .none } = T1 at X₁ st1
  have hcat : (Value.ref T.heap.size).category = 1 := rfl
  have hcellA : T1.heap[T.heap.size]? = some (freshCell cX kX) := by rw [← hT1]; exact State.heap_pushCell_size _ _
  have d3' : decode c.code (pc + 3) = .ok (.dup, 1) := by rw [hb]; exact d3
  have d4' : decode c.code (pc + 4) = .ok (.ldc_w is, 3) := by rw [hb]; exact d4
  have hstr' : vk_R own is text sa s' := vk_R.warm hW0 hstr
  obtain ⟨U, hsteps, hrun, hend, hW, hsame, ce, hce, hO⟩ := X₁.ctorThrowS hexec htr (own := own) (cls := cls) (names := names) (ic := ic) hown' hcls hnames h (fun x hx => nomatch hx) hfX hkX hcellA (by rw [hhp, hT]; exact Nat.le_refl _) (msg := .ref sa) rfl
    (g := { method := m, pc := pc + 7, locals := ls, stack := .ref sa :: .ref T.heap.size :: .ref T.heap.size :: rest, locked := none }) rfl hsize rfl rfl (rest := rest) rfl
    (by rw [hb]; exact d7) (by rw [hb]; exact d10) hout hRframes (by simp only [List.map_cons, List.sum_cons, hcat]; omega) hlocks
  obtain ⟨f1, f2⟩ := vx_frame hsame
  rw [hhp] at f1 f2
  have hWs : s.WarmedH U.vm := State.WarmedH.trans hW0 hW
  have hcl : s.vm.findClass cls = some ce.cls := by
    have h9 := hO.cls
    rw [hvm] at h9
    exact h9
  have hall : s.sameButNew ({ U with vm := s.vm } : State) locs mc ms := by
    subst hA
    obtain ⟨e1, e2⟩ := hsame
    rw [State.setFrames_setFrames] at e1
    have h2 : (T.setVm s.vm).sameButNew ({ U with vm := s.vm } : State) [] (0 + 1) (0 + 6) := ⟨e1, e2⟩
    have h3 := X.same.trans h2
    rw [List.append_nil] at h3
    exact h3.mono hc hs
  refine ⟨U, ?_, .threw T.heap.size, hrun, hend, Or.inr ⟨T.heap.size, rfl, cls, ce, locs, hx U hWs.alike f1 (fun q hq => f2 q hq (fun z hz => nomatch hz)), hce, hO.vm, hcl, hWs, hall, hf⟩⟩
  refine st1 _ ?_
  show Steps p.tables e below (T1.setTop { method := m, pc := pc + 3, locals := ls, stack := .ref T.heap.size :: rest, locked := none }) _
  jvm_step X₁.here [X₁.here.top, hexec, d3', Value.category]
  exact X₁.ldcStringW hexec (own := own) (text := text) (index := is) (a := sa) hown' hstr'.1 hstr'.2
    (g := { method := m, pc := pc + 4, locals := ls, stack := .ref T.heap.size :: .ref T.heap.size :: rest, locked := none }) rfl d4' _ hsteps
end Ends
section Bodies
variable {l : Launch}
theorem vx_ofW {y : MethodName} {ws ws' : List Cond} {rm : Room} {Pc : Array Value → State → Prop} {Qc : Array Value → State → Outcome → State → Prop} {XC : String → State → State → Prop} {mc ms : Nat} {free : Addr → Prop} {cc : ByteArray} {maxL : Nat} {ret : Option FieldType}
    (hy : plainName y.cls = true) (hw : ws = Cond.code y cc maxL ret :: ws')
    (body : ∀ p e s m args below meth c s₁, BodyLoose p l y (headSpec ws rm) cc maxL ret e s m args below meth c s₁ → c.maxLocals = maxL → (∀ x ∈ c.exceptionTable.toList, False) → Pc args s →
      W p l e (headSpec ws rm).room s m args below meth c s.heap [] 0 0 (vx_MQ below Qc XC args s mc ms free) (entryFrame m args maxL)) : vx_Met l y ws rm Pc Qc XC mc ms free := by
  refine MetFree.of_bodyS (code := cc) (maxLocals := maxL) (ret := ret) hy ?_ ?_
  · intro args s m h hn
    obtain ⟨meth, c, h1, h2, h3, h4, h5, h6, -, -⟩ := Cond.code_spec hn (atoms_spec (ws := ws) h _ (by rw [hw]; exact List.mem_cons_self))
    exact ⟨meth, c, h1, h2, h3, h4, h5, h6⟩
  · intro p e s m args below meth c s₁ B hml hP _
    have hh0 : s₁.heap = s.heap := by rw [B.state]; rfl
    have ht : ∀ x ∈ c.exceptionTable.toList, False := by
      obtain ⟨meth9, c9, h1, h2, -, -, -, -, h7, -⟩ := Cond.code_spec B.named (atoms_spec (ws := ws) B.pre _ (by rw [hw]; exact List.mem_cons_self))
      cases Option.some.inj (h1.symm.trans B.method)
      cases Option.some.inj (h2.symm.trans (Stand.of_body B).code)
      intro x hx
      rw [Array.isEmpty_iff.mp h7] at hx
      cases hx
    obtain ⟨t, a1, o, b1, b2, b3⟩ := body p e s m args below meth c s₁ B hml ht hP s₁ hh0 (Stand.of_body B)
    exact ⟨t, o, a1, b1, b2, b3⟩
/-- the table of a body with handlers -/
theorem vx_table {p : Program} {x y : MethodName} {S : Spec} {cc bytes : ByteArray} {maxL maxL' : Nat} {ret ret' : Option FieldType} {e : Env} {s s₁ : State} {m : MethodId} {args : Array Value} {below : List Frame} {meth : Method} {c : Code} {hh : List (Nat × Nat × Nat × Nat)}
    (B : BodyLoose p l y S cc maxL ret e s m args below meth c s₁) (h : (Cond.codeWith y bytes maxL' ret' hh).before args s = true) : c.exceptionTable.toList = tableOf hh := by
  obtain ⟨m9, meth9, c9, hn9, h1, h2, -, -, h6, -⟩ := Cond.codeWith_spec h
  cases Option.some.inj (hn9.symm.trans B.named)
  cases Option.some.inj (h1.symm.trans B.method)
  cases Option.some.inj (h2.symm.trans (Stand.of_body B).code)
  rw [← h6, table_eq]
end Bodies
end VXA
/-! ===== END ===== -/
/-! ===== BEGIN a static call of a method with an exception table ===== -/
section VXS
variable {p : Program} {l : Launch} {e : Env} {R : Room} {s : State} {m : MethodId} {args : Array Value} {below : List Frame} {meth : Method} {c : Code} {T : State} {H : Heap} {locs : List Loc} {cells slots : Nat}
abbrev vx_CSW (R : Room) (s : State) (args : Array Value) (own : String) (index : Nat) (y : MethodName) (bytes : ByteArray) (maxL : Nat) (ret : Option FieldType) (hh : List (Nat × Nat × Nat × Nat)) (ws : List Cond) (rm : Room) (mc ms n : Nat) : Prop :=
  (rm.cells = mc ∧ rm.slots = ms ∧ rm.frames + 1 ≤ R.frames ∧ 8 + (maxL + 11) + rm.locals ≤ R.locals ∧ (∀ w ∈ ws, ∀ (a' : Array Value) (U : State), s.WarmedH U.vm → w.before a' U = true) ∧ Cond.codeWith y bytes maxL ret hh ∈ ws) ∧
  (Cond.codeWith y bytes maxL ret hh).before args s = true ∧ (Cond.initialized y.cls).before args s = true ∧ (y.cls ≠ "java/lang/invoke/MethodHandle" ∧ y.cls ≠ "java/lang/invoke/VarHandle") ∧
  (∀ sig, parseMethodDescriptor y.desc = some sig → n = sig.parameters.length) ∧ (Cond.methodLink own index y).before args s = true ∧ (Cond.static y).before args s = true
theorem vx_cwSW {own : String} {index maxL mc ms : Nat} {y : MethodName} {bytes : ByteArray} {ret : Option FieldType} {hh : List (Nat × Nat × Nat × Nat)} {Ts ws ws' : List Cond} {rm : Room} (n : Nat) (ht : ∀ w ∈ Ts, w.before args s = true) (hT : GoodIn Ts (va_wsS own index y ws)) (hw : ws = Cond.codeWith y bytes maxL ret hh :: ws') (hrc : rm.cells = mc) (hrs : rm.slots = ms)
    (hd : y.cls ≠ "java/lang/invoke/MethodHandle" ∧ y.cls ≠ "java/lang/invoke/VarHandle" ∧ (parseMethodDescriptor y.desc).map (fun d => d.parameters.length) = some n) (hR : rm.frames + 1 ≤ R.frames ∧ 8 + (maxL + 11) + rm.locals ≤ R.locals) :
    vx_CSW R s args own index y bytes maxL ret hh ws rm mc ms n := by
  have ok : ∀ w ∈ va_wsS own index y ws, w.before args s = true := fun w h => ht w (hT w h).1
  have hG : GoodIn Ts ws := fun w h => hT w (by unfold va_wsS; exact List.mem_append_right _ h)
  have hc : Cond.codeWith y bytes maxL ret hh ∈ ws := by rw [hw]; exact List.mem_cons_self
  refine ⟨⟨hrc, hrs, hR.1, hR.2, pay_in ht hG, hc⟩, ht _ (hG _ hc).1, ok _ (by simp [va_wsS]), ⟨hd.1, hd.2.1⟩, fun sig h => ?_, ok _ (by simp [va_wsS]), ok _ (by simp [va_wsS])⟩
  have h2 := hd.2.2
  rw [h] at h2
  exact (Option.some.inj h2).symm
theorem vx_callSW (X : Stand p l e R s m args below meth c T locs cells slots) (hexec : p.tables.exec = Jvm.exec) {own : String} {index : Nat} {y : MethodName} {bytes : ByteArray} {maxL : Nat} {ret : Option FieldType} {hh : List (Nat × Nat × Nat × Nat)}
    (hown : s.vm.findClass own = some m.cls) (hlink : (Cond.methodLink own index y).before args s = true) (hstat : (Cond.static y).before args s = true) (hinit : (Cond.initialized y.cls).before args s = true)
    (hcode : (Cond.codeWith y bytes maxL ret hh).before args s = true) (hy : y.cls ≠ "java/lang/invoke/MethodHandle" ∧ y.cls ≠ "java/lang/invoke/VarHandle")
    {W9 : Nat} {Pre : Pt → Array Value → Prop} {Post : Pt → Array Value → Option Value → Pt → Prop} (hK : Back l R p e below s args y 3 W9 Pre Post)
    {g : JFrame} (hg : g.method = m) (hsize : g.locals.size = c.maxLocals) {argsL rest : List Value} (hlen : ∀ sig, parseMethodDescriptor y.desc = some sig → argsL.length = sig.parameters.length)
    (hstack : g.stack = argsL.reverse ++ rest) (hW : 2 * g.monitorRoom + (rest.map fun v => v.category).sum ≤ W9) (hdg : decode c.code g.pc = .ok (.invokestatic index, 3))
    (hpre : ∀ vm₁, s.WarmedH vm₁ → Pre ⟨T.setVm vm₁, locs, cells, slots⟩ argsL.toArray) :
    ∃ (v : Option Value) (vm₁ : Vm) (B : Pt), s.WarmedH vm₁ ∧ Stand p l e R s m args below meth c B.U B.locs B.cells B.slots ∧ Post ⟨T.setVm vm₁, locs, cells, slots⟩ argsL.toArray v B ∧
      ∀ target, Steps p.tables e below (B.U.setTop { g with pc := g.pc + 3, stack := v.toList ++ rest }) target → Steps p.tables e below (T.setTop g) target := by
  obtain ⟨mk, methM, cM, hnamed, hmethM, -, -, -, -, -, -, hsigM⟩ := Cond.codeWith_spec hcode
  have hstatic : methM.isStatic = true := Cond.static_spec hnamed hmethM hstat
  obtain ⟨kP, hkP, -⟩ := className_of_methodNamed hnamed
  have hinitP : kP.init = .initialized := Cond.initialized_spec (findClass_of_methodNamed hnamed) hkP hinit
  obtain ⟨vm₁, X₁, hstep₁⟩ := X.invokestatic hexec hown hlink hnamed hmethM hstatic hkP hinitP hy (g := g) hg (argsL := argsL) (rest := rest) (hlen _ hsigM) hstack hdg
  obtain ⟨v, B, X', hpost, hsteps⟩ := hK m meth c ⟨T.setVm vm₁, locs, cells, slots⟩ { g with stack := rest } (.invokestatic index) mk argsL.toArray X₁ hg hsize hdg hW (X₁.named hnamed) (hpre vm₁ X₁.warmed)
  exact ⟨v, vm₁, B, X₁.warmed, X', hpost, fun target h => hstep₁ _ fun acts => by rw [doInvoke_state]; exact hsteps.trans h⟩
theorem vx_runSW {y : MethodName} {bytes cc : ByteArray} {maxL nL mc ms n index : Nat} {ret : Option FieldType} {hh : List (Nat × Nat × Nat × Nat)} {ws : List Cond} {rm : Room} {Pc : Array Value → State → Prop} {Qc : Array Value → State → Outcome → State → Prop} {free : Addr → Prop} {Ts : List Cond} {own : String} {As rest : List Value} {g : JFrame}
    (S : CallFix p m c cc nL s args Ts own) (hM : Met l y ws rm Pc Qc mc ms free) (cw : vx_CSW R s args own index y bytes maxL ret hh ws rm mc ms n) (hp : PreS s H Pc As)
    (hg : g.method = m) (hn : As.length = n) (hsize : g.locals.size = nL) (hstack : g.stack = As.reverse ++ rest) (hW : 2 * g.monitorRoom + (rest.map fun v => v.category).sum ≤ 8) (hdg : decode cc g.pc = .ok (.invokestatic index, 3)) (hf : cells + mc ≤ R.cells ∧ slots + ms ≤ R.slots) :
    va_Run p l e R s m args below meth c H locs cells slots mc ms g rest (Qc As.toArray) (free) := by
  obtain ⟨⟨hrc, hrs, hfr, hlo, hws, hcw⟩, hcode, hini, hy, hlen, hl, hstt⟩ := cw
  have hK : Back l R p e below s args y 3 8 (PreOf R mc ms Pc) (PostOf Qc mc ms free) := va_backW (hh := hh) (bytes := bytes) (maxL := maxL) (ret := ret) hM hp.1 hrc hrs hfr hlo hws hcw (fun a' U hW => word_at hW (Or.inl (by first | rfl | simp [Cond.onTables, Cond.keeps, Cond.steady])) hini)
  obtain ⟨hx, hb, hml, ho, -⟩ := S
  intro T hT X
  obtain ⟨v, vm₁, ⟨U', l2, c2, s2⟩, hW₁, X', ⟨g', mk, t, L, e1, e2, hq, h1, hL, h2, h3⟩, st⟩ := vx_callSW X hx (hh := hh) (bytes := bytes) (maxL := maxL) (ret := ret) ho hl hstt hini hcode hy hK hg (hsize.trans hml.symm) (argsL := As) (rest := rest) (fun sig h => hn.trans (hlen sig h)) hstack hW (by rw [hb]; exact hdg)
    (fun vm₁ hW₁ => ⟨hf.1, hf.2, hp.2 (T.setVm vm₁) hT hW₁⟩)
  dsimp only [Pt.U, Pt.locs, Pt.cells, Pt.slots] at X' e1 e2 h1 h2 h3 st
  subst h1; subst h2; subst h3
  exact ⟨v, (T.setVm vm₁).calling g' mk As.toArray, t, U', L, hT, X', hL, e1, e2, hq, st⟩
/-- not caught here, past rows that name other classes: it goes on to the caller -/
theorem vx_outP {p : Program} {l : Launch} {e : Env} {R : Room} {s : State} {m : MethodId} {args : Array Value} {below : List Frame} {meth : Method} {c : Code} {H : Heap} {locs : List Loc} {cells slots : Nat} {free : Addr → Prop} {ls : Array Slot} {rest : List Value} {Qc : Array Value → State → Outcome → State → Prop} {XC : String → State → State → Prop}
    {pc : Nat} {own E : String} {ce : Cell} {q : Addr} {mc ms : Nat} (hown : s.vm.findClass own = some m.cls) (hlocks : meth.locks = false)
    (hpass : ∀ z ∈ c.exceptionTable.toList, covers z pc = false ∨ (z.catchType ≠ 0 ∧ ∃ nm : String, (Cond.classLink own z.catchType nm).before args s = true ∧ va_Nc E nm s)) (hcell : H[q]? = some ce) (hv : ce.vm = .none) (hcl : s.vm.findClass E = some ce.cls)
    (hx : ∀ t : State, t.heap = H → s.vm.Alike t.vm → XC E s t) (hf : ∀ z ∈ locs, free z.base) (hc : cells ≤ mc) (hs : slots ≤ ms) :
    vx_W p l e R s m args below meth c H locs cells slots (vx_MQ below Qc XC args s mc ms free) (F0 m pc ls rest) q := by
  intro T hT X
  have hpl : e.platform.magicAccessors = ({} : Platform).magicAccessors := by rw [X.admits.platform]
  obtain ⟨vm', hW', X', st⟩ := X.outThrough hlocks q (g := F0 m pc ls rest) rfl rfl rfl (cell := ce) (by rw [hT]; exact hcell) (by rw [hv]; rfl)
    (by obtain ⟨k9, h9, -⟩ := Vm.findClass_spec hcl; exact ⟨k9, h9⟩) (fun z hz => by
      rcases hpass z hz with h | ⟨hz0, nm, hl1, hn1⟩
      · exact Or.inl h
      · obtain ⟨c6, hc6, hcl6⟩ := Cond.classLink_spec hown hl1 e.platform hpl
        obtain ⟨a8, b8, h1, h2, h3⟩ := hn1
        cases Option.some.inj (h1.symm.trans hcl)
        cases Option.some.inj (h2.symm.trans hc6)
        exact Or.inr ⟨hz0, _, hcl6, h3⟩)
  obtain ⟨g₀, hfr⟩ := X'.frames_eq
  have hcell9 : ((T.setVm vm').setFrames (.throwing q :: below)).heap[q]? = some ce := by
    show T.heap[q]? = some ce
    rw [hT]; exact hcell
  have hend : Ended ((T.setVm vm').setFrames (.throwing q :: below)) below (.threw q) := State.frames_setFrames _ (State.cur_lt_of_frames hfr)
  refine ⟨(T.setVm vm').setFrames (.throwing q :: below), ?_, .threw q, X'.here.running, hend, Or.inr ⟨q, rfl, E, ce, locs, hx _ hT (X'.ends _).1.alike, hcell9, hv, hcl, (X'.ends _).1, (X'.ends _).2.mono hc hs, hf⟩⟩
  rw [X.pushThrowing_eq]
  exact st
/-- a thing of a world lies in the heap -/
theorem vx_lt {D : va_G} {cl : List vw_C} {ws : va_W} {H1 : Heap} (h : va_P D cl ws H1) {k : Nat} {q : Nat × va_E} (hk : ws[k]? = some q) : q.1 < H1.size := (h k q hk).lt
end VXS
/-! ===== END ===== -/
/-! ===== BEGIN methods with a table of their own: called by a name, returning or throwing ===== -/
section VXH
/-! vx_backW, vx_callVX, vx_callSX, vx_callVW, vx_runVW, vx_runVX, vx_runSX, vx_ofWH follow the same proofs as their sisters above (Free/Laws.lean, Shelf42/LK1.lean); vx_outP calls Shelf42/NT130.lean (outThrough). -/
section
variable {l : Launch} {R : Room} {p : Program} {e : Env} {below : List Frame} {s : State} {sargs : Array Value} {y : MethodName} {len W9 : Nat}
theorem vx_backW {ws : List Cond} {rm : Room} {Pc : Array Value → State → Prop} {Qc : Array Value → State → Outcome → State → Prop} {XC : String → State → State → Prop} {mc ms : Nat} {free : Addr → Prop} {bytes : ByteArray} {maxL : Nat} {ret : Option FieldType} {hh : List (Nat × Nat × Nat × Nat)}
    (hM : vx_Met l y ws rm Pc Qc XC mc ms free) (hblind : FrameBlind Pc) (hrc : rm.cells = mc) (hrs : rm.slots = ms)
    (hframes : rm.frames + 1 ≤ R.frames) (hlocals : W9 + (maxL + 11) + rm.locals ≤ R.locals)
    (hws : ∀ w ∈ ws, ∀ a' U, s.WarmedH U.vm → w.before a' U = true) (hcode : Cond.codeWith y bytes maxL ret hh ∈ ws) (hinit : ∀ a' U, s.WarmedH U.vm → (Cond.initialized y.cls).before a' U = true) :
    vx_Back l R p e below s sargs y len W9 (PreOf R mc ms Pc) (PostOf Qc mc ms free) (vx_Post XC mc ms free) := by
  intro m meth c A g ig mk a X hg hsize hdg hW hn hp
  have h1 : (headSpec ws rm).pre.before a A.U = true := atoms_intro fun w hw => hws w hw _ _ X.warmed
  have h2 : (Cond.codeWith y bytes maxL ret hh).before a A.U = true := hws _ hcode _ _ X.warmed
  have h3 : (Cond.initialized y.cls).before a A.U = true := hinit _ _ X.warmed
  have h4 : A.cells + (headSpec ws rm).room.cells ≤ R.cells := by rw [show (headSpec ws rm).room.cells = mc from hrc]; exact hp.1
  have h5 : A.slots + (headSpec ws rm).room.slots ≤ R.slots := by rw [show (headSpec ws rm).room.slots = ms from hrs]; exact hp.2.1
  have hPc : Pc a (A.U.calling g mk a) := hblind _ _ _ _ hp.2.2
  obtain ⟨U, Ls, c0, s0⟩ := A
  dsimp only [Pt.U, Pt.locs, Pt.cells, Pt.slots] at h1 h2 h3 h4 h5 X hn hPc ⊢
  obtain ⟨m9, methY, cY, hn9, hmY, hcY, -, hlY, -⟩ := Cond.codeWith_spec h2
  cases Option.some.inj (hn9.symm.trans hn)
  obtain ⟨kY, hkY, -⟩ := className_of_methodNamed hn
  have hinitY : kY.init = .initialized := Cond.initialized_spec (findClass_of_methodNamed hn) hkY h3
  have h : At U g.method c below := by rw [hg]; exact X.here
  have hlocals9 : W9 + (maxL + 11) + (headSpec ws rm).room.locals ≤ R.locals := hlocals
  have happ : (headSpec ws rm).appliesLoose y e.platform (U.calling g mk a) = true :=
    Spec.appliesLoose_calling (g := g) h hdg hn hkY hinitY
      (X.room_calling (g := g) (R' := (headSpec ws rm).room) hsize hmY hcY hframes (by rw [hlY]; omega) h4 h5) h1
  obtain ⟨mid, hmid⟩ := h.above
  have hfr : (U.setTop g).frames = (.java g :: mid) ++ below := by rw [State.frames_setTop' g h.top, hmid]; rfl
  obtain ⟨o, s₂, hsteps, -, hend, hq⟩ := Steps.callFree hM p X.admits X.cas X.clock (acts := []) hfr happ hPc trivial
  have hq' : vx_Q Qc XC mc ms free a (U.calling g mk a) o s₂ := hq
  rw [State.frames_setTop' g h.top] at hend
  obtain ⟨g₀, hg0⟩ := Option.isSome_iff_exists.mp h.top
  obtain ⟨r, hr⟩ := State.topJava?_eq_some.mp hg0
  have hr' : (({ U with heap := s₂.heap, slotsUsed := s₂.slotsUsed } : State).setVm s₂.vm).frames = .java g₀ :: r := hr
  rcases hq' with ⟨hqc, L, hfe, hL⟩ | ⟨q, rfl, E, ce, L, hx, hce, hcv, hcl, hW₂, hsm, hL⟩
  · obtain ⟨⟨v, rfl⟩, hW₂, e2, q2, q3, q4, q5, q6⟩ := id hfe
    have e3 : s₂ = ({ (U.calling g mk a).setFrames s₂.frames with heap := s₂.heap, slotsUsed := s₂.slotsUsed } : State).setVm s₂.vm := by
      have : s₂ = ({ s₂ with vm := (U.calling g mk a).vm } : State).setVm s₂.vm := rfl
      rw [e2] at this
      exact this
    obtain ⟨c₂, i₂, len₂, hc₂, hd₂, hf₂⟩ := hend
    have hW' : U.WarmedH s₂.vm := hW₂
    have hcc : c₂ = c := by
      have h1 : s₂.code? g.method = U.code? g.method := by
        rw [State.code?_eq, State.code?_eq, hW'.alike.method?]
      exact Option.some.inj (hc₂.symm.trans (h1.trans h.code))
    subst hcc
    have hlen : len₂ = len := by rw [hdg] at hd₂; cases hd₂; rfl
    subst hlen
    have hs₂ : s₂ = (({ U with heap := s₂.heap, slotsUsed := s₂.slotsUsed } : State).setVm s₂.vm).setTop { g with pc := g.pc + len₂, stack := v.toList ++ g.stack } := by
      refine e3.trans ?_
      rw [hf₂, State.calling_eq h.top, State.setFrames_setFrames, State.setTop_of_frames _ hr', hr]
      rfl
    have hsame : U.sameButNew ({ U with heap := s₂.heap, slotsUsed := s₂.slotsUsed } : State) L mc ms := by
      refine ⟨?_, q2, q3, q4, q5, q6⟩
      obtain ⟨t, ht, -⟩ := State.frames_cons hr
      show ({ U with heap := s₂.heap, slotsUsed := s₂.slotsUsed } : State) = { U.setFrames U.frames with heap := s₂.heap, slotsUsed := s₂.slotsUsed }
      rw [State.setFrames_self ht]
    subst hg
    refine Or.inl ⟨v, ⟨(({ U with heap := s₂.heap, slotsUsed := s₂.slotsUsed } : State).setVm s₂.vm), Ls ++ L, c0 + mc, s0 + ms⟩,
      ⟨X.admits, X.cas, X.clock, X.frames, X.room, X.hears, X.method, X.code, (X.here.setHeapUsed s₂.heap s₂.slotsUsed).setVm hW'.alike, X.tail, State.WarmedH.trans X.warmed hW', X.limits, X.bytes, X.same.trans (hsame.setVm s.vm)⟩,
      ⟨g, mk, s₂, L, rfl, rfl, hqc, rfl, hL, rfl, rfl⟩, ?_⟩
    show Steps p.tables e below _ ((({ U with heap := s₂.heap, slotsUsed := s₂.slotsUsed } : State).setVm s₂.vm).setTop { g with pc := g.pc + len₂, stack := v.toList ++ g.stack })
    rw [← hs₂]
    exact hsteps
  · obtain ⟨e2, q2, q3, q4, q5, q6⟩ := id hsm
    have e3 : s₂ = ({ (U.calling g mk a).setFrames s₂.frames with heap := s₂.heap, slotsUsed := s₂.slotsUsed } : State).setVm s₂.vm := by
      have : s₂ = ({ s₂ with vm := (U.calling g mk a).vm } : State).setVm s₂.vm := rfl
      rw [e2] at this
      exact this
    have hf₂ : s₂.frames = .throwing q :: .java g :: U.frames.tail := hend
    have hW' : U.WarmedH s₂.vm := hW₂
    have hs₂ : s₂ = ((({ U with heap := s₂.heap, slotsUsed := s₂.slotsUsed } : State).setVm s₂.vm).setTop g).pushFrame (.throwing q) := by
      refine e3.trans ?_
      rw [hf₂, State.calling_eq h.top, State.setFrames_setFrames, State.pushFrame, State.frames_setTop _ hr', State.setTop_of_frames _ hr', State.setFrames_setFrames, hr]
      rfl
    have hsame : U.sameButNew ({ U with heap := s₂.heap, slotsUsed := s₂.slotsUsed } : State) L mc ms := by
      refine ⟨?_, q2, q3, q4, q5, q6⟩
      obtain ⟨t, ht, -⟩ := State.frames_cons hr
      show ({ U with heap := s₂.heap, slotsUsed := s₂.slotsUsed } : State) = { U.setFrames U.frames with heap := s₂.heap, slotsUsed := s₂.slotsUsed }
      rw [State.setFrames_self ht]
    subst hg
    refine Or.inr ⟨q, ⟨(({ U with heap := s₂.heap, slotsUsed := s₂.slotsUsed } : State).setVm s₂.vm), Ls ++ L, c0 + mc, s0 + ms⟩,
      ⟨X.admits, X.cas, X.clock, X.frames, X.room, X.hears, X.method, X.code, (X.here.setHeapUsed s₂.heap s₂.slotsUsed).setVm hW'.alike, X.tail, State.WarmedH.trans X.warmed hW', X.limits, X.bytes, X.same.trans (hsame.setVm s.vm)⟩,
      ⟨g, mk, s₂, L, E, ce, rfl, rfl, hx, hce, hcv, hcl, rfl, hL, rfl, rfl⟩, ?_⟩
    show Steps p.tables e below _ (((({ U with heap := s₂.heap, slotsUsed := s₂.slotsUsed } : State).setVm s₂.vm).setTop g).pushFrame (.throwing q))
    rw [← hs₂]
    exact hsteps
end
variable {p : Program} {l : Launch} {e : Env} {R : Room} {s : State} {m : MethodId} {args : Array Value} {below : List Frame} {meth : Method} {c : Code} {T : State} {H : Heap} {locs : List Loc} {cells slots : Nat}
theorem vx_callVX (X : Stand p l e R s m args below meth c T locs cells slots) (hexec : p.tables.exec = Jvm.exec) {own C : String} {index : Nat} {y : MethodName} {bytes : ByteArray} {maxL : Nat} {ret : Option FieldType} {hh : List (Nat × Nat × Nat × Nat)}
    (hown : s.vm.findClass own = some m.cls) (hlink : (Cond.methodLink own index y).before args s = true) (hinst : (Cond.instanceMethod y).before args s = true) (hsel : (Cond.selects C y y).before args s = true)
    (hcode : (Cond.codeWith y bytes maxL ret hh).before args s = true) (hy : y.cls ≠ "java/lang/invoke/MethodHandle" ∧ y.cls ≠ "java/lang/invoke/VarHandle")
    {W9 : Nat} {Pre : Pt → Array Value → Prop} {Post : Pt → Array Value → Option Value → Pt → Prop} {PostX : Pt → Array Value → Addr → Pt → Prop} (hK : vx_Back l R p e below s args y 3 W9 Pre Post PostX)
    {b : Addr} {cellB : Cell} (hcell : T.heap[b]? = some cellB) (hobj : cellB.vm.isStatics = false) (hcls : s.vm.findClass C = some cellB.cls)
    {g : JFrame} (hg : g.method = m) (hsize : g.locals.size = c.maxLocals) {argsL rest : List Value} (hlen : ∀ sig, parseMethodDescriptor y.desc = some sig → argsL.length = sig.parameters.length)
    (hstack : g.stack = argsL.reverse ++ .ref b :: rest) (hW : 2 * g.monitorRoom + (rest.map fun v => v.category).sum ≤ W9) (hdg : decode c.code g.pc = .ok (.invokevirtual index, 3))
    (hpre : ∀ vm₁, s.WarmedH vm₁ → Pre ⟨T.setVm vm₁, locs, cells, slots⟩ (Value.ref b :: argsL).toArray) :
    (∃ (v : Option Value) (vm₁ : Vm) (B : Pt), s.WarmedH vm₁ ∧ Stand p l e R s m args below meth c B.U B.locs B.cells B.slots ∧ Post ⟨T.setVm vm₁, locs, cells, slots⟩ (Value.ref b :: argsL).toArray v B ∧
      ∀ target, Steps p.tables e below (B.U.setTop { g with pc := g.pc + 3, stack := v.toList ++ rest }) target → Steps p.tables e below (T.setTop g) target) ∨
    (∃ (q : Addr) (vm₁ : Vm) (B : Pt), s.WarmedH vm₁ ∧ Stand p l e R s m args below meth c B.U B.locs B.cells B.slots ∧ PostX ⟨T.setVm vm₁, locs, cells, slots⟩ (Value.ref b :: argsL).toArray q B ∧
      Steps p.tables e below (T.setTop g) ((B.U.setTop { g with stack := rest }).pushFrame (.throwing q))) := by
  obtain ⟨mk, methM, hnamed, hmethM, hstM, habM⟩ := Cond.instanceMethod_spec hinst
  obtain ⟨m8, methM', cM, hn8, hmethM', -, -, -, -, -, -, hsigM⟩ := Cond.codeWith_spec hcode
  cases Option.some.inj (hn8.symm.trans hnamed)
  cases hmethM.symm.trans hmethM'
  obtain ⟨c2, r2, m2, q1, q2, q3, q4, kP, hkP, hkPi⟩ := Cond.selects_spec hsel
  cases hcls.symm.trans q1
  cases (State.methodFound?_of_named hnamed hy).symm.trans q2
  cases hnamed.symm.trans q3
  have hselP : selectMethod e.platform s.vm cellB.cls mk = .method mk := by rw [Launch.admits_selectMethod X.admits]; exact q4
  obtain ⟨vm₁, X₁, hstep₁⟩ := X.invokevirtual hexec hown hlink hnamed hmethM hstM hkP hkPi hy (a := b) (cell := cellB) hcell
    (fun z h => by rw [h] at hobj; cases hobj) hselP hmethM habM hkP hkPi (g := g) hg (argsL := argsL) (rest := rest) (hlen _ hsigM) hstack hdg
  rcases hK m meth c ⟨T.setVm vm₁, locs, cells, slots⟩ { g with stack := rest } (.invokevirtual index) mk (Value.ref b :: argsL).toArray X₁ hg hsize hdg hW (X₁.named hnamed) (hpre vm₁ X₁.warmed) with ⟨v, B, X', hpost, hsteps⟩ | ⟨q, B, X', hpost, hsteps⟩
  · exact Or.inl ⟨v, vm₁, B, X₁.warmed, X', hpost, fun target h => hstep₁ _ fun acts => by rw [doInvoke_state]; exact hsteps.trans h⟩
  · exact Or.inr ⟨q, vm₁, B, X₁.warmed, X', hpost, hstep₁ _ fun acts => by rw [doInvoke_state]; exact hsteps⟩
theorem vx_callSX (X : Stand p l e R s m args below meth c T locs cells slots) (hexec : p.tables.exec = Jvm.exec) {own : String} {index : Nat} {y : MethodName} {bytes : ByteArray} {maxL : Nat} {ret : Option FieldType} {hh : List (Nat × Nat × Nat × Nat)}
    (hown : s.vm.findClass own = some m.cls) (hlink : (Cond.methodLink own index y).before args s = true) (hstat : (Cond.static y).before args s = true) (hinit : (Cond.initialized y.cls).before args s = true)
    (hcode : (Cond.codeWith y bytes maxL ret hh).before args s = true) (hy : y.cls ≠ "java/lang/invoke/MethodHandle" ∧ y.cls ≠ "java/lang/invoke/VarHandle")
    {W9 : Nat} {Pre : Pt → Array Value → Prop} {Post : Pt → Array Value → Option Value → Pt → Prop} {PostX : Pt → Array Value → Addr → Pt → Prop} (hK : vx_Back l R p e below s args y 3 W9 Pre Post PostX)
    {g : JFrame} (hg : g.method = m) (hsize : g.locals.size = c.maxLocals) {argsL rest : List Value} (hlen : ∀ sig, parseMethodDescriptor y.desc = some sig → argsL.length = sig.parameters.length)
    (hstack : g.stack = argsL.reverse ++ rest) (hW : 2 * g.monitorRoom + (rest.map fun v => v.category).sum ≤ W9) (hdg : decode c.code g.pc = .ok (.invokestatic index, 3))
    (hpre : ∀ vm₁, s.WarmedH vm₁ → Pre ⟨T.setVm vm₁, locs, cells, slots⟩ argsL.toArray) :
    (∃ (v : Option Value) (vm₁ : Vm) (B : Pt), s.WarmedH vm₁ ∧ Stand p l e R s m args below meth c B.U B.locs B.cells B.slots ∧ Post ⟨T.setVm vm₁, locs, cells, slots⟩ argsL.toArray v B ∧
      ∀ target, Steps p.tables e below (B.U.setTop { g with pc := g.pc + 3, stack := v.toList ++ rest }) target → Steps p.tables e below (T.setTop g) target) ∨
    (∃ (q : Addr) (vm₁ : Vm) (B : Pt), s.WarmedH vm₁ ∧ Stand p l e R s m args below meth c B.U B.locs B.cells B.slots ∧ PostX ⟨T.setVm vm₁, locs, cells, slots⟩ argsL.toArray q B ∧
      Steps p.tables e below (T.setTop g) ((B.U.setTop { g with stack := rest }).pushFrame (.throwing q))) := by
  obtain ⟨mk, methM, cM, hnamed, hmethM, -, -, -, -, -, -, hsigM⟩ := Cond.codeWith_spec hcode
  have hstatic : methM.isStatic = true := Cond.static_spec hnamed hmethM hstat
  obtain ⟨kP, hkP, -⟩ := className_of_methodNamed hnamed
  have hinitP : kP.init = .initialized := Cond.initialized_spec (findClass_of_methodNamed hnamed) hkP hinit
  obtain ⟨vm₁, X₁, hstep₁⟩ := X.invokestatic hexec hown hlink hnamed hmethM hstatic hkP hinitP hy (g := g) hg (argsL := argsL) (rest := rest) (hlen _ hsigM) hstack hdg
  rcases hK m meth c ⟨T.setVm vm₁, locs, cells, slots⟩ { g with stack := rest } (.invokestatic index) mk argsL.toArray X₁ hg hsize hdg hW (X₁.named hnamed) (hpre vm₁ X₁.warmed) with ⟨v, B, X', hpost, hsteps⟩ | ⟨q, B, X', hpost, hsteps⟩
  · exact Or.inl ⟨v, vm₁, B, X₁.warmed, X', hpost, fun target h => hstep₁ _ fun acts => by rw [doInvoke_state]; exact hsteps.trans h⟩
  · exact Or.inr ⟨q, vm₁, B, X₁.warmed, X', hpost, hstep₁ _ fun acts => by rw [doInvoke_state]; exact hsteps⟩
theorem vx_callVW (X : Stand p l e R s m args below meth c T locs cells slots) (hexec : p.tables.exec = Jvm.exec) {own C : String} {index : Nat} {y : MethodName} {bytes : ByteArray} {maxL : Nat} {ret : Option FieldType} {hh : List (Nat × Nat × Nat × Nat)}
    (hown : s.vm.findClass own = some m.cls) (hlink : (Cond.methodLink own index y).before args s = true) (hinst : (Cond.instanceMethod y).before args s = true) (hsel : (Cond.selects C y y).before args s = true)
    (hcode : (Cond.codeWith y bytes maxL ret hh).before args s = true) (hy : y.cls ≠ "java/lang/invoke/MethodHandle" ∧ y.cls ≠ "java/lang/invoke/VarHandle")
    {W9 : Nat} {Pre : Pt → Array Value → Prop} {Post : Pt → Array Value → Option Value → Pt → Prop} (hK : Back l R p e below s args y 3 W9 Pre Post)
    {b : Addr} {cellB : Cell} (hcell : T.heap[b]? = some cellB) (hobj : cellB.vm.isStatics = false) (hcls : s.vm.findClass C = some cellB.cls)
    {g : JFrame} (hg : g.method = m) (hsize : g.locals.size = c.maxLocals) {argsL rest : List Value} (hlen : ∀ sig, parseMethodDescriptor y.desc = some sig → argsL.length = sig.parameters.length)
    (hstack : g.stack = argsL.reverse ++ .ref b :: rest) (hW : 2 * g.monitorRoom + (rest.map fun v => v.category).sum ≤ W9) (hdg : decode c.code g.pc = .ok (.invokevirtual index, 3))
    (hpre : ∀ vm₁, s.WarmedH vm₁ → Pre ⟨T.setVm vm₁, locs, cells, slots⟩ (Value.ref b :: argsL).toArray) :
    ∃ (v : Option Value) (vm₁ : Vm) (B : Pt), s.WarmedH vm₁ ∧ Stand p l e R s m args below meth c B.U B.locs B.cells B.slots ∧ Post ⟨T.setVm vm₁, locs, cells, slots⟩ (Value.ref b :: argsL).toArray v B ∧
      ∀ target, Steps p.tables e below (B.U.setTop { g with pc := g.pc + 3, stack := v.toList ++ rest }) target → Steps p.tables e below (T.setTop g) target := by
  obtain ⟨mk, methM, hnamed, hmethM, hstM, habM⟩ := Cond.instanceMethod_spec hinst
  obtain ⟨m8, methM', cM, hn8, hmethM', -, -, -, -, -, -, hsigM⟩ := Cond.codeWith_spec hcode
  cases Option.some.inj (hn8.symm.trans hnamed)
  cases hmethM.symm.trans hmethM'
  obtain ⟨c2, r2, m2, q1, q2, q3, q4, kP, hkP, hkPi⟩ := Cond.selects_spec hsel
  cases hcls.symm.trans q1
  cases (State.methodFound?_of_named hnamed hy).symm.trans q2
  cases hnamed.symm.trans q3
  have hselP : selectMethod e.platform s.vm cellB.cls mk = .method mk := by rw [Launch.admits_selectMethod X.admits]; exact q4
  obtain ⟨vm₁, X₁, hstep₁⟩ := X.invokevirtual hexec hown hlink hnamed hmethM hstM hkP hkPi hy (a := b) (cell := cellB) hcell
    (fun z h => by rw [h] at hobj; cases hobj) hselP hmethM habM hkP hkPi (g := g) hg (argsL := argsL) (rest := rest) (hlen _ hsigM) hstack hdg
  obtain ⟨v, B, X', hpost, hsteps⟩ := hK m meth c ⟨T.setVm vm₁, locs, cells, slots⟩ { g with stack := rest } (.invokevirtual index) mk (Value.ref b :: argsL).toArray X₁ hg hsize hdg hW (X₁.named hnamed) (hpre vm₁ X₁.warmed)
  exact ⟨v, vm₁, B, X₁.warmed, X', hpost, fun target h => hstep₁ _ fun acts => by rw [doInvoke_state]; exact hsteps.trans h⟩
abbrev vx_CVW (R : Room) (s : State) (args : Array Value) (own C : String) (index : Nat) (y : MethodName) (bytes : ByteArray) (maxL : Nat) (ret : Option FieldType) (hh : List (Nat × Nat × Nat × Nat)) (ws : List Cond) (rm : Room) (mc ms n : Nat) : Prop :=
  (rm.cells = mc ∧ rm.slots = ms ∧ rm.frames + 1 ≤ R.frames ∧ 8 + (maxL + 11) + rm.locals ≤ R.locals ∧ (∀ w ∈ ws, ∀ (a' : Array Value) (U : State), s.WarmedH U.vm → w.before a' U = true) ∧ Cond.codeWith y bytes maxL ret hh ∈ ws) ∧
  (Cond.codeWith y bytes maxL ret hh).before args s = true ∧ (Cond.initialized y.cls).before args s = true ∧ (y.cls ≠ "java/lang/invoke/MethodHandle" ∧ y.cls ≠ "java/lang/invoke/VarHandle") ∧
  (∀ sig, parseMethodDescriptor y.desc = some sig → n = sig.parameters.length) ∧ (Cond.methodLink own index y).before args s = true ∧ (Cond.instanceMethod y).before args s = true ∧ (Cond.selects C y y).before args s = true
theorem vx_cwVW {own C : String} {index maxL mc ms : Nat} {y : MethodName} {bytes : ByteArray} {ret : Option FieldType} {hh : List (Nat × Nat × Nat × Nat)} {Ts ws ws' : List Cond} {rm : Room} (n : Nat) (ht : ∀ w ∈ Ts, w.before args s = true) (hT : GoodIn Ts (wsV own index C y ws)) (hw : ws = Cond.codeWith y bytes maxL ret hh :: ws') (hrc : rm.cells = mc) (hrs : rm.slots = ms)
    (hd : y.cls = C ∧ y.cls ≠ "java/lang/invoke/MethodHandle" ∧ y.cls ≠ "java/lang/invoke/VarHandle" ∧ (parseMethodDescriptor y.desc).map (fun d => d.parameters.length) = some n) (hR : rm.frames + 1 ≤ R.frames ∧ 8 + (maxL + 11) + rm.locals ≤ R.locals) :
    vx_CVW R s args own C index y bytes maxL ret hh ws rm mc ms n := by
  obtain ⟨hC, hd⟩ := hd
  subst hC
  have ok : ∀ w ∈ wsV own index y.cls y ws, w.before args s = true := fun w h => ht w (hT w h).1
  have hG : GoodIn Ts ws := fun w h => hT w (by unfold wsV; exact List.mem_append_right _ h)
  have hc : Cond.codeWith y bytes maxL ret hh ∈ ws := by rw [hw]; exact List.mem_cons_self
  refine ⟨⟨hrc, hrs, hR.1, hR.2, pay_in ht hG, hc⟩, ht _ (hG _ hc).1, ok _ (by simp [wsV]), ⟨hd.1, hd.2.1⟩, fun sig h => ?_, ok _ (by simp [wsV]), ok _ (by simp [wsV]), ok _ (by simp [wsV])⟩
  have h2 := hd.2.2
  rw [h] at h2
  exact (Option.some.inj h2).symm
theorem vx_runVW {y : MethodName} {bytes cc : ByteArray} {maxL nL mc ms n index : Nat} {ret : Option FieldType} {hh : List (Nat × Nat × Nat × Nat)} {ws : List Cond} {rm : Room} {Pc : Array Value → State → Prop} {Qc : Array Value → State → Outcome → State → Prop} {free : Addr → Prop} {Ts : List Cond} {own C : String} {b : Addr} {As rest : List Value} {g : JFrame}
    (S : CallFix p m c cc nL s args Ts own) (hM : Met l y ws rm Pc Qc mc ms free) (cw : vx_CVW R s args own C index y bytes maxL ret hh ws rm mc ms n) (hp : PreV s H C b Pc As)
    (hg : g.method = m) (hn : As.length = n) (hsize : g.locals.size = nL) (hstack : g.stack = As.reverse ++ .ref b :: rest) (hW : 2 * g.monitorRoom + (rest.map fun v => v.category).sum ≤ 8) (hdg : decode cc g.pc = .ok (.invokevirtual index, 3)) (hf : cells + mc ≤ R.cells ∧ slots + ms ≤ R.slots) :
    va_Run p l e R s m args below meth c H locs cells slots mc ms g rest (Qc (Value.ref b :: As).toArray) free := by
  obtain ⟨⟨hrc, hrs, hfr, hlo, hws, hcw⟩, hcode, hini, hy, hlen, hl, hin, hse⟩ := cw
  have hK : Back l R p e below s args y 3 8 (PreOf R mc ms Pc) (PostOf Qc mc ms free) := va_backW (hh := hh) (bytes := bytes) (maxL := maxL) (ret := ret) hM hp.1 hrc hrs hfr hlo hws hcw (fun a' U hW => word_at hW (Or.inl (by first | rfl | simp [Cond.onTables, Cond.keeps, Cond.steady])) hini)
  obtain ⟨hx, hb, hml, ho, -⟩ := S
  obtain ⟨-, ⟨cellB, hcB, hoB, hclB⟩, hPc⟩ := hp
  intro T hT X
  obtain ⟨v, vm₁, ⟨U', l2, c2, s2⟩, hW₁, X', ⟨g', mk, t, L, e1, e2, hq, h1, hL, h2, h3⟩, st⟩ := vx_callVW X hx (C := C) (hh := hh) (bytes := bytes) (maxL := maxL) (ret := ret) ho hl hin hse hcode hy hK (by rw [hT]; exact hcB) hoB hclB hg (hsize.trans hml.symm) (argsL := As) (rest := rest) (fun sig h => hn.trans (hlen sig h)) hstack hW (by rw [hb]; exact hdg)
    (fun vm₁ hW₁ => ⟨hf.1, hf.2, hPc (T.setVm vm₁) hT hW₁⟩)
  dsimp only [Pt.U, Pt.locs, Pt.cells, Pt.slots] at X' e1 e2 h1 h2 h3 st
  subst h1; subst h2; subst h3
  exact ⟨v, (T.setVm vm₁).calling g' mk (Value.ref b :: As).toArray, t, U', L, hT, X', hL, e1, e2, hq, st⟩
section
variable {y : MethodName} {bytes cc : ByteArray} {maxL nL mc ms n index : Nat} {ret : Option FieldType} {ws : List Cond} {rm : Room} {Pc : Array Value → State → Prop} {Qc : Array Value → State → Outcome → State → Prop} {XC : String → State → State → Prop} {free : Addr → Prop} {Ts : List Cond} {own C : String} {b : Addr} {As rest : List Value} {g : JFrame}
theorem vx_runVX {hh : List (Nat × Nat × Nat × Nat)} (S : CallFix p m c cc nL s args Ts own) (hM : vx_Met l y ws rm Pc Qc XC mc ms free) (cw : vx_CVW R s args own C index y bytes maxL ret hh ws rm mc ms n) (hp : PreV s H C b Pc As)
    (hg : g.method = m) (hn : As.length = n) (hsize : g.locals.size = nL) (hstack : g.stack = As.reverse ++ .ref b :: rest) (hW : 2 * g.monitorRoom + (rest.map fun v => v.category).sum ≤ 8) (hdg : decode cc g.pc = .ok (.invokevirtual index, 3)) (hf : cells + mc ≤ R.cells ∧ slots + ms ≤ R.slots) :
    vx_Run p l e R s m args below meth c H locs cells slots mc ms g rest (Qc (Value.ref b :: As).toArray) XC free := by
  obtain ⟨⟨hrc, hrs, hfr, hlo, hws, hcw⟩, hcode, hini, hy, hlen, hl, hin, hse⟩ := cw
  have hK : vx_Back l R p e below s args y 3 8 (PreOf R mc ms Pc) (PostOf Qc mc ms free) (vx_Post XC mc ms free) := vx_backW (hh := hh) (bytes := bytes) (maxL := maxL) (ret := ret) hM hp.1 hrc hrs hfr hlo hws hcw (fun a' U hW => word_at hW (Or.inl (by first | rfl | simp [Cond.onTables, Cond.keeps, Cond.steady])) hini)
  obtain ⟨hx, hb, hml, ho, -⟩ := S
  obtain ⟨-, ⟨cellB, hcB, hoB, hclB⟩, hPc⟩ := hp
  intro T hT X
  rcases vx_callVX X hx (C := C) (hh := hh) (bytes := bytes) (maxL := maxL) (ret := ret) ho hl hin hse hcode hy hK (by rw [hT]; exact hcB) hoB hclB hg (hsize.trans hml.symm) (argsL := As) (rest := rest) (fun sig h => hn.trans (hlen sig h)) hstack hW (by rw [hb]; exact hdg)
    (fun vm₁ hW₁ => ⟨hf.1, hf.2, hPc (T.setVm vm₁) hT hW₁⟩) with ⟨v, vm₁, ⟨U', l2, c2, s2⟩, hW₁, X', ⟨g', mk, t, L, e1, e2, hq, h1, hL, h2, h3⟩, st⟩ | ⟨q, vm₁, ⟨U', l2, c2, s2⟩, hW₁, X', ⟨g', mk, t, L, E, ce, e1, e2, hq, hce, hcv, hcl, h1, hL, h2, h3⟩, st⟩
  · dsimp only [Pt.U, Pt.locs, Pt.cells, Pt.slots] at X' e1 e2 h1 h2 h3 st
    subst h1; subst h2; subst h3
    exact Or.inl ⟨v, (T.setVm vm₁).calling g' mk (Value.ref b :: As).toArray, t, U', L, hT, X', hL, e1, e2, hq, st⟩
  · dsimp only [Pt.U, Pt.locs, Pt.cells, Pt.slots] at X' e1 e2 h1 h2 h3 st hcl
    subst h1; subst h2; subst h3
    exact Or.inr ⟨q, (T.setVm vm₁).calling g' mk (Value.ref b :: As).toArray, t, U', L, E, ce, hT, X', hL, e1, e2, hq, hce, hcv, vx_cls hW₁ hcl, st⟩
theorem vx_runSX {hh : List (Nat × Nat × Nat × Nat)} (S : CallFix p m c cc nL s args Ts own) (hM : vx_Met l y ws rm Pc Qc XC mc ms free) (cw : vx_CSW R s args own index y bytes maxL ret hh ws rm mc ms n) (hp : PreS s H Pc As)
    (hg : g.method = m) (hn : As.length = n) (hsize : g.locals.size = nL) (hstack : g.stack = As.reverse ++ rest) (hW : 2 * g.monitorRoom + (rest.map fun v => v.category).sum ≤ 8) (hdg : decode cc g.pc = .ok (.invokestatic index, 3)) (hf : cells + mc ≤ R.cells ∧ slots + ms ≤ R.slots) :
    vx_Run p l e R s m args below meth c H locs cells slots mc ms g rest (Qc As.toArray) XC free := by
  obtain ⟨⟨hrc, hrs, hfr, hlo, hws, hcw⟩, hcode, hini, hy, hlen, hl, hstt⟩ := cw
  have hK : vx_Back l R p e below s args y 3 8 (PreOf R mc ms Pc) (PostOf Qc mc ms free) (vx_Post XC mc ms free) := vx_backW (hh := hh) (bytes := bytes) (maxL := maxL) (ret := ret) hM hp.1 hrc hrs hfr hlo hws hcw (fun a' U hW => word_at hW (Or.inl (by first | rfl | simp [Cond.onTables, Cond.keeps, Cond.steady])) hini)
  obtain ⟨hx, hb, hml, ho, -⟩ := S
  intro T hT X
  rcases vx_callSX X hx (hh := hh) (bytes := bytes) (maxL := maxL) (ret := ret) ho hl hstt hini hcode hy hK hg (hsize.trans hml.symm) (argsL := As) (rest := rest) (fun sig h => hn.trans (hlen sig h)) hstack hW (by rw [hb]; exact hdg)
    (fun vm₁ hW₁ => ⟨hf.1, hf.2, hp.2 (T.setVm vm₁) hT hW₁⟩) with ⟨v, vm₁, ⟨U', l2, c2, s2⟩, hW₁, X', ⟨g', mk, t, L, e1, e2, hq, h1, hL, h2, h3⟩, st⟩ | ⟨q, vm₁, ⟨U', l2, c2, s2⟩, hW₁, X', ⟨g', mk, t, L, E, ce, e1, e2, hq, hce, hcv, hcl, h1, hL, h2, h3⟩, st⟩
  · dsimp only [Pt.U, Pt.locs, Pt.cells, Pt.slots] at X' e1 e2 h1 h2 h3 st
    subst h1; subst h2; subst h3
    exact Or.inl ⟨v, (T.setVm vm₁).calling g' mk As.toArray, t, U', L, hT, X', hL, e1, e2, hq, st⟩
  · dsimp only [Pt.U, Pt.locs, Pt.cells, Pt.slots] at X' e1 e2 h1 h2 h3 st hcl
    subst h1; subst h2; subst h3
    exact Or.inr ⟨q, (T.setVm vm₁).calling g' mk As.toArray, t, U', L, E, ce, hT, X', hL, e1, e2, hq, hce, hcv, vx_cls hW₁ hcl, st⟩
end
end VXH
theorem vx_ofWH {l : Launch} {y : MethodName} {ws ws' : List Cond} {rm : Room} {Pc : Array Value → State → Prop} {Qc : Array Value → State → Outcome → State → Prop} {XC : String → State → State → Prop} {mc ms : Nat} {free : Addr → Prop} {cc : ByteArray} {maxL : Nat} {ret : Option FieldType} {hh : List (Nat × Nat × Nat × Nat)}
    (hy : plainName y.cls = true) (hw : ws = Cond.codeWith y cc maxL ret hh :: ws')
    (body : ∀ p e s m args below meth c s₁, BodyLoose p l y (headSpec ws rm) cc maxL ret e s m args below meth c s₁ → c.maxLocals = maxL → Pc args s →
      W p l e (headSpec ws rm).room s m args below meth c s.heap [] 0 0 (vx_MQ below Qc XC args s mc ms free) (entryFrame m args maxL)) : vx_Met l y ws rm Pc Qc XC mc ms free := by
  refine MetFree.of_bodyS (code := cc) (maxLocals := maxL) (ret := ret) hy ?_ ?_
  · intro args s m h hn
    obtain ⟨m9, meth, c, hn9, h1, h2, h3, h4, -, h5, h6, -⟩ := Cond.codeWith_spec (atoms_spec (ws := ws) h _ (by rw [hw]; exact List.mem_cons_self))
    cases hn.symm.trans hn9
    exact ⟨meth, c, h1, h2, h3, h4, h5, h6⟩
  · intro p e s m args below meth c s₁ B hml hP _
    have hh0 : s₁.heap = s.heap := by rw [B.state]; rfl
    obtain ⟨t, a1, o, b1, b2, b3⟩ := body p e s m args below meth c s₁ B hml hP s₁ hh0 (Stand.of_body B)
    exact ⟨t, o, a1, b1, b2, b3⟩
/-! ===== END ===== -/
end
section
/-! ===== BEGIN printed: names, fields, word lists, decode rows ===== -/
def RX0 : String := "LogSpooler$Forwarder"
def TX0 : u_T := fun k => match k with
  | 0 => ("LogSpooler$Forwarder", "row", "[I", true)
  | 1 => ("LogSpooler$Forwarder", "end", "I", false)
  | 2 => ("LogSpooler$Forwarder", "firstQueued", "I", false)
  | 3 => ("LogSpooler$Forwarder", "acknowledgedOnes", "I", false)
  | 4 => ("LogSpooler$Forwarder", "lostOnes", "I", false)
  | _ => ("LogSpooler$Forwarder", "isConnected", "Z", false)
def tyX0 : Nat → FieldType := fun k => match k with
  | 0 => .array .int
  | 1 => .int
  | 2 => .int
  | 3 => .int
  | 4 => .int
  | _ => .boolean
abbrev wsX00 : List Cond := u_ws RX0 TX0 6
theorem nmX0 : ∀ a, a < 6 → ∀ b, b < 6 → a ≠ b → (TX0 a).2.1 ≠ (TX0 b).2.1 := by decide +kernel
theorem tyX0_ok : ∀ k, k < 6 → parseFieldDescriptor (TX0 k).2.2.1 = some (tyX0 k) := by decide +kernel
abbrev cX0_init : ByteArray := prog_2_method_1_code
def yX0_init : MethodName := ⟨RX0, "<init>", "()V"⟩
abbrev cX0_waiting : ByteArray := prog_2_method_2_code
def yX0_waiting : MethodName := ⟨RX0, "waiting", "()I"⟩
abbrev cX0_flying : ByteArray := prog_2_method_3_code
def yX0_flying : MethodName := ⟨RX0, "flying", "()I"⟩
abbrev cX0_take : ByteArray := prog_2_method_4_code
def yX0_take : MethodName := ⟨RX0, "take", "(I)V"⟩
abbrev cX0_canSend : ByteArray := prog_2_method_5_code
def yX0_canSend : MethodName := ⟨RX0, "canSend", "()Z"⟩
abbrev cX0_sendFirst : ByteArray := prog_2_method_6_code
def yX0_sendFirst : MethodName := ⟨RX0, "sendFirst", "()I"⟩
abbrev cX0_acknowledgeFirst : ByteArray := prog_2_method_7_code
def yX0_acknowledgeFirst : MethodName := ⟨RX0, "acknowledgeFirst", "()I"⟩
abbrev cX0_loseConnection : ByteArray := prog_2_method_8_code
def yX0_loseConnection : MethodName := ⟨RX0, "loseConnection", "()V"⟩
abbrev cX0_lineAt : ByteArray := prog_2_method_9_code
def yX0_lineAt : MethodName := ⟨RX0, "lineAt", "(I)I"⟩
def RX1 : String := "LogSpooler$Ledger"
def TX1 : u_T := fun k => match k with
  | 0 => ("LogSpooler$Ledger", "fates", "[I", true)
  | 1 => ("LogSpooler$Ledger", "targetSets", "[I", true)
  | _ => ("LogSpooler$Ledger", "entries", "I", false)
def tyX1 : Nat → FieldType := fun k => match k with
  | 0 => .array .int
  | 1 => .array .int
  | _ => .int
abbrev wsX10 : List Cond := u_ws RX1 TX1 3
theorem nmX1 : ∀ a, a < 3 → ∀ b, b < 3 → a ≠ b → (TX1 a).2.1 ≠ (TX1 b).2.1 := by decide +kernel
theorem tyX1_ok : ∀ k, k < 3 → parseFieldDescriptor (TX1 k).2.2.1 = some (tyX1 k) := by decide +kernel
abbrev cX1_init : ByteArray := prog_3_method_1_code
def yX1_init : MethodName := ⟨RX1, "<init>", "()V"⟩
abbrev cX1_isFull : ByteArray := prog_3_method_2_code
def yX1_isFull : MethodName := ⟨RX1, "isFull", "()Z"⟩
abbrev cX1_has : ByteArray := prog_3_method_3_code
def yX1_has : MethodName := ⟨RX1, "has", "(I)Z"⟩
abbrev cX1_enter : ByteArray := prog_3_method_4_code
def yX1_enter : MethodName := ⟨RX1, "enter", "(II)I"⟩
abbrev cX1_fateAt : ByteArray := prog_3_method_5_code
def yX1_fateAt : MethodName := ⟨RX1, "fateAt", "(I)I"⟩
abbrev cX1_targetsAt : ByteArray := prog_3_method_6_code
def yX1_targetsAt : MethodName := ⟨RX1, "targetsAt", "(I)I"⟩
abbrev cX1_entriesWith : ByteArray := prog_3_method_7_code
def yX1_entriesWith : MethodName := ⟨RX1, "entriesWith", "(I)I"⟩
def RX2 : String := "LogSpooler$LogFile"
def TX2 : u_T := fun k => match k with
  | 0 => ("LogSpooler$LogFile", "row", "[I", true)
  | 1 => ("LogSpooler$LogFile", "starts", "[I", true)
  | 2 => ("LogSpooler$LogFile", "end", "I", false)
  | 3 => ("LogSpooler$LogFile", "greatestSize", "I", false)
  | 4 => ("LogSpooler$LogFile", "age", "I", false)
  | 5 => ("LogSpooler$LogFile", "kept", "I", false)
  | 6 => ("LogSpooler$LogFile", "firstCame", "I", false)
  | 7 => ("LogSpooler$LogFile", "sumOfLengths", "I", false)
  | 8 => ("LogSpooler$LogFile", "olderOnes", "I", false)
  | _ => ("LogSpooler$LogFile", "rotations", "I", false)
def tyX2 : Nat → FieldType := fun k => match k with
  | 0 => .array .int
  | 1 => .array .int
  | 2 => .int
  | 3 => .int
  | 4 => .int
  | 5 => .int
  | 6 => .int
  | 7 => .int
  | 8 => .int
  | _ => .int
abbrev wsX20 : List Cond := u_ws RX2 TX2 10
theorem nmX2 : ∀ a, a < 10 → ∀ b, b < 10 → a ≠ b → (TX2 a).2.1 ≠ (TX2 b).2.1 := by decide +kernel
theorem tyX2_ok : ∀ k, k < 10 → parseFieldDescriptor (TX2 k).2.2.1 = some (tyX2 k) := by decide +kernel
abbrev cX2_init : ByteArray := prog_4_method_1_code
def yX2_init : MethodName := ⟨RX2, "<init>", "()V"⟩
abbrev cX2_limit : ByteArray := prog_4_method_2_code
def yX2_limit : MethodName := ⟨RX2, "limit", "(III)V"⟩
abbrev cX2_isEmpty : ByteArray := prog_4_method_3_code
def yX2_isEmpty : MethodName := ⟨RX2, "isEmpty", "()Z"⟩
abbrev cX2_isAged : ByteArray := prog_4_method_4_code
def yX2_isAged : MethodName := ⟨RX2, "isAged", "(I)Z"⟩
abbrev cX2_add : ByteArray := prog_4_method_5_code
def yX2_add : MethodName := ⟨RX2, "add", "(III)V"⟩
abbrev cX2_turnOver : ByteArray := prog_4_method_6_code
def yX2_turnOver : MethodName := ⟨RX2, "turnOver", "()V"⟩
abbrev cX2_has : ByteArray := prog_4_method_7_code
def yX2_has : MethodName := ⟨RX2, "has", "(I)Z"⟩
abbrev cX2_linesOf : ByteArray := prog_4_method_8_code
def yX2_linesOf : MethodName := ⟨RX2, "linesOf", "(I)I"⟩
abbrev cX2_lineAt : ByteArray := prog_4_method_9_code
def yX2_lineAt : MethodName := ⟨RX2, "lineAt", "(II)I"⟩
abbrev cX2_startOf : ByteArray := prog_4_method_10_code
def yX2_startOf : MethodName := ⟨RX2, "startOf", "(I)I"⟩
def RX3 : String := "LogSpooler$Rule"
def TX3 : u_T := fun k => match k with
  | 0 => ("LogSpooler$Rule", "isSet", "Z", false)
  | 1 => ("LogSpooler$Rule", "facilities", "I", false)
  | 2 => ("LogSpooler$Rule", "severity", "I", false)
  | 3 => ("LogSpooler$Rule", "sender", "I", false)
  | _ => ("LogSpooler$Rule", "target", "I", false)
def tyX3 : Nat → FieldType := fun k => match k with
  | 0 => .boolean
  | 1 => .int
  | 2 => .int
  | 3 => .int
  | _ => .int
abbrev wsX30 : List Cond := u_ws RX3 TX3 5
theorem nmX3 : ∀ a, a < 5 → ∀ b, b < 5 → a ≠ b → (TX3 a).2.1 ≠ (TX3 b).2.1 := by decide +kernel
theorem tyX3_ok : ∀ k, k < 5 → parseFieldDescriptor (TX3 k).2.2.1 = some (tyX3 k) := by decide +kernel
abbrev cX3_init : ByteArray := prog_5_method_1_code
def yX3_init : MethodName := ⟨RX3, "<init>", "()V"⟩
abbrev cX3_put : ByteArray := prog_5_method_2_code
def yX3_put : MethodName := ⟨RX3, "put", "(IIII)V"⟩
abbrev cX3_fits : ByteArray := prog_5_method_3_code
def yX3_fits : MethodName := ⟨RX3, "fits", "(III)Z"⟩
def RX4 : String := "LogSpooler$Sender"
def TX4 : u_T := fun k => match k with
  | 0 => ("LogSpooler$Sender", "number", "I", true)
  | 1 => ("LogSpooler$Sender", "tokensLeft", "I", false)
  | 2 => ("LogSpooler$Sender", "untoldRepeats", "I", false)
  | 3 => ("LogSpooler$Sender", "firstRepeat", "I", false)
  | 4 => ("LogSpooler$Sender", "untoldDrops", "I", false)
  | 5 => ("LogSpooler$Sender", "lastFacility", "I", false)
  | 6 => ("LogSpooler$Sender", "lastSeverity", "I", false)
  | 7 => ("LogSpooler$Sender", "lastText", "I", false)
  | _ => ("LogSpooler$Sender", "lastLength", "I", false)
def tyX4 : Nat → FieldType := fun k => match k with
  | 0 => .int
  | 1 => .int
  | 2 => .int
  | 3 => .int
  | 4 => .int
  | 5 => .int
  | 6 => .int
  | 7 => .int
  | _ => .int
abbrev wsX40 : List Cond := u_ws RX4 TX4 9
theorem nmX4 : ∀ a, a < 9 → ∀ b, b < 9 → a ≠ b → (TX4 a).2.1 ≠ (TX4 b).2.1 := by decide +kernel
theorem tyX4_ok : ∀ k, k < 9 → parseFieldDescriptor (TX4 k).2.2.1 = some (tyX4 k) := by decide +kernel
abbrev cX4_init : ByteArray := prog_6_method_1_code
def yX4_init : MethodName := ⟨RX4, "<init>", "(II)V"⟩
abbrev cX4_capTokens : ByteArray := prog_6_method_2_code
def yX4_capTokens : MethodName := ⟨RX4, "capTokens", "(I)V"⟩
abbrev cX4_gainToken : ByteArray := prog_6_method_3_code
def yX4_gainToken : MethodName := ⟨RX4, "gainToken", "(I)V"⟩
abbrev cX4_lastIs : ByteArray := prog_6_method_4_code
def yX4_lastIs : MethodName := ⟨RX4, "lastIs", "(IIII)Z"⟩
abbrev cX4_setLast : ByteArray := prog_6_method_5_code
def yX4_setLast : MethodName := ⟨RX4, "setLast", "(IIII)V"⟩
abbrev cX4_countRepeat : ByteArray := prog_6_method_6_code
def yX4_countRepeat : MethodName := ⟨RX4, "countRepeat", "(I)V"⟩
def RX5 : String := "LogSpooler"
def TX5 : u_T := fun k => match k with
  | 0 => ("LogSpooler", "senders", "[LLogSpooler$Sender;", true)
  | 1 => ("LogSpooler", "rules", "[LLogSpooler$Rule;", true)
  | 2 => ("LogSpooler", "files", "[LLogSpooler$LogFile;", true)
  | 3 => ("LogSpooler", "forwarder", "LLogSpooler$Forwarder;", true)
  | 4 => ("LogSpooler", "ledger", "LLogSpooler$Ledger;", true)
  | 5 => ("LogSpooler", "now", "I", false)
  | 6 => ("LogSpooler", "burst", "I", false)
  | 7 => ("LogSpooler", "tokenTime", "I", false)
  | _ => ("LogSpooler", "foldTime", "I", false)
def tyX5 : Nat → FieldType := fun k => match k with
  | 0 => .array (.object "LogSpooler$Sender")
  | 1 => .array (.object "LogSpooler$Rule")
  | 2 => .array (.object "LogSpooler$LogFile")
  | 3 => .object "LogSpooler$Forwarder"
  | 4 => .object "LogSpooler$Ledger"
  | 5 => .int
  | 6 => .int
  | 7 => .int
  | _ => .int
abbrev wsX50 : List Cond := u_ws RX5 TX5 9
theorem nmX5 : ∀ a, a < 9 → ∀ b, b < 9 → a ≠ b → (TX5 a).2.1 ≠ (TX5 b).2.1 := by decide +kernel
theorem tyX5_ok : ∀ k, k < 9 → parseFieldDescriptor (TX5 k).2.2.1 = some (tyX5 k) := by decide +kernel
abbrev cX5_init : ByteArray := prog_1_method_1_code
def yX5_init : MethodName := ⟨RX5, "<init>", "()V"⟩
abbrev cX5_setRate : ByteArray := prog_1_method_2_code
def yX5_setRate : MethodName := ⟨RX5, "setRate", "(II)I"⟩
abbrev cX5_setFold : ByteArray := prog_1_method_3_code
def yX5_setFold : MethodName := ⟨RX5, "setFold", "(I)I"⟩
abbrev cX5_setRule : ByteArray := prog_1_method_4_code
def yX5_setRule : MethodName := ⟨RX5, "setRule", "(IIIII)I"⟩
abbrev cX5_removeRule : ByteArray := prog_1_method_5_code
def yX5_removeRule : MethodName := ⟨RX5, "removeRule", "(I)Z"⟩
abbrev cX5_setFile : ByteArray := prog_1_method_6_code
def yX5_setFile : MethodName := ⟨RX5, "setFile", "(IIII)I"⟩
abbrev cX5_message : ByteArray := prog_1_method_7_code
def yX5_message : MethodName := ⟨RX5, "message", "(IIIII)I"⟩
abbrev cX5_pass : ByteArray := prog_1_method_8_code
def yX5_pass : MethodName := ⟨RX5, "pass", "(I)I"⟩
abbrev cX5_rotate : ByteArray := prog_1_method_9_code
def yX5_rotate : MethodName := ⟨RX5, "rotate", "(I)I"⟩
abbrev cX5_connect : ByteArray := prog_1_method_10_code
def yX5_connect : MethodName := ⟨RX5, "connect", "()I"⟩
abbrev cX5_disconnect : ByteArray := prog_1_method_11_code
def yX5_disconnect : MethodName := ⟨RX5, "disconnect", "()I"⟩
abbrev cX5_send : ByteArray := prog_1_method_12_code
def yX5_send : MethodName := ⟨RX5, "send", "()I"⟩
abbrev cX5_acknowledge : ByteArray := prog_1_method_13_code
def yX5_acknowledge : MethodName := ⟨RX5, "acknowledge", "()I"⟩
abbrev cX5_time : ByteArray := prog_1_method_14_code
def yX5_time : MethodName := ⟨RX5, "time", "()I"⟩
abbrev cX5_tokens : ByteArray := prog_1_method_15_code
def yX5_tokens : MethodName := ⟨RX5, "tokens", "(I)I"⟩
abbrev cX5_repeats : ByteArray := prog_1_method_16_code
def yX5_repeats : MethodName := ⟨RX5, "repeats", "(I)I"⟩
abbrev cX5_drops : ByteArray := prog_1_method_17_code
def yX5_drops : MethodName := ⟨RX5, "drops", "(I)I"⟩
abbrev cX5_size : ByteArray := prog_1_method_18_code
def yX5_size : MethodName := ⟨RX5, "size", "(I)I"⟩
abbrev cX5_lines : ByteArray := prog_1_method_19_code
def yX5_lines : MethodName := ⟨RX5, "lines", "(II)I"⟩
abbrev cX5_line : ByteArray := prog_1_method_20_code
def yX5_line : MethodName := ⟨RX5, "line", "(III)I"⟩
abbrev cX5_generations : ByteArray := prog_1_method_21_code
def yX5_generations : MethodName := ⟨RX5, "generations", "(I)I"⟩
abbrev cX5_queued : ByteArray := prog_1_method_22_code
def yX5_queued : MethodName := ⟨RX5, "queued", "()I"⟩
abbrev cX5_inFlight : ByteArray := prog_1_method_23_code
def yX5_inFlight : MethodName := ⟨RX5, "inFlight", "()I"⟩
abbrev cX5_acknowledged : ByteArray := prog_1_method_24_code
def yX5_acknowledged : MethodName := ⟨RX5, "acknowledged", "()I"⟩
abbrev cX5_lost : ByteArray := prog_1_method_25_code
def yX5_lost : MethodName := ⟨RX5, "lost", "()I"⟩
abbrev cX5_messages : ByteArray := prog_1_method_26_code
def yX5_messages : MethodName := ⟨RX5, "messages", "()I"⟩
abbrev cX5_fateOf : ByteArray := prog_1_method_27_code
def yX5_fateOf : MethodName := ⟨RX5, "fateOf", "(I)I"⟩
abbrev cX5_count : ByteArray := prog_1_method_28_code
def yX5_count : MethodName := ⟨RX5, "count", "(I)I"⟩
abbrev cX5_targetsOf : ByteArray := prog_1_method_29_code
def yX5_targetsOf : MethodName := ⟨RX5, "targetsOf", "(I)I"⟩
abbrev cX5_isWithin : ByteArray := prog_1_method_30_code
def yX5_isWithin : MethodName := ⟨RX5, "isWithin", "(III)Z"⟩
abbrev cX5_senderAt : ByteArray := prog_1_method_31_code
def yX5_senderAt : MethodName := ⟨RX5, "senderAt", "(I)LLogSpooler$Sender;"⟩
abbrev cX5_ruleAt : ByteArray := prog_1_method_32_code
def yX5_ruleAt : MethodName := ⟨RX5, "ruleAt", "(I)LLogSpooler$Rule;"⟩
abbrev cX5_fileAt : ByteArray := prog_1_method_33_code
def yX5_fileAt : MethodName := ⟨RX5, "fileAt", "(I)LLogSpooler$LogFile;"⟩
abbrev cX5_rulesThatAreSet : ByteArray := prog_1_method_34_code
def yX5_rulesThatAreSet : MethodName := ⟨RX5, "rulesThatAreSet", "()I"⟩
abbrev cX5_tellRepeats : ByteArray := prog_1_method_35_code
def yX5_tellRepeats : MethodName := ⟨RX5, "tellRepeats", "(LLogSpooler$Sender;)V"⟩
abbrev cX5_tellDrops : ByteArray := prog_1_method_36_code
def yX5_tellDrops : MethodName := ⟨RX5, "tellDrops", "(LLogSpooler$Sender;)V"⟩
abbrev cX5_route : ByteArray := prog_1_method_37_code
def yX5_route : MethodName := ⟨RX5, "route", "(IIIII)I"⟩
abbrev cX5_passOneSecond : ByteArray := prog_1_method_38_code
def yX5_passOneSecond : MethodName := ⟨RX5, "passOneSecond", "()V"⟩
abbrev cX5_giveTokens : ByteArray := prog_1_method_39_code
def yX5_giveTokens : MethodName := ⟨RX5, "giveTokens", "()V"⟩
abbrev cX5_tellDueRepeats : ByteArray := prog_1_method_40_code
def yX5_tellDueRepeats : MethodName := ⟨RX5, "tellDueRepeats", "()V"⟩
abbrev cX5_firstWithDueRepeats : ByteArray := prog_1_method_41_code
def yX5_firstWithDueRepeats : MethodName := ⟨RX5, "firstWithDueRepeats", "()LLogSpooler$Sender;"⟩
abbrev cX5_rotateAgedFiles : ByteArray := prog_1_method_42_code
def yX5_rotateAgedFiles : MethodName := ⟨RX5, "rotateAgedFiles", "()V"⟩
abbrev cX5_rotationsOfAllFiles : ByteArray := prog_1_method_43_code
def yX5_rotationsOfAllFiles : MethodName := ⟨RX5, "rotationsOfAllFiles", "()I"⟩
def RX6 : String := "LogSpoolerModel"
def TX6 : u_T := fun k => match k with
  | 0 => ("LogSpoolerModel", "thrown", "I", false)
  | 1 => ("LogSpoolerModel", "time", "I", false)
  | 2 => ("LogSpoolerModel", "burst", "I", false)
  | 3 => ("LogSpoolerModel", "tokenTime", "I", false)
  | 4 => ("LogSpoolerModel", "fold", "I", false)
  | 5 => ("LogSpoolerModel", "tokens", "[I", true)
  | 6 => ("LogSpoolerModel", "repeats", "[I", true)
  | 7 => ("LogSpoolerModel", "firstRepeats", "[I", true)
  | 8 => ("LogSpoolerModel", "drops", "[I", true)
  | 9 => ("LogSpoolerModel", "lasts", "[I", true)
  | 10 => ("LogSpoolerModel", "isSet", "[Z", true)
  | 11 => ("LogSpoolerModel", "facilities", "[I", true)
  | 12 => ("LogSpoolerModel", "severities", "[I", true)
  | 13 => ("LogSpoolerModel", "senders", "[I", true)
  | 14 => ("LogSpoolerModel", "targets", "[I", true)
  | 15 => ("LogSpoolerModel", "most", "[I", true)
  | 16 => ("LogSpoolerModel", "ages", "[I", true)
  | 17 => ("LogSpoolerModel", "kept", "[I", true)
  | 18 => ("LogSpoolerModel", "sizes", "[I", true)
  | 19 => ("LogSpoolerModel", "ends", "[I", true)
  | 20 => ("LogSpoolerModel", "generations", "[I", true)
  | 21 => ("LogSpoolerModel", "starts", "[I", true)
  | 22 => ("LogSpoolerModel", "lines", "[I", true)
  | 23 => ("LogSpoolerModel", "times", "[I", true)
  | 24 => ("LogSpoolerModel", "isConnected", "Z", false)
  | 25 => ("LogSpoolerModel", "forwarded", "[I", true)
  | 26 => ("LogSpoolerModel", "taken", "I", false)
  | 27 => ("LogSpoolerModel", "sent", "I", false)
  | 28 => ("LogSpoolerModel", "acknowledged", "I", false)
  | 29 => ("LogSpoolerModel", "lost", "I", false)
  | 30 => ("LogSpoolerModel", "rotations", "I", false)
  | 31 => ("LogSpoolerModel", "messages", "I", false)
  | 32 => ("LogSpoolerModel", "fates", "[I", true)
  | _ => ("LogSpoolerModel", "wentTo", "[I", true)
def tyX6 : Nat → FieldType := fun k => match k with
  | 0 => .int
  | 1 => .int
  | 2 => .int
  | 3 => .int
  | 4 => .int
  | 5 => .array .int
  | 6 => .array .int
  | 7 => .array .int
  | 8 => .array .int
  | 9 => .array .int
  | 10 => .array .boolean
  | 11 => .array .int
  | 12 => .array .int
  | 13 => .array .int
  | 14 => .array .int
  | 15 => .array .int
  | 16 => .array .int
  | 17 => .array .int
  | 18 => .array .int
  | 19 => .array .int
  | 20 => .array .int
  | 21 => .array .int
  | 22 => .array .int
  | 23 => .array .int
  | 24 => .boolean
  | 25 => .array .int
  | 26 => .int
  | 27 => .int
  | 28 => .int
  | 29 => .int
  | 30 => .int
  | 31 => .int
  | 32 => .array .int
  | _ => .array .int
abbrev wsX60 : List Cond := u_ws RX6 TX6 34
theorem nmX6 : ∀ a, a < 34 → ∀ b, b < 34 → a ≠ b → (TX6 a).2.1 ≠ (TX6 b).2.1 := by decide +kernel
theorem tyX6_ok : ∀ k, k < 34 → parseFieldDescriptor (TX6 k).2.2.1 = some (tyX6 k) := by decide +kernel
abbrev cX6_init : ByteArray := prog_8_method_1_code
def yX6_init : MethodName := ⟨RX6, "<init>", "()V"⟩
abbrev cX6_thrown : ByteArray := prog_8_method_2_code
def yX6_thrown : MethodName := ⟨RX6, "thrown", "()I"⟩
abbrev cX6_holds : ByteArray := prog_8_method_3_code
def yX6_holds : MethodName := ⟨RX6, "holds", "(I)Z"⟩
abbrev cX6_isIn : ByteArray := prog_8_method_4_code
def yX6_isIn : MethodName := ⟨RX6, "isIn", "(III)Z"⟩
abbrev cX6_setRate : ByteArray := prog_8_method_5_code
def yX6_setRate : MethodName := ⟨RX6, "setRate", "(II)I"⟩
abbrev cX6_setFold : ByteArray := prog_8_method_6_code
def yX6_setFold : MethodName := ⟨RX6, "setFold", "(I)I"⟩
abbrev cX6_setRule : ByteArray := prog_8_method_7_code
def yX6_setRule : MethodName := ⟨RX6, "setRule", "(IIIII)I"⟩
abbrev cX6_removeRule : ByteArray := prog_8_method_8_code
def yX6_removeRule : MethodName := ⟨RX6, "removeRule", "(I)Z"⟩
abbrev cX6_isFile : ByteArray := prog_8_method_9_code
def yX6_isFile : MethodName := ⟨RX6, "isFile", "(I)Z"⟩
abbrev cX6_setFile : ByteArray := prog_8_method_10_code
def yX6_setFile : MethodName := ⟨RX6, "setFile", "(IIII)I"⟩
abbrev cX6_linesOf : ByteArray := prog_8_method_11_code
def yX6_linesOf : MethodName := ⟨RX6, "linesOf", "(I)I"⟩
abbrev cX6_rotates : ByteArray := prog_8_method_12_code
def yX6_rotates : MethodName := ⟨RX6, "rotates", "(I)V"⟩
abbrev cX6_comesTo : ByteArray := prog_8_method_13_code
def yX6_comesTo : MethodName := ⟨RX6, "comesTo", "(III)V"⟩
abbrev cX6_forwards : ByteArray := prog_8_method_14_code
def yX6_forwards : MethodName := ⟨RX6, "forwards", "(I)V"⟩
abbrev cX6_goes : ByteArray := prog_8_method_15_code
def yX6_goes : MethodName := ⟨RX6, "goes", "(IIIII)I"⟩
abbrev cX6_tellsRepeats : ByteArray := prog_8_method_16_code
def yX6_tellsRepeats : MethodName := ⟨RX6, "tellsRepeats", "(I)V"⟩
abbrev cX6_tellsDrops : ByteArray := prog_8_method_17_code
def yX6_tellsDrops : MethodName := ⟨RX6, "tellsDrops", "(I)V"⟩
abbrev cX6_notes : ByteArray := prog_8_method_18_code
def yX6_notes : MethodName := ⟨RX6, "notes", "(II)I"⟩
abbrev cX6_message : ByteArray := prog_8_method_19_code
def yX6_message : MethodName := ⟨RX6, "message", "(IIIII)I"⟩
abbrev cX6_due : ByteArray := prog_8_method_20_code
def yX6_due : MethodName := ⟨RX6, "due", "()I"⟩
abbrev cX6_passes : ByteArray := prog_8_method_21_code
def yX6_passes : MethodName := ⟨RX6, "passes", "()V"⟩
abbrev cX6_pass : ByteArray := prog_8_method_22_code
def yX6_pass : MethodName := ⟨RX6, "pass", "(I)I"⟩
abbrev cX6_rotate : ByteArray := prog_8_method_23_code
def yX6_rotate : MethodName := ⟨RX6, "rotate", "(I)I"⟩
abbrev cX6_connect : ByteArray := prog_8_method_24_code
def yX6_connect : MethodName := ⟨RX6, "connect", "()I"⟩
abbrev cX6_disconnect : ByteArray := prog_8_method_25_code
def yX6_disconnect : MethodName := ⟨RX6, "disconnect", "()I"⟩
abbrev cX6_send : ByteArray := prog_8_method_26_code
def yX6_send : MethodName := ⟨RX6, "send", "()I"⟩
abbrev cX6_acknowledge : ByteArray := prog_8_method_27_code
def yX6_acknowledge : MethodName := ⟨RX6, "acknowledge", "()I"⟩
abbrev cX6_time : ByteArray := prog_8_method_28_code
def yX6_time : MethodName := ⟨RX6, "time", "()I"⟩
abbrev cX6_isSender : ByteArray := prog_8_method_29_code
def yX6_isSender : MethodName := ⟨RX6, "isSender", "(I)Z"⟩
abbrev cX6_tokens : ByteArray := prog_8_method_30_code
def yX6_tokens : MethodName := ⟨RX6, "tokens", "(I)I"⟩
abbrev cX6_repeats : ByteArray := prog_8_method_31_code
def yX6_repeats : MethodName := ⟨RX6, "repeats", "(I)I"⟩
abbrev cX6_drops : ByteArray := prog_8_method_32_code
def yX6_drops : MethodName := ⟨RX6, "drops", "(I)I"⟩
abbrev cX6_size : ByteArray := prog_8_method_33_code
def yX6_size : MethodName := ⟨RX6, "size", "(I)I"⟩
abbrev cX6_isPart : ByteArray := prog_8_method_34_code
def yX6_isPart : MethodName := ⟨RX6, "isPart", "(II)Z"⟩
abbrev cX6_startOf : ByteArray := prog_8_method_35_code
def yX6_startOf : MethodName := ⟨RX6, "startOf", "(II)I"⟩
abbrev cX6_endOf : ByteArray := prog_8_method_36_code
def yX6_endOf : MethodName := ⟨RX6, "endOf", "(II)I"⟩
abbrev cX6_lines : ByteArray := prog_8_method_37_code
def yX6_lines : MethodName := ⟨RX6, "lines", "(II)I"⟩
abbrev cX6_line : ByteArray := prog_8_method_38_code
def yX6_line : MethodName := ⟨RX6, "line", "(III)I"⟩
abbrev cX6_generations : ByteArray := prog_8_method_39_code
def yX6_generations : MethodName := ⟨RX6, "generations", "(I)I"⟩
abbrev cX6_queued : ByteArray := prog_8_method_40_code
def yX6_queued : MethodName := ⟨RX6, "queued", "()I"⟩
abbrev cX6_inFlight : ByteArray := prog_8_method_41_code
def yX6_inFlight : MethodName := ⟨RX6, "inFlight", "()I"⟩
abbrev cX6_acknowledged : ByteArray := prog_8_method_42_code
def yX6_acknowledged : MethodName := ⟨RX6, "acknowledged", "()I"⟩
abbrev cX6_lost : ByteArray := prog_8_method_43_code
def yX6_lost : MethodName := ⟨RX6, "lost", "()I"⟩
abbrev cX6_messages : ByteArray := prog_8_method_44_code
def yX6_messages : MethodName := ⟨RX6, "messages", "()I"⟩
abbrev cX6_isMessage : ByteArray := prog_8_method_45_code
def yX6_isMessage : MethodName := ⟨RX6, "isMessage", "(I)Z"⟩
abbrev cX6_fateOf : ByteArray := prog_8_method_46_code
def yX6_fateOf : MethodName := ⟨RX6, "fateOf", "(I)I"⟩
abbrev cX6_count : ByteArray := prog_8_method_47_code
def yX6_count : MethodName := ⟨RX6, "count", "(I)I"⟩
abbrev cX6_targetsOf : ByteArray := prog_8_method_48_code
def yX6_targetsOf : MethodName := ⟨RX6, "targetsOf", "(I)I"⟩
def RJ0 : String := "java/lang/String"
def TJ0 : u_T := fun k => match k with
  | _ => ("", "", "", false)
def tyJ0 : Nat → FieldType := fun k => match k with
  | _ => .int
abbrev wsJ00 : List Cond := u_ws RJ0 TJ0 0
theorem nmJ0 : ∀ a, a < 0 → ∀ b, b < 0 → a ≠ b → (TJ0 a).2.1 ≠ (TJ0 b).2.1 := by decide +kernel
theorem tyJ0_ok : ∀ k, k < 0 → parseFieldDescriptor (TJ0 k).2.2.1 = some (tyJ0 k) := by decide +kernel
def RL : String := "LogSpoolerLaw"
abbrev cL_setRate : ByteArray := method_3_code
def yL_setRate : MethodName := ⟨RL, "setRate", "(LLogSpooler;II[J)I"⟩
abbrev cL_setFold : ByteArray := method_4_code
def yL_setFold : MethodName := ⟨RL, "setFold", "(LLogSpooler;I[J)I"⟩
abbrev cL_setRule : ByteArray := method_5_code
def yL_setRule : MethodName := ⟨RL, "setRule", "(LLogSpooler;IIIII[J)I"⟩
abbrev cL_removeRule : ByteArray := method_6_code
def yL_removeRule : MethodName := ⟨RL, "removeRule", "(LLogSpooler;I[J)I"⟩
abbrev cL_setFile : ByteArray := method_7_code
def yL_setFile : MethodName := ⟨RL, "setFile", "(LLogSpooler;IIII[J)I"⟩
abbrev cL_message : ByteArray := method_8_code
def yL_message : MethodName := ⟨RL, "message", "(LLogSpooler;IIIII[J)I"⟩
abbrev cL_pass : ByteArray := method_9_code
def yL_pass : MethodName := ⟨RL, "pass", "(LLogSpooler;I[J)I"⟩
abbrev cL_rotate : ByteArray := method_10_code
def yL_rotate : MethodName := ⟨RL, "rotate", "(LLogSpooler;I[J)I"⟩
abbrev cL_connect : ByteArray := method_11_code
def yL_connect : MethodName := ⟨RL, "connect", "(LLogSpooler;[J)I"⟩
abbrev cL_disconnect : ByteArray := method_12_code
def yL_disconnect : MethodName := ⟨RL, "disconnect", "(LLogSpooler;[J)I"⟩
abbrev cL_send : ByteArray := method_13_code
def yL_send : MethodName := ⟨RL, "send", "(LLogSpooler;[J)I"⟩
abbrev cL_acknowledge : ByteArray := method_14_code
def yL_acknowledge : MethodName := ⟨RL, "acknowledge", "(LLogSpooler;[J)I"⟩
abbrev cL_tokens : ByteArray := method_15_code
def yL_tokens : MethodName := ⟨RL, "tokens", "(LLogSpooler;I[J)I"⟩
abbrev cL_repeats : ByteArray := method_16_code
def yL_repeats : MethodName := ⟨RL, "repeats", "(LLogSpooler;I[J)I"⟩
abbrev cL_drops : ByteArray := method_17_code
def yL_drops : MethodName := ⟨RL, "drops", "(LLogSpooler;I[J)I"⟩
abbrev cL_size : ByteArray := method_18_code
def yL_size : MethodName := ⟨RL, "size", "(LLogSpooler;I[J)I"⟩
abbrev cL_lines : ByteArray := method_19_code
def yL_lines : MethodName := ⟨RL, "lines", "(LLogSpooler;II[J)I"⟩
abbrev cL_line : ByteArray := method_20_code
def yL_line : MethodName := ⟨RL, "line", "(LLogSpooler;III[J)I"⟩
abbrev cL_generations : ByteArray := method_21_code
def yL_generations : MethodName := ⟨RL, "generations", "(LLogSpooler;I[J)I"⟩
abbrev cL_fateOf : ByteArray := method_22_code
def yL_fateOf : MethodName := ⟨RL, "fateOf", "(LLogSpooler;I[J)I"⟩
abbrev cL_count : ByteArray := method_23_code
def yL_count : MethodName := ⟨RL, "count", "(LLogSpooler;I[J)I"⟩
abbrev cL_targetsOf : ByteArray := method_24_code
def yL_targetsOf : MethodName := ⟨RL, "targetsOf", "(LLogSpooler;I[J)I"⟩
abbrev cL_law : ByteArray := code
def yL_law : MethodName := ⟨RL, "law", "([I)Z"⟩
def wsX0_init : List Cond := .code yX0_init cX0_init 1 none :: ([.methodLink RX0 3 objectInit, .instanceMethod objectInit, .code objectInit ⟨#[0xb1]⟩ 1 none, .arrayClass .int, .fieldLink RX0 9 "LogSpooler$Forwarder" "row" "[I", .fieldLink RX0 15 "LogSpooler$Forwarder" "end" "I", .fieldLink RX0 19 "LogSpooler$Forwarder" "firstQueued" "I", .fieldLink RX0 22 "LogSpooler$Forwarder" "acknowledgedOnes" "I", .fieldLink RX0 25 "LogSpooler$Forwarder" "lostOnes" "I", .fieldLink RX0 28 "LogSpooler$Forwarder" "isConnected" "Z"] ++ wsX00)
def wsX0_waiting : List Cond := .code yX0_waiting cX0_waiting 1 (some .int) :: ([.fieldLink RX0 15 "LogSpooler$Forwarder" "end" "I", .fieldLink RX0 19 "LogSpooler$Forwarder" "firstQueued" "I"] ++ wsX00)
def wsX0_flying : List Cond := .code yX0_flying cX0_flying 1 (some .int) :: ([.fieldLink RX0 19 "LogSpooler$Forwarder" "firstQueued" "I", .fieldLink RX0 22 "LogSpooler$Forwarder" "acknowledgedOnes" "I"] ++ wsX00)
def wsX0_take : List Cond := .code yX0_take cX0_take 2 none :: ([.fieldLink RX0 15 "LogSpooler$Forwarder" "end" "I", .fieldLink RX0 22 "LogSpooler$Forwarder" "acknowledgedOnes" "I", .fieldLink RX0 9 "LogSpooler$Forwarder" "row" "[I", .fieldLink RX0 25 "LogSpooler$Forwarder" "lostOnes" "I"] ++ wsX00)
def wsX0_canSend : List Cond := .code yX0_canSend cX0_canSend 1 (some .boolean) :: ([.fieldLink RX0 28 "LogSpooler$Forwarder" "isConnected" "Z", .methodLink RX0 32 yX0_waiting, .instanceMethod yX0_waiting, .selects RX0 yX0_waiting yX0_waiting, .initialized RX0, .code yX0_waiting cX0_waiting 1 (some .int), .fieldLink RX0 15 "LogSpooler$Forwarder" "end" "I", .fieldLink RX0 19 "LogSpooler$Forwarder" "firstQueued" "I", .methodLink RX0 36 yX0_flying, .instanceMethod yX0_flying, .selects RX0 yX0_flying yX0_flying, .code yX0_flying cX0_flying 1 (some .int), .fieldLink RX0 22 "LogSpooler$Forwarder" "acknowledgedOnes" "I"] ++ wsX00)
def wsX0_lineAt : List Cond := .code yX0_lineAt cX0_lineAt 2 (some .int) :: ([.fieldLink RX0 9 "LogSpooler$Forwarder" "row" "[I"] ++ wsX00)
def wsX0_sendFirst : List Cond := .code yX0_sendFirst cX0_sendFirst 2 (some .int) :: ([.fieldLink RX0 19 "LogSpooler$Forwarder" "firstQueued" "I", .methodLink RX0 39 yX0_lineAt, .instanceMethod yX0_lineAt, .selects RX0 yX0_lineAt yX0_lineAt, .initialized RX0, .code yX0_lineAt cX0_lineAt 2 (some .int), .fieldLink RX0 9 "LogSpooler$Forwarder" "row" "[I"] ++ wsX00)
def wsX0_acknowledgeFirst : List Cond := .code yX0_acknowledgeFirst cX0_acknowledgeFirst 2 (some .int) :: ([.fieldLink RX0 22 "LogSpooler$Forwarder" "acknowledgedOnes" "I", .methodLink RX0 39 yX0_lineAt, .instanceMethod yX0_lineAt, .selects RX0 yX0_lineAt yX0_lineAt, .initialized RX0, .code yX0_lineAt cX0_lineAt 2 (some .int), .fieldLink RX0 9 "LogSpooler$Forwarder" "row" "[I"] ++ wsX00)
def wsX0_loseConnection : List Cond := .code yX0_loseConnection cX0_loseConnection 1 none :: ([.fieldLink RX0 28 "LogSpooler$Forwarder" "isConnected" "Z", .fieldLink RX0 22 "LogSpooler$Forwarder" "acknowledgedOnes" "I", .fieldLink RX0 19 "LogSpooler$Forwarder" "firstQueued" "I"] ++ wsX00)
def wsX1_init : List Cond := .code yX1_init cX1_init 1 none :: ([.methodLink RX1 3 objectInit, .instanceMethod objectInit, .code objectInit ⟨#[0xb1]⟩ 1 none, .arrayClass .int, .fieldLink RX1 9 "LogSpooler$Ledger" "fates" "[I", .fieldLink RX1 15 "LogSpooler$Ledger" "targetSets" "[I", .fieldLink RX1 18 "LogSpooler$Ledger" "entries" "I"] ++ wsX10)
def wsX1_isFull : List Cond := .code yX1_isFull cX1_isFull 1 (some .boolean) :: ([.fieldLink RX1 18 "LogSpooler$Ledger" "entries" "I"] ++ wsX10)
def wsX1_has : List Cond := .code yX1_has cX1_has 2 (some .boolean) :: ([.fieldLink RX1 18 "LogSpooler$Ledger" "entries" "I"] ++ wsX10)
def wsX1_enter : List Cond := .code yX1_enter cX1_enter 3 (some .int) :: ([.fieldLink RX1 18 "LogSpooler$Ledger" "entries" "I", .fieldLink RX1 9 "LogSpooler$Ledger" "fates" "[I", .fieldLink RX1 15 "LogSpooler$Ledger" "targetSets" "[I"] ++ wsX10)
def wsX1_fateAt : List Cond := .code yX1_fateAt cX1_fateAt 2 (some .int) :: ([.fieldLink RX1 9 "LogSpooler$Ledger" "fates" "[I"] ++ wsX10)
def wsX1_targetsAt : List Cond := .code yX1_targetsAt cX1_targetsAt 2 (some .int) :: ([.fieldLink RX1 15 "LogSpooler$Ledger" "targetSets" "[I"] ++ wsX10)
def wsX1_entriesWith : List Cond := .code yX1_entriesWith cX1_entriesWith 4 (some .int) :: ([.fieldLink RX1 18 "LogSpooler$Ledger" "entries" "I", .fieldLink RX1 9 "LogSpooler$Ledger" "fates" "[I"] ++ wsX10)
def wsX2_init : List Cond := .code yX2_init cX2_init 1 none :: ([.methodLink RX2 3 objectInit, .instanceMethod objectInit, .code objectInit ⟨#[0xb1]⟩ 1 none, .arrayClass .int, .fieldLink RX2 9 "LogSpooler$LogFile" "row" "[I", .fieldLink RX2 15 "LogSpooler$LogFile" "starts" "[I", .fieldLink RX2 18 "LogSpooler$LogFile" "end" "I", .fieldLink RX2 22 "LogSpooler$LogFile" "greatestSize" "I", .fieldLink RX2 25 "LogSpooler$LogFile" "age" "I", .fieldLink RX2 28 "LogSpooler$LogFile" "kept" "I", .fieldLink RX2 31 "LogSpooler$LogFile" "firstCame" "I", .fieldLink RX2 34 "LogSpooler$LogFile" "sumOfLengths" "I", .fieldLink RX2 37 "LogSpooler$LogFile" "olderOnes" "I", .fieldLink RX2 40 "LogSpooler$LogFile" "rotations" "I"] ++ wsX20)
def wsX2_limit : List Cond := .code yX2_limit cX2_limit 4 none :: ([.fieldLink RX2 22 "LogSpooler$LogFile" "greatestSize" "I", .fieldLink RX2 25 "LogSpooler$LogFile" "age" "I", .fieldLink RX2 28 "LogSpooler$LogFile" "kept" "I", .fieldLink RX2 37 "LogSpooler$LogFile" "olderOnes" "I"] ++ wsX20)
def wsX2_isEmpty : List Cond := .code yX2_isEmpty cX2_isEmpty 1 (some .boolean) :: ([.fieldLink RX2 18 "LogSpooler$LogFile" "end" "I", .fieldLink RX2 15 "LogSpooler$LogFile" "starts" "[I"] ++ wsX20)
def wsX2_isAged : List Cond := .code yX2_isAged cX2_isAged 2 (some .boolean) :: ([.fieldLink RX2 25 "LogSpooler$LogFile" "age" "I", .fieldLink RX2 31 "LogSpooler$LogFile" "firstCame" "I", .methodLink RX2 43 yX2_isEmpty, .instanceMethod yX2_isEmpty, .selects RX2 yX2_isEmpty yX2_isEmpty, .initialized RX2, .code yX2_isEmpty cX2_isEmpty 1 (some .boolean), .fieldLink RX2 18 "LogSpooler$LogFile" "end" "I", .fieldLink RX2 15 "LogSpooler$LogFile" "starts" "[I"] ++ wsX20)
def wsX2_turnOver : List Cond := .code yX2_turnOver cX2_turnOver 2 none :: ([.fieldLink RX2 15 "LogSpooler$LogFile" "starts" "[I", .fieldLink RX2 18 "LogSpooler$LogFile" "end" "I", .fieldLink RX2 34 "LogSpooler$LogFile" "sumOfLengths" "I", .fieldLink RX2 40 "LogSpooler$LogFile" "rotations" "I", .fieldLink RX2 37 "LogSpooler$LogFile" "olderOnes" "I", .fieldLink RX2 28 "LogSpooler$LogFile" "kept" "I"] ++ wsX20)
def wsX2_add : List Cond := .code yX2_add cX2_add 4 none :: ([.fieldLink RX2 34 "LogSpooler$LogFile" "sumOfLengths" "I", .fieldLink RX2 22 "LogSpooler$LogFile" "greatestSize" "I", .fieldLink RX2 31 "LogSpooler$LogFile" "firstCame" "I", .fieldLink RX2 18 "LogSpooler$LogFile" "end" "I", .fieldLink RX2 9 "LogSpooler$LogFile" "row" "[I", .methodLink RX2 43 yX2_isEmpty, .instanceMethod yX2_isEmpty, .selects RX2 yX2_isEmpty yX2_isEmpty, .initialized RX2, .code yX2_isEmpty cX2_isEmpty 1 (some .boolean), .fieldLink RX2 15 "LogSpooler$LogFile" "starts" "[I", .methodLink RX2 47 yX2_turnOver, .instanceMethod yX2_turnOver, .selects RX2 yX2_turnOver yX2_turnOver, .code yX2_turnOver cX2_turnOver 2 none, .fieldLink RX2 40 "LogSpooler$LogFile" "rotations" "I", .fieldLink RX2 37 "LogSpooler$LogFile" "olderOnes" "I", .fieldLink RX2 28 "LogSpooler$LogFile" "kept" "I"] ++ wsX20)
def wsX2_has : List Cond := .code yX2_has cX2_has 2 (some .boolean) :: ([.fieldLink RX2 37 "LogSpooler$LogFile" "olderOnes" "I"] ++ wsX20)
def wsX2_startOf : List Cond := .code yX2_startOf cX2_startOf 3 (some .int) :: ([.fieldLink RX2 15 "LogSpooler$LogFile" "starts" "[I", .fieldLink RX2 18 "LogSpooler$LogFile" "end" "I"] ++ wsX20)
def wsX2_linesOf : List Cond := .code yX2_linesOf cX2_linesOf 3 (some .int) :: ([.fieldLink RX2 18 "LogSpooler$LogFile" "end" "I", .methodLink RX2 50 yX2_startOf, .instanceMethod yX2_startOf, .selects RX2 yX2_startOf yX2_startOf, .initialized RX2, .code yX2_startOf cX2_startOf 3 (some .int), .fieldLink RX2 15 "LogSpooler$LogFile" "starts" "[I"] ++ wsX20)
def wsX2_lineAt : List Cond := .code yX2_lineAt cX2_lineAt 4 (some .int) :: ([.fieldLink RX2 9 "LogSpooler$LogFile" "row" "[I", .methodLink RX2 50 yX2_startOf, .instanceMethod yX2_startOf, .selects RX2 yX2_startOf yX2_startOf, .initialized RX2, .code yX2_startOf cX2_startOf 3 (some .int), .fieldLink RX2 15 "LogSpooler$LogFile" "starts" "[I", .fieldLink RX2 18 "LogSpooler$LogFile" "end" "I"] ++ wsX20)
def wsX3_init : List Cond := .code yX3_init cX3_init 1 none :: ([.methodLink RX3 3 objectInit, .instanceMethod objectInit, .code objectInit ⟨#[0xb1]⟩ 1 none, .fieldLink RX3 9 "LogSpooler$Rule" "isSet" "Z", .fieldLink RX3 15 "LogSpooler$Rule" "facilities" "I", .fieldLink RX3 19 "LogSpooler$Rule" "severity" "I", .fieldLink RX3 22 "LogSpooler$Rule" "sender" "I", .fieldLink RX3 25 "LogSpooler$Rule" "target" "I"] ++ wsX30)
def wsX3_put : List Cond := .code yX3_put cX3_put 5 none :: ([.fieldLink RX3 9 "LogSpooler$Rule" "isSet" "Z", .fieldLink RX3 15 "LogSpooler$Rule" "facilities" "I", .fieldLink RX3 19 "LogSpooler$Rule" "severity" "I", .fieldLink RX3 22 "LogSpooler$Rule" "sender" "I", .fieldLink RX3 25 "LogSpooler$Rule" "target" "I"] ++ wsX30)
def wsX3_fits : List Cond := .code yX3_fits cX3_fits 4 (some .boolean) :: ([.fieldLink RX3 9 "LogSpooler$Rule" "isSet" "Z", .fieldLink RX3 15 "LogSpooler$Rule" "facilities" "I", .fieldLink RX3 19 "LogSpooler$Rule" "severity" "I", .fieldLink RX3 22 "LogSpooler$Rule" "sender" "I"] ++ wsX30)
def wsX4_init : List Cond := .code yX4_init cX4_init 3 none :: ([.methodLink RX4 3 objectInit, .instanceMethod objectInit, .code objectInit ⟨#[0xb1]⟩ 1 none, .fieldLink RX4 9 "LogSpooler$Sender" "untoldRepeats" "I", .fieldLink RX4 15 "LogSpooler$Sender" "firstRepeat" "I", .fieldLink RX4 18 "LogSpooler$Sender" "untoldDrops" "I", .fieldLink RX4 21 "LogSpooler$Sender" "lastFacility" "I", .fieldLink RX4 24 "LogSpooler$Sender" "lastSeverity" "I", .fieldLink RX4 27 "LogSpooler$Sender" "lastText" "I", .fieldLink RX4 30 "LogSpooler$Sender" "lastLength" "I", .fieldLink RX4 33 "LogSpooler$Sender" "number" "I", .fieldLink RX4 36 "LogSpooler$Sender" "tokensLeft" "I"] ++ wsX40)
def wsX4_capTokens : List Cond := .code yX4_capTokens cX4_capTokens 2 none :: ([.fieldLink RX4 36 "LogSpooler$Sender" "tokensLeft" "I"] ++ wsX40)
def wsX4_gainToken : List Cond := .code yX4_gainToken cX4_gainToken 2 none :: ([.fieldLink RX4 36 "LogSpooler$Sender" "tokensLeft" "I"] ++ wsX40)
def wsX4_lastIs : List Cond := .code yX4_lastIs cX4_lastIs 5 (some .boolean) :: ([.fieldLink RX4 21 "LogSpooler$Sender" "lastFacility" "I", .fieldLink RX4 24 "LogSpooler$Sender" "lastSeverity" "I", .fieldLink RX4 27 "LogSpooler$Sender" "lastText" "I", .fieldLink RX4 30 "LogSpooler$Sender" "lastLength" "I"] ++ wsX40)
def wsX4_setLast : List Cond := .code yX4_setLast cX4_setLast 5 none :: ([.fieldLink RX4 21 "LogSpooler$Sender" "lastFacility" "I", .fieldLink RX4 24 "LogSpooler$Sender" "lastSeverity" "I", .fieldLink RX4 27 "LogSpooler$Sender" "lastText" "I", .fieldLink RX4 30 "LogSpooler$Sender" "lastLength" "I"] ++ wsX40)
def wsX4_countRepeat : List Cond := .code yX4_countRepeat cX4_countRepeat 2 none :: ([.fieldLink RX4 9 "LogSpooler$Sender" "untoldRepeats" "I", .fieldLink RX4 15 "LogSpooler$Sender" "firstRepeat" "I"] ++ wsX40)
def wsX5_init_r1 : List Cond := [Cond.methodLink RX5 3 objectInit, Cond.instanceMethod objectInit, Cond.code objectInit ⟨#[0xb1]⟩ 1 none, Cond.classLink RX5 9 RX4, Cond.fieldLink RX5 11 "LogSpooler" "senders" "[LLogSpooler$Sender;", Cond.classLink RX5 15 RX3, Cond.fieldLink RX5 17 "LogSpooler" "rules" "[LLogSpooler$Rule;", Cond.classLink RX5 21 RX2, Cond.fieldLink RX5 23 "LogSpooler" "files" "[LLogSpooler$LogFile;", Cond.classLink RX5 27 RX0, Cond.instantiable RX0 6, Cond.initialized RX0, Cond.fieldLink RX5 30 "LogSpooler" "forwarder" "LLogSpooler$Forwarder;", Cond.classLink RX5 34 RX1, Cond.instantiable RX1 3, Cond.initialized RX1, Cond.fieldLink RX5 37 "LogSpooler" "ledger" "LLogSpooler$Ledger;", Cond.fieldLink RX5 41 "LogSpooler" "now" "I", Cond.fieldLink RX5 45 "LogSpooler" "burst" "I", Cond.fieldLink RX5 48 "LogSpooler" "tokenTime" "I", Cond.fieldLink RX5 51 "LogSpooler" "foldTime" "I", Cond.instantiable RX4 9, Cond.initialized RX4, Cond.instantiable RX3 5]
def wsX5_init_r2 : List Cond := [Cond.initialized RX3, Cond.instantiable RX2 10, Cond.initialized RX2, Cond.instanceMethod yX0_init, Cond.code yX0_init cX0_init 1 none, Cond.methodLink RX0 3 objectInit, Cond.arrayClass .int, Cond.fieldLink RX0 9 "LogSpooler$Forwarder" "row" "[I", Cond.fieldLink RX0 15 "LogSpooler$Forwarder" "end" "I", Cond.fieldLink RX0 19 "LogSpooler$Forwarder" "firstQueued" "I", Cond.fieldLink RX0 22 "LogSpooler$Forwarder" "acknowledgedOnes" "I", Cond.fieldLink RX0 25 "LogSpooler$Forwarder" "lostOnes" "I", Cond.fieldLink RX0 28 "LogSpooler$Forwarder" "isConnected" "Z", Cond.instanceMethod yX1_init, Cond.code yX1_init cX1_init 1 none, Cond.methodLink RX1 3 objectInit, Cond.fieldLink RX1 9 "LogSpooler$Ledger" "fates" "[I", Cond.fieldLink RX1 15 "LogSpooler$Ledger" "targetSets" "[I", Cond.fieldLink RX1 18 "LogSpooler$Ledger" "entries" "I", Cond.methodLink RX5 54 yX4_init, Cond.instanceMethod yX4_init, Cond.code yX4_init cX4_init 3 none, Cond.methodLink RX4 3 objectInit, Cond.fieldLink RX4 9 "LogSpooler$Sender" "untoldRepeats" "I"]
def wsX5_init_r3 : List Cond := [Cond.fieldLink RX4 15 "LogSpooler$Sender" "firstRepeat" "I", Cond.fieldLink RX4 18 "LogSpooler$Sender" "untoldDrops" "I", Cond.fieldLink RX4 21 "LogSpooler$Sender" "lastFacility" "I", Cond.fieldLink RX4 24 "LogSpooler$Sender" "lastSeverity" "I", Cond.fieldLink RX4 27 "LogSpooler$Sender" "lastText" "I", Cond.fieldLink RX4 30 "LogSpooler$Sender" "lastLength" "I", Cond.fieldLink RX4 33 "LogSpooler$Sender" "number" "I", Cond.fieldLink RX4 36 "LogSpooler$Sender" "tokensLeft" "I", Cond.instanceMethod yX3_init, Cond.code yX3_init cX3_init 1 none, Cond.methodLink RX3 3 objectInit, Cond.fieldLink RX3 9 "LogSpooler$Rule" "isSet" "Z", Cond.fieldLink RX3 15 "LogSpooler$Rule" "facilities" "I", Cond.fieldLink RX3 19 "LogSpooler$Rule" "severity" "I", Cond.fieldLink RX3 22 "LogSpooler$Rule" "sender" "I", Cond.fieldLink RX3 25 "LogSpooler$Rule" "target" "I", Cond.instanceMethod yX2_init, Cond.code yX2_init cX2_init 1 none, Cond.methodLink RX2 3 objectInit, Cond.fieldLink RX2 9 "LogSpooler$LogFile" "row" "[I", Cond.fieldLink RX2 15 "LogSpooler$LogFile" "starts" "[I", Cond.fieldLink RX2 18 "LogSpooler$LogFile" "end" "I", Cond.fieldLink RX2 22 "LogSpooler$LogFile" "greatestSize" "I", Cond.fieldLink RX2 25 "LogSpooler$LogFile" "age" "I"]
def wsX5_init_r4 : List Cond := [Cond.fieldLink RX2 28 "LogSpooler$LogFile" "kept" "I", Cond.fieldLink RX2 31 "LogSpooler$LogFile" "firstCame" "I", Cond.fieldLink RX2 34 "LogSpooler$LogFile" "sumOfLengths" "I", Cond.fieldLink RX2 37 "LogSpooler$LogFile" "olderOnes" "I", Cond.fieldLink RX2 40 "LogSpooler$LogFile" "rotations" "I"]
def wsX5_init : List Cond := .code yX5_init cX5_init 2 none :: ((wsX5_init_r1 ++ (wsX5_init_r2 ++ (wsX5_init_r3 ++ wsX5_init_r4))) ++ wsX50 ++ wsX00 ++ wsX10 ++ wsX40 ++ wsX30 ++ wsX20)
def wsX5_isWithin : List Cond := .code yX5_isWithin cX5_isWithin 3 (some .boolean) :: ([])
def wsX5_setRate : List Cond := .code yX5_setRate cX5_setRate 5 (some .int) :: ([.classLink RX5 63 "java/lang/IllegalArgumentException", .initialized "java/lang/IllegalArgumentException", .fieldLink RX5 45 "LogSpooler" "burst" "I", .fieldLink RX5 48 "LogSpooler" "tokenTime" "I", .fieldLink RX5 11 "LogSpooler" "senders" "[LLogSpooler$Sender;", .methodLink RX5 59 yX5_isWithin, .static yX5_isWithin, .initialized RX5, .code yX5_isWithin cX5_isWithin 3 (some .boolean), .methodLink RX5 70 yX4_capTokens, .instanceMethod yX4_capTokens, .selects RX4 yX4_capTokens yX4_capTokens, .initialized RX4, .code yX4_capTokens cX4_capTokens 2 none, .fieldLink RX4 36 "LogSpooler$Sender" "tokensLeft" "I"] ++ wsX50 ++ wsX40 ++ (vx_atS RX5 67 "java/lang/IllegalArgumentException" ["java/lang/RuntimeException", "java/lang/Exception"]).filter goodWord)
def wsX5_setFold : List Cond := .code yX5_setFold cX5_setFold 3 (some .int) :: ([.classLink RX5 63 "java/lang/IllegalArgumentException", .initialized "java/lang/IllegalArgumentException", .fieldLink RX5 51 "LogSpooler" "foldTime" "I", .methodLink RX5 59 yX5_isWithin, .static yX5_isWithin, .initialized RX5, .code yX5_isWithin cX5_isWithin 3 (some .boolean)] ++ wsX50 ++ (vx_atS RX5 67 "java/lang/IllegalArgumentException" ["java/lang/RuntimeException", "java/lang/Exception"]).filter goodWord)
def wsX5_ruleAt : List Cond := .code yX5_ruleAt cX5_ruleAt 2 (some (.object "LogSpooler$Rule")) :: ([.classLink RX5 80 "java/lang/IndexOutOfBoundsException", .initialized "java/lang/IndexOutOfBoundsException", .fieldLink RX5 17 "LogSpooler" "rules" "[LLogSpooler$Rule;"] ++ wsX50 ++ (vx_atS RX5 84 "java/lang/IndexOutOfBoundsException" ["java/lang/RuntimeException", "java/lang/Exception"]).filter goodWord)
def wsX5_rulesThatAreSet : List Cond := .code yX5_rulesThatAreSet cX5_rulesThatAreSet 3 (some .int) :: ([.fieldLink RX5 17 "LogSpooler" "rules" "[LLogSpooler$Rule;", .fieldLink RX5 95 "LogSpooler$Rule" "isSet" "Z"] ++ wsX50 ++ wsX30)
def wsX5_setRule_r1 : List Cond := [Cond.classLink RX5 80 "java/lang/IndexOutOfBoundsException", Cond.initialized "java/lang/IndexOutOfBoundsException", Cond.classLink RX5 63 "java/lang/IllegalArgumentException", Cond.initialized "java/lang/IllegalArgumentException", Cond.methodLink RX5 76 yX5_ruleAt, Cond.instanceMethod yX5_ruleAt, Cond.selects RX5 yX5_ruleAt yX5_ruleAt, Cond.initialized RX5, Cond.code yX5_ruleAt cX5_ruleAt 2 (some (.object "LogSpooler$Rule")), Cond.fieldLink RX5 17 "LogSpooler" "rules" "[LLogSpooler$Rule;", Cond.methodLink RX5 59 yX5_isWithin, Cond.static yX5_isWithin, Cond.code yX5_isWithin cX5_isWithin 3 (some .boolean), Cond.methodLink RX5 87 yX3_put, Cond.instanceMethod yX3_put, Cond.selects RX3 yX3_put yX3_put, Cond.initialized RX3, Cond.code yX3_put cX3_put 5 none, Cond.fieldLink RX3 9 "LogSpooler$Rule" "isSet" "Z", Cond.fieldLink RX3 15 "LogSpooler$Rule" "facilities" "I", Cond.fieldLink RX3 19 "LogSpooler$Rule" "severity" "I", Cond.fieldLink RX3 22 "LogSpooler$Rule" "sender" "I", Cond.fieldLink RX3 25 "LogSpooler$Rule" "target" "I", Cond.methodLink RX5 91 yX5_rulesThatAreSet]
def wsX5_setRule_r2 : List Cond := [Cond.instanceMethod yX5_rulesThatAreSet, Cond.selects RX5 yX5_rulesThatAreSet yX5_rulesThatAreSet, Cond.code yX5_rulesThatAreSet cX5_rulesThatAreSet 3 (some .int), Cond.fieldLink RX5 95 "LogSpooler$Rule" "isSet" "Z"]
def wsX5_setRule : List Cond := .code yX5_setRule cX5_setRule 7 (some .int) :: ((wsX5_setRule_r1 ++ wsX5_setRule_r2) ++ wsX50 ++ wsX30 ++ (vx_atS RX5 84 "java/lang/IndexOutOfBoundsException" ["java/lang/RuntimeException", "java/lang/Exception"]).filter goodWord ++ (vx_atS RX5 67 "java/lang/IllegalArgumentException" ["java/lang/RuntimeException", "java/lang/Exception"]).filter goodWord)
def wsX5_removeRule : List Cond := .code yX5_removeRule cX5_removeRule 4 (some .boolean) :: ([.fieldLink RX5 95 "LogSpooler$Rule" "isSet" "Z", .methodLink RX5 76 yX5_ruleAt, .instanceMethod yX5_ruleAt, .selects RX5 yX5_ruleAt yX5_ruleAt, .initialized RX5, .code yX5_ruleAt cX5_ruleAt 2 (some (.object "LogSpooler$Rule")), .classLink RX5 80 "java/lang/IndexOutOfBoundsException", .initialized "java/lang/IndexOutOfBoundsException", .fieldLink RX5 17 "LogSpooler" "rules" "[LLogSpooler$Rule;"] ++ wsX30 ++ wsX50 ++ (vx_atS RX5 84 "java/lang/IndexOutOfBoundsException" ["java/lang/RuntimeException", "java/lang/Exception"]).filter goodWord)
def wsX5_fileAt : List Cond := .code yX5_fileAt cX5_fileAt 2 (some (.object "LogSpooler$LogFile")) :: ([.classLink RX5 80 "java/lang/IndexOutOfBoundsException", .initialized "java/lang/IndexOutOfBoundsException", .fieldLink RX5 23 "LogSpooler" "files" "[LLogSpooler$LogFile;"] ++ wsX50 ++ (vx_atS RX5 84 "java/lang/IndexOutOfBoundsException" ["java/lang/RuntimeException", "java/lang/Exception"]).filter goodWord)
def wsX5_setFile : List Cond := .code yX5_setFile cX5_setFile 6 (some .int) :: ([.classLink RX5 63 "java/lang/IllegalArgumentException", .initialized "java/lang/IllegalArgumentException", .fieldLink RX5 109 "LogSpooler$LogFile" "sumOfLengths" "I", .methodLink RX5 99 yX5_fileAt, .instanceMethod yX5_fileAt, .selects RX5 yX5_fileAt yX5_fileAt, .initialized RX5, .code yX5_fileAt cX5_fileAt 2 (some (.object "LogSpooler$LogFile")), .classLink RX5 80 "java/lang/IndexOutOfBoundsException", .initialized "java/lang/IndexOutOfBoundsException", .fieldLink RX5 23 "LogSpooler" "files" "[LLogSpooler$LogFile;", .methodLink RX5 59 yX5_isWithin, .static yX5_isWithin, .code yX5_isWithin cX5_isWithin 3 (some .boolean), .methodLink RX5 105 yX2_limit, .instanceMethod yX2_limit, .selects RX2 yX2_limit yX2_limit, .initialized RX2, .code yX2_limit cX2_limit 4 none, .fieldLink RX2 22 "LogSpooler$LogFile" "greatestSize" "I", .fieldLink RX2 25 "LogSpooler$LogFile" "age" "I", .fieldLink RX2 28 "LogSpooler$LogFile" "kept" "I", .fieldLink RX2 37 "LogSpooler$LogFile" "olderOnes" "I"] ++ wsX20 ++ wsX50 ++ (vx_atS RX5 67 "java/lang/IllegalArgumentException" ["java/lang/RuntimeException", "java/lang/Exception"]).filter goodWord ++ (vx_atS RX5 84 "java/lang/IndexOutOfBoundsException" ["java/lang/RuntimeException", "java/lang/Exception"]).filter goodWord)
def wsX5_senderAt : List Cond := .code yX5_senderAt cX5_senderAt 2 (some (.object "LogSpooler$Sender")) :: ([.classLink RX5 80 "java/lang/IndexOutOfBoundsException", .initialized "java/lang/IndexOutOfBoundsException", .fieldLink RX5 11 "LogSpooler" "senders" "[LLogSpooler$Sender;"] ++ wsX50 ++ (vx_atS RX5 84 "java/lang/IndexOutOfBoundsException" ["java/lang/RuntimeException", "java/lang/Exception"]).filter goodWord)
def wsX5_route_r1 : List Cond := [Cond.fieldLink RX5 17 "LogSpooler" "rules" "[LLogSpooler$Rule;", Cond.fieldLink RX5 261 "LogSpooler$Rule" "target" "I", Cond.fieldLink RX5 23 "LogSpooler" "files" "[LLogSpooler$LogFile;", Cond.fieldLink RX5 41 "LogSpooler" "now" "I", Cond.fieldLink RX5 30 "LogSpooler" "forwarder" "LLogSpooler$Forwarder;", Cond.methodLink RX5 264 yX3_fits, Cond.instanceMethod yX3_fits, Cond.selects RX3 yX3_fits yX3_fits, Cond.initialized RX3, Cond.code yX3_fits cX3_fits 4 (some .boolean), Cond.fieldLink RX3 9 "LogSpooler$Rule" "isSet" "Z", Cond.fieldLink RX3 15 "LogSpooler$Rule" "facilities" "I", Cond.fieldLink RX3 19 "LogSpooler$Rule" "severity" "I", Cond.fieldLink RX3 22 "LogSpooler$Rule" "sender" "I", Cond.methodLink RX5 267 yX2_add, Cond.instanceMethod yX2_add, Cond.selects RX2 yX2_add yX2_add, Cond.initialized RX2, Cond.code yX2_add cX2_add 4 none, Cond.fieldLink RX2 34 "LogSpooler$LogFile" "sumOfLengths" "I", Cond.fieldLink RX2 22 "LogSpooler$LogFile" "greatestSize" "I", Cond.fieldLink RX2 31 "LogSpooler$LogFile" "firstCame" "I", Cond.fieldLink RX2 18 "LogSpooler$LogFile" "end" "I", Cond.fieldLink RX2 9 "LogSpooler$LogFile" "row" "[I"]
def wsX5_route_r2 : List Cond := [Cond.methodLink RX2 43 yX2_isEmpty, Cond.instanceMethod yX2_isEmpty, Cond.selects RX2 yX2_isEmpty yX2_isEmpty, Cond.code yX2_isEmpty cX2_isEmpty 1 (some .boolean), Cond.fieldLink RX2 15 "LogSpooler$LogFile" "starts" "[I", Cond.methodLink RX2 47 yX2_turnOver, Cond.instanceMethod yX2_turnOver, Cond.selects RX2 yX2_turnOver yX2_turnOver, Cond.code yX2_turnOver cX2_turnOver 2 none, Cond.fieldLink RX2 40 "LogSpooler$LogFile" "rotations" "I", Cond.fieldLink RX2 37 "LogSpooler$LogFile" "olderOnes" "I", Cond.fieldLink RX2 28 "LogSpooler$LogFile" "kept" "I", Cond.methodLink RX5 270 yX0_take, Cond.instanceMethod yX0_take, Cond.selects RX0 yX0_take yX0_take, Cond.initialized RX0, Cond.code yX0_take cX0_take 2 none, Cond.fieldLink RX0 15 "LogSpooler$Forwarder" "end" "I", Cond.fieldLink RX0 22 "LogSpooler$Forwarder" "acknowledgedOnes" "I", Cond.fieldLink RX0 9 "LogSpooler$Forwarder" "row" "[I", Cond.fieldLink RX0 25 "LogSpooler$Forwarder" "lostOnes" "I"]
def wsX5_route : List Cond := .code yX5_route cX5_route 10 (some .int) :: ((wsX5_route_r1 ++ wsX5_route_r2) ++ wsX50 ++ wsX30 ++ wsX20 ++ wsX00)
def wsX5_tellRepeats_r1 : List Cond := [Cond.fieldLink RX5 207 "LogSpooler$Sender" "untoldRepeats" "I", Cond.fieldLink RX5 251 "LogSpooler$Sender" "number" "I", Cond.fieldLink RX5 254 "LogSpooler$Sender" "lastFacility" "I", Cond.fieldLink RX5 257 "LogSpooler$Sender" "lastSeverity" "I", Cond.methodLink RX5 157 yX5_route, Cond.instanceMethod yX5_route, Cond.selects RX5 yX5_route yX5_route, Cond.initialized RX5, Cond.code yX5_route cX5_route 10 (some .int), Cond.fieldLink RX5 17 "LogSpooler" "rules" "[LLogSpooler$Rule;", Cond.fieldLink RX5 261 "LogSpooler$Rule" "target" "I", Cond.fieldLink RX5 23 "LogSpooler" "files" "[LLogSpooler$LogFile;", Cond.fieldLink RX5 41 "LogSpooler" "now" "I", Cond.fieldLink RX5 30 "LogSpooler" "forwarder" "LLogSpooler$Forwarder;", Cond.methodLink RX5 264 yX3_fits, Cond.instanceMethod yX3_fits, Cond.selects RX3 yX3_fits yX3_fits, Cond.initialized RX3, Cond.code yX3_fits cX3_fits 4 (some .boolean), Cond.fieldLink RX3 9 "LogSpooler$Rule" "isSet" "Z", Cond.fieldLink RX3 15 "LogSpooler$Rule" "facilities" "I", Cond.fieldLink RX3 19 "LogSpooler$Rule" "severity" "I", Cond.fieldLink RX3 22 "LogSpooler$Rule" "sender" "I", Cond.methodLink RX5 267 yX2_add]
def wsX5_tellRepeats_r2 : List Cond := [Cond.instanceMethod yX2_add, Cond.selects RX2 yX2_add yX2_add, Cond.initialized RX2, Cond.code yX2_add cX2_add 4 none, Cond.fieldLink RX2 34 "LogSpooler$LogFile" "sumOfLengths" "I", Cond.fieldLink RX2 22 "LogSpooler$LogFile" "greatestSize" "I", Cond.fieldLink RX2 31 "LogSpooler$LogFile" "firstCame" "I", Cond.fieldLink RX2 18 "LogSpooler$LogFile" "end" "I", Cond.fieldLink RX2 9 "LogSpooler$LogFile" "row" "[I", Cond.methodLink RX2 43 yX2_isEmpty, Cond.instanceMethod yX2_isEmpty, Cond.selects RX2 yX2_isEmpty yX2_isEmpty, Cond.code yX2_isEmpty cX2_isEmpty 1 (some .boolean), Cond.fieldLink RX2 15 "LogSpooler$LogFile" "starts" "[I", Cond.methodLink RX2 47 yX2_turnOver, Cond.instanceMethod yX2_turnOver, Cond.selects RX2 yX2_turnOver yX2_turnOver, Cond.code yX2_turnOver cX2_turnOver 2 none, Cond.fieldLink RX2 40 "LogSpooler$LogFile" "rotations" "I", Cond.fieldLink RX2 37 "LogSpooler$LogFile" "olderOnes" "I", Cond.fieldLink RX2 28 "LogSpooler$LogFile" "kept" "I", Cond.methodLink RX5 270 yX0_take, Cond.instanceMethod yX0_take, Cond.selects RX0 yX0_take yX0_take]
def wsX5_tellRepeats_r3 : List Cond := [Cond.initialized RX0, Cond.code yX0_take cX0_take 2 none, Cond.fieldLink RX0 15 "LogSpooler$Forwarder" "end" "I", Cond.fieldLink RX0 22 "LogSpooler$Forwarder" "acknowledgedOnes" "I", Cond.fieldLink RX0 9 "LogSpooler$Forwarder" "row" "[I", Cond.fieldLink RX0 25 "LogSpooler$Forwarder" "lostOnes" "I"]
def wsX5_tellRepeats : List Cond := .code yX5_tellRepeats cX5_tellRepeats 3 none :: ((wsX5_tellRepeats_r1 ++ (wsX5_tellRepeats_r2 ++ wsX5_tellRepeats_r3)) ++ wsX40 ++ wsX50 ++ wsX30 ++ wsX20 ++ wsX00)
def wsX5_tellDrops_r1 : List Cond := [Cond.fieldLink RX5 145 "LogSpooler$Sender" "untoldDrops" "I", Cond.constant RX5 260 (100000), Cond.fieldLink RX5 251 "LogSpooler$Sender" "number" "I", Cond.methodLink RX5 157 yX5_route, Cond.instanceMethod yX5_route, Cond.selects RX5 yX5_route yX5_route, Cond.initialized RX5, Cond.code yX5_route cX5_route 10 (some .int), Cond.fieldLink RX5 17 "LogSpooler" "rules" "[LLogSpooler$Rule;", Cond.fieldLink RX5 261 "LogSpooler$Rule" "target" "I", Cond.fieldLink RX5 23 "LogSpooler" "files" "[LLogSpooler$LogFile;", Cond.fieldLink RX5 41 "LogSpooler" "now" "I", Cond.fieldLink RX5 30 "LogSpooler" "forwarder" "LLogSpooler$Forwarder;", Cond.methodLink RX5 264 yX3_fits, Cond.instanceMethod yX3_fits, Cond.selects RX3 yX3_fits yX3_fits, Cond.initialized RX3, Cond.code yX3_fits cX3_fits 4 (some .boolean), Cond.fieldLink RX3 9 "LogSpooler$Rule" "isSet" "Z", Cond.fieldLink RX3 15 "LogSpooler$Rule" "facilities" "I", Cond.fieldLink RX3 19 "LogSpooler$Rule" "severity" "I", Cond.fieldLink RX3 22 "LogSpooler$Rule" "sender" "I", Cond.methodLink RX5 267 yX2_add, Cond.instanceMethod yX2_add]
def wsX5_tellDrops_r2 : List Cond := [Cond.selects RX2 yX2_add yX2_add, Cond.initialized RX2, Cond.code yX2_add cX2_add 4 none, Cond.fieldLink RX2 34 "LogSpooler$LogFile" "sumOfLengths" "I", Cond.fieldLink RX2 22 "LogSpooler$LogFile" "greatestSize" "I", Cond.fieldLink RX2 31 "LogSpooler$LogFile" "firstCame" "I", Cond.fieldLink RX2 18 "LogSpooler$LogFile" "end" "I", Cond.fieldLink RX2 9 "LogSpooler$LogFile" "row" "[I", Cond.methodLink RX2 43 yX2_isEmpty, Cond.instanceMethod yX2_isEmpty, Cond.selects RX2 yX2_isEmpty yX2_isEmpty, Cond.code yX2_isEmpty cX2_isEmpty 1 (some .boolean), Cond.fieldLink RX2 15 "LogSpooler$LogFile" "starts" "[I", Cond.methodLink RX2 47 yX2_turnOver, Cond.instanceMethod yX2_turnOver, Cond.selects RX2 yX2_turnOver yX2_turnOver, Cond.code yX2_turnOver cX2_turnOver 2 none, Cond.fieldLink RX2 40 "LogSpooler$LogFile" "rotations" "I", Cond.fieldLink RX2 37 "LogSpooler$LogFile" "olderOnes" "I", Cond.fieldLink RX2 28 "LogSpooler$LogFile" "kept" "I", Cond.methodLink RX5 270 yX0_take, Cond.instanceMethod yX0_take, Cond.selects RX0 yX0_take yX0_take, Cond.initialized RX0]
def wsX5_tellDrops_r3 : List Cond := [Cond.code yX0_take cX0_take 2 none, Cond.fieldLink RX0 15 "LogSpooler$Forwarder" "end" "I", Cond.fieldLink RX0 22 "LogSpooler$Forwarder" "acknowledgedOnes" "I", Cond.fieldLink RX0 9 "LogSpooler$Forwarder" "row" "[I", Cond.fieldLink RX0 25 "LogSpooler$Forwarder" "lostOnes" "I"]
def wsX5_tellDrops : List Cond := .code yX5_tellDrops cX5_tellDrops 3 none :: ((wsX5_tellDrops_r1 ++ (wsX5_tellDrops_r2 ++ wsX5_tellDrops_r3)) ++ wsX40 ++ wsX50 ++ wsX30 ++ wsX20 ++ wsX00)
def wsX5_message_r1 : List Cond := [Cond.classLink RX5 63 "java/lang/IllegalArgumentException", Cond.initialized "java/lang/IllegalArgumentException", Cond.classLink RX5 122 "java/lang/IllegalStateException", Cond.initialized "java/lang/IllegalStateException", Cond.fieldLink RX5 37 "LogSpooler" "ledger" "LLogSpooler$Ledger;", Cond.fieldLink RX5 51 "LogSpooler" "foldTime" "I", Cond.fieldLink RX5 41 "LogSpooler" "now" "I", Cond.fieldLink RX5 142 "LogSpooler$Sender" "tokensLeft" "I", Cond.fieldLink RX5 145 "LogSpooler$Sender" "untoldDrops" "I", Cond.fieldLink RX5 154 "LogSpooler$Ledger" "entries" "I", Cond.methodLink RX5 112 yX5_senderAt, Cond.instanceMethod yX5_senderAt, Cond.selects RX5 yX5_senderAt yX5_senderAt, Cond.initialized RX5, Cond.code yX5_senderAt cX5_senderAt 2 (some (.object "LogSpooler$Sender")), Cond.classLink RX5 80 "java/lang/IndexOutOfBoundsException", Cond.initialized "java/lang/IndexOutOfBoundsException", Cond.fieldLink RX5 11 "LogSpooler" "senders" "[LLogSpooler$Sender;", Cond.methodLink RX5 59 yX5_isWithin, Cond.static yX5_isWithin, Cond.code yX5_isWithin cX5_isWithin 3 (some .boolean), Cond.methodLink RX5 118 yX1_isFull, Cond.instanceMethod yX1_isFull, Cond.selects RX1 yX1_isFull yX1_isFull]
def wsX5_message_r2 : List Cond := [Cond.initialized RX1, Cond.code yX1_isFull cX1_isFull 1 (some .boolean), Cond.fieldLink RX1 18 "LogSpooler$Ledger" "entries" "I", Cond.methodLink RX5 127 yX4_lastIs, Cond.instanceMethod yX4_lastIs, Cond.selects RX4 yX4_lastIs yX4_lastIs, Cond.initialized RX4, Cond.code yX4_lastIs cX4_lastIs 5 (some .boolean), Cond.fieldLink RX4 21 "LogSpooler$Sender" "lastFacility" "I", Cond.fieldLink RX4 24 "LogSpooler$Sender" "lastSeverity" "I", Cond.fieldLink RX4 27 "LogSpooler$Sender" "lastText" "I", Cond.fieldLink RX4 30 "LogSpooler$Sender" "lastLength" "I", Cond.methodLink RX5 131 yX4_countRepeat, Cond.instanceMethod yX4_countRepeat, Cond.selects RX4 yX4_countRepeat yX4_countRepeat, Cond.code yX4_countRepeat cX4_countRepeat 2 none, Cond.fieldLink RX4 9 "LogSpooler$Sender" "untoldRepeats" "I", Cond.fieldLink RX4 15 "LogSpooler$Sender" "firstRepeat" "I", Cond.methodLink RX5 134 yX1_enter, Cond.instanceMethod yX1_enter, Cond.selects RX1 yX1_enter yX1_enter, Cond.code yX1_enter cX1_enter 3 (some .int), Cond.fieldLink RX1 9 "LogSpooler$Ledger" "fates" "[I", Cond.fieldLink RX1 15 "LogSpooler$Ledger" "targetSets" "[I"]
def wsX5_message_r3 : List Cond := [Cond.methodLink RX5 138 yX5_tellRepeats, Cond.instanceMethod yX5_tellRepeats, Cond.selects RX5 yX5_tellRepeats yX5_tellRepeats, Cond.code yX5_tellRepeats cX5_tellRepeats 3 none, Cond.fieldLink RX5 207 "LogSpooler$Sender" "untoldRepeats" "I", Cond.fieldLink RX5 251 "LogSpooler$Sender" "number" "I", Cond.fieldLink RX5 254 "LogSpooler$Sender" "lastFacility" "I", Cond.fieldLink RX5 257 "LogSpooler$Sender" "lastSeverity" "I", Cond.methodLink RX5 157 yX5_route, Cond.instanceMethod yX5_route, Cond.selects RX5 yX5_route yX5_route, Cond.code yX5_route cX5_route 10 (some .int), Cond.fieldLink RX5 17 "LogSpooler" "rules" "[LLogSpooler$Rule;", Cond.fieldLink RX5 261 "LogSpooler$Rule" "target" "I", Cond.fieldLink RX5 23 "LogSpooler" "files" "[LLogSpooler$LogFile;", Cond.fieldLink RX5 30 "LogSpooler" "forwarder" "LLogSpooler$Forwarder;", Cond.methodLink RX5 264 yX3_fits, Cond.instanceMethod yX3_fits, Cond.selects RX3 yX3_fits yX3_fits, Cond.initialized RX3, Cond.code yX3_fits cX3_fits 4 (some .boolean), Cond.fieldLink RX3 9 "LogSpooler$Rule" "isSet" "Z", Cond.fieldLink RX3 15 "LogSpooler$Rule" "facilities" "I", Cond.fieldLink RX3 19 "LogSpooler$Rule" "severity" "I"]
def wsX5_message_r4 : List Cond := [Cond.fieldLink RX3 22 "LogSpooler$Rule" "sender" "I", Cond.methodLink RX5 267 yX2_add, Cond.instanceMethod yX2_add, Cond.selects RX2 yX2_add yX2_add, Cond.initialized RX2, Cond.code yX2_add cX2_add 4 none, Cond.fieldLink RX2 34 "LogSpooler$LogFile" "sumOfLengths" "I", Cond.fieldLink RX2 22 "LogSpooler$LogFile" "greatestSize" "I", Cond.fieldLink RX2 31 "LogSpooler$LogFile" "firstCame" "I", Cond.fieldLink RX2 18 "LogSpooler$LogFile" "end" "I", Cond.fieldLink RX2 9 "LogSpooler$LogFile" "row" "[I", Cond.methodLink RX2 43 yX2_isEmpty, Cond.instanceMethod yX2_isEmpty, Cond.selects RX2 yX2_isEmpty yX2_isEmpty, Cond.code yX2_isEmpty cX2_isEmpty 1 (some .boolean), Cond.fieldLink RX2 15 "LogSpooler$LogFile" "starts" "[I", Cond.methodLink RX2 47 yX2_turnOver, Cond.instanceMethod yX2_turnOver, Cond.selects RX2 yX2_turnOver yX2_turnOver, Cond.code yX2_turnOver cX2_turnOver 2 none, Cond.fieldLink RX2 40 "LogSpooler$LogFile" "rotations" "I", Cond.fieldLink RX2 37 "LogSpooler$LogFile" "olderOnes" "I", Cond.fieldLink RX2 28 "LogSpooler$LogFile" "kept" "I", Cond.methodLink RX5 270 yX0_take]
def wsX5_message_r5 : List Cond := [Cond.instanceMethod yX0_take, Cond.selects RX0 yX0_take yX0_take, Cond.initialized RX0, Cond.code yX0_take cX0_take 2 none, Cond.fieldLink RX0 15 "LogSpooler$Forwarder" "end" "I", Cond.fieldLink RX0 22 "LogSpooler$Forwarder" "acknowledgedOnes" "I", Cond.fieldLink RX0 9 "LogSpooler$Forwarder" "row" "[I", Cond.fieldLink RX0 25 "LogSpooler$Forwarder" "lostOnes" "I", Cond.methodLink RX5 148 yX5_tellDrops, Cond.instanceMethod yX5_tellDrops, Cond.selects RX5 yX5_tellDrops yX5_tellDrops, Cond.code yX5_tellDrops cX5_tellDrops 3 none, Cond.constant RX5 260 (100000), Cond.methodLink RX5 151 yX4_setLast, Cond.instanceMethod yX4_setLast, Cond.selects RX4 yX4_setLast yX4_setLast, Cond.code yX4_setLast cX4_setLast 5 none]
def wsX5_message : List Cond := .code yX5_message cX5_message 8 (some .int) :: ((wsX5_message_r1 ++ (wsX5_message_r2 ++ (wsX5_message_r3 ++ (wsX5_message_r4 ++ wsX5_message_r5)))) ++ wsX50 ++ wsX40 ++ wsX10 ++ wsX30 ++ wsX20 ++ wsX00 ++ (vx_atS RX5 67 "java/lang/IllegalArgumentException" ["java/lang/RuntimeException", "java/lang/Exception"]).filter goodWord ++ (vx_atS RX5 126 "java/lang/IllegalStateException" ["java/lang/RuntimeException", "java/lang/Exception"]).filter goodWord ++ (vx_atS RX5 84 "java/lang/IndexOutOfBoundsException" ["java/lang/RuntimeException", "java/lang/Exception"]).filter goodWord)
def wsX5_rotationsOfAllFiles : List Cond := .code yX5_rotationsOfAllFiles cX5_rotationsOfAllFiles 3 (some .int) :: ([.fieldLink RX5 23 "LogSpooler" "files" "[LLogSpooler$LogFile;", .fieldLink RX5 295 "LogSpooler$LogFile" "rotations" "I"] ++ wsX50 ++ wsX20)
def wsX5_giveTokens : List Cond := .code yX5_giveTokens cX5_giveTokens 2 none :: ([.fieldLink RX5 11 "LogSpooler" "senders" "[LLogSpooler$Sender;", .fieldLink RX5 45 "LogSpooler" "burst" "I", .methodLink RX5 282 yX4_gainToken, .instanceMethod yX4_gainToken, .selects RX4 yX4_gainToken yX4_gainToken, .initialized RX4, .code yX4_gainToken cX4_gainToken 2 none, .fieldLink RX4 36 "LogSpooler$Sender" "tokensLeft" "I"] ++ wsX50 ++ wsX40)
def wsX5_firstWithDueRepeats : List Cond := .code yX5_firstWithDueRepeats cX5_firstWithDueRepeats 5 (some (.object "LogSpooler$Sender")) :: ([.fieldLink RX5 11 "LogSpooler" "senders" "[LLogSpooler$Sender;", .fieldLink RX5 207 "LogSpooler$Sender" "untoldRepeats" "I", .fieldLink RX5 41 "LogSpooler" "now" "I", .fieldLink RX5 289 "LogSpooler$Sender" "firstRepeat" "I", .fieldLink RX5 51 "LogSpooler" "foldTime" "I"] ++ wsX50 ++ wsX40)
def wsX5_tellDueRepeats_r1 : List Cond := [Cond.methodLink RX5 285 yX5_firstWithDueRepeats, Cond.instanceMethod yX5_firstWithDueRepeats, Cond.selects RX5 yX5_firstWithDueRepeats yX5_firstWithDueRepeats, Cond.initialized RX5, Cond.code yX5_firstWithDueRepeats cX5_firstWithDueRepeats 5 (some (.object "LogSpooler$Sender")), Cond.fieldLink RX5 11 "LogSpooler" "senders" "[LLogSpooler$Sender;", Cond.fieldLink RX5 207 "LogSpooler$Sender" "untoldRepeats" "I", Cond.fieldLink RX5 41 "LogSpooler" "now" "I", Cond.fieldLink RX5 289 "LogSpooler$Sender" "firstRepeat" "I", Cond.fieldLink RX5 51 "LogSpooler" "foldTime" "I", Cond.methodLink RX5 138 yX5_tellRepeats, Cond.instanceMethod yX5_tellRepeats, Cond.selects RX5 yX5_tellRepeats yX5_tellRepeats, Cond.code yX5_tellRepeats cX5_tellRepeats 3 none, Cond.fieldLink RX5 251 "LogSpooler$Sender" "number" "I", Cond.fieldLink RX5 254 "LogSpooler$Sender" "lastFacility" "I", Cond.fieldLink RX5 257 "LogSpooler$Sender" "lastSeverity" "I", Cond.methodLink RX5 157 yX5_route, Cond.instanceMethod yX5_route, Cond.selects RX5 yX5_route yX5_route, Cond.code yX5_route cX5_route 10 (some .int), Cond.fieldLink RX5 17 "LogSpooler" "rules" "[LLogSpooler$Rule;", Cond.fieldLink RX5 261 "LogSpooler$Rule" "target" "I", Cond.fieldLink RX5 23 "LogSpooler" "files" "[LLogSpooler$LogFile;"]
def wsX5_tellDueRepeats_r2 : List Cond := [Cond.fieldLink RX5 30 "LogSpooler" "forwarder" "LLogSpooler$Forwarder;", Cond.methodLink RX5 264 yX3_fits, Cond.instanceMethod yX3_fits, Cond.selects RX3 yX3_fits yX3_fits, Cond.initialized RX3, Cond.code yX3_fits cX3_fits 4 (some .boolean), Cond.fieldLink RX3 9 "LogSpooler$Rule" "isSet" "Z", Cond.fieldLink RX3 15 "LogSpooler$Rule" "facilities" "I", Cond.fieldLink RX3 19 "LogSpooler$Rule" "severity" "I", Cond.fieldLink RX3 22 "LogSpooler$Rule" "sender" "I", Cond.methodLink RX5 267 yX2_add, Cond.instanceMethod yX2_add, Cond.selects RX2 yX2_add yX2_add, Cond.initialized RX2, Cond.code yX2_add cX2_add 4 none, Cond.fieldLink RX2 34 "LogSpooler$LogFile" "sumOfLengths" "I", Cond.fieldLink RX2 22 "LogSpooler$LogFile" "greatestSize" "I", Cond.fieldLink RX2 31 "LogSpooler$LogFile" "firstCame" "I", Cond.fieldLink RX2 18 "LogSpooler$LogFile" "end" "I", Cond.fieldLink RX2 9 "LogSpooler$LogFile" "row" "[I", Cond.methodLink RX2 43 yX2_isEmpty, Cond.instanceMethod yX2_isEmpty, Cond.selects RX2 yX2_isEmpty yX2_isEmpty, Cond.code yX2_isEmpty cX2_isEmpty 1 (some .boolean)]
def wsX5_tellDueRepeats_r3 : List Cond := [Cond.fieldLink RX2 15 "LogSpooler$LogFile" "starts" "[I", Cond.methodLink RX2 47 yX2_turnOver, Cond.instanceMethod yX2_turnOver, Cond.selects RX2 yX2_turnOver yX2_turnOver, Cond.code yX2_turnOver cX2_turnOver 2 none, Cond.fieldLink RX2 40 "LogSpooler$LogFile" "rotations" "I", Cond.fieldLink RX2 37 "LogSpooler$LogFile" "olderOnes" "I", Cond.fieldLink RX2 28 "LogSpooler$LogFile" "kept" "I", Cond.methodLink RX5 270 yX0_take, Cond.instanceMethod yX0_take, Cond.selects RX0 yX0_take yX0_take, Cond.initialized RX0, Cond.code yX0_take cX0_take 2 none, Cond.fieldLink RX0 15 "LogSpooler$Forwarder" "end" "I", Cond.fieldLink RX0 22 "LogSpooler$Forwarder" "acknowledgedOnes" "I", Cond.fieldLink RX0 9 "LogSpooler$Forwarder" "row" "[I", Cond.fieldLink RX0 25 "LogSpooler$Forwarder" "lostOnes" "I"]
def wsX5_tellDueRepeats : List Cond := .code yX5_tellDueRepeats cX5_tellDueRepeats 3 none :: ((wsX5_tellDueRepeats_r1 ++ (wsX5_tellDueRepeats_r2 ++ wsX5_tellDueRepeats_r3)) ++ wsX50 ++ wsX40 ++ wsX30 ++ wsX20 ++ wsX00)
def wsX5_rotateAgedFiles : List Cond := .code yX5_rotateAgedFiles cX5_rotateAgedFiles 2 none :: ([.fieldLink RX5 23 "LogSpooler" "files" "[LLogSpooler$LogFile;", .fieldLink RX5 41 "LogSpooler" "now" "I", .methodLink RX5 292 yX2_isAged, .instanceMethod yX2_isAged, .selects RX2 yX2_isAged yX2_isAged, .initialized RX2, .code yX2_isAged cX2_isAged 2 (some .boolean), .fieldLink RX2 25 "LogSpooler$LogFile" "age" "I", .fieldLink RX2 31 "LogSpooler$LogFile" "firstCame" "I", .methodLink RX2 43 yX2_isEmpty, .instanceMethod yX2_isEmpty, .selects RX2 yX2_isEmpty yX2_isEmpty, .code yX2_isEmpty cX2_isEmpty 1 (some .boolean), .fieldLink RX2 18 "LogSpooler$LogFile" "end" "I", .fieldLink RX2 15 "LogSpooler$LogFile" "starts" "[I", .methodLink RX5 172 yX2_turnOver, .instanceMethod yX2_turnOver, .selects RX2 yX2_turnOver yX2_turnOver, .code yX2_turnOver cX2_turnOver 2 none, .fieldLink RX2 34 "LogSpooler$LogFile" "sumOfLengths" "I", .fieldLink RX2 40 "LogSpooler$LogFile" "rotations" "I", .fieldLink RX2 37 "LogSpooler$LogFile" "olderOnes" "I", .fieldLink RX2 28 "LogSpooler$LogFile" "kept" "I"] ++ wsX50 ++ wsX20)
def wsX5_passOneSecond_r1 : List Cond := [Cond.fieldLink RX5 41 "LogSpooler" "now" "I", Cond.fieldLink RX5 48 "LogSpooler" "tokenTime" "I", Cond.methodLink RX5 273 yX5_giveTokens, Cond.instanceMethod yX5_giveTokens, Cond.selects RX5 yX5_giveTokens yX5_giveTokens, Cond.initialized RX5, Cond.code yX5_giveTokens cX5_giveTokens 2 none, Cond.fieldLink RX5 11 "LogSpooler" "senders" "[LLogSpooler$Sender;", Cond.fieldLink RX5 45 "LogSpooler" "burst" "I", Cond.methodLink RX5 282 yX4_gainToken, Cond.instanceMethod yX4_gainToken, Cond.selects RX4 yX4_gainToken yX4_gainToken, Cond.initialized RX4, Cond.code yX4_gainToken cX4_gainToken 2 none, Cond.fieldLink RX4 36 "LogSpooler$Sender" "tokensLeft" "I", Cond.methodLink RX5 276 yX5_tellDueRepeats, Cond.instanceMethod yX5_tellDueRepeats, Cond.selects RX5 yX5_tellDueRepeats yX5_tellDueRepeats, Cond.code yX5_tellDueRepeats cX5_tellDueRepeats 3 none, Cond.methodLink RX5 285 yX5_firstWithDueRepeats, Cond.instanceMethod yX5_firstWithDueRepeats, Cond.selects RX5 yX5_firstWithDueRepeats yX5_firstWithDueRepeats, Cond.code yX5_firstWithDueRepeats cX5_firstWithDueRepeats 5 (some (.object "LogSpooler$Sender")), Cond.fieldLink RX5 207 "LogSpooler$Sender" "untoldRepeats" "I"]
def wsX5_passOneSecond_r2 : List Cond := [Cond.fieldLink RX5 289 "LogSpooler$Sender" "firstRepeat" "I", Cond.fieldLink RX5 51 "LogSpooler" "foldTime" "I", Cond.methodLink RX5 138 yX5_tellRepeats, Cond.instanceMethod yX5_tellRepeats, Cond.selects RX5 yX5_tellRepeats yX5_tellRepeats, Cond.code yX5_tellRepeats cX5_tellRepeats 3 none, Cond.fieldLink RX5 251 "LogSpooler$Sender" "number" "I", Cond.fieldLink RX5 254 "LogSpooler$Sender" "lastFacility" "I", Cond.fieldLink RX5 257 "LogSpooler$Sender" "lastSeverity" "I", Cond.methodLink RX5 157 yX5_route, Cond.instanceMethod yX5_route, Cond.selects RX5 yX5_route yX5_route, Cond.code yX5_route cX5_route 10 (some .int), Cond.fieldLink RX5 17 "LogSpooler" "rules" "[LLogSpooler$Rule;", Cond.fieldLink RX5 261 "LogSpooler$Rule" "target" "I", Cond.fieldLink RX5 23 "LogSpooler" "files" "[LLogSpooler$LogFile;", Cond.fieldLink RX5 30 "LogSpooler" "forwarder" "LLogSpooler$Forwarder;", Cond.methodLink RX5 264 yX3_fits, Cond.instanceMethod yX3_fits, Cond.selects RX3 yX3_fits yX3_fits, Cond.initialized RX3, Cond.code yX3_fits cX3_fits 4 (some .boolean), Cond.fieldLink RX3 9 "LogSpooler$Rule" "isSet" "Z", Cond.fieldLink RX3 15 "LogSpooler$Rule" "facilities" "I"]
def wsX5_passOneSecond_r3 : List Cond := [Cond.fieldLink RX3 19 "LogSpooler$Rule" "severity" "I", Cond.fieldLink RX3 22 "LogSpooler$Rule" "sender" "I", Cond.methodLink RX5 267 yX2_add, Cond.instanceMethod yX2_add, Cond.selects RX2 yX2_add yX2_add, Cond.initialized RX2, Cond.code yX2_add cX2_add 4 none, Cond.fieldLink RX2 34 "LogSpooler$LogFile" "sumOfLengths" "I", Cond.fieldLink RX2 22 "LogSpooler$LogFile" "greatestSize" "I", Cond.fieldLink RX2 31 "LogSpooler$LogFile" "firstCame" "I", Cond.fieldLink RX2 18 "LogSpooler$LogFile" "end" "I", Cond.fieldLink RX2 9 "LogSpooler$LogFile" "row" "[I", Cond.methodLink RX2 43 yX2_isEmpty, Cond.instanceMethod yX2_isEmpty, Cond.selects RX2 yX2_isEmpty yX2_isEmpty, Cond.code yX2_isEmpty cX2_isEmpty 1 (some .boolean), Cond.fieldLink RX2 15 "LogSpooler$LogFile" "starts" "[I", Cond.methodLink RX2 47 yX2_turnOver, Cond.instanceMethod yX2_turnOver, Cond.selects RX2 yX2_turnOver yX2_turnOver, Cond.code yX2_turnOver cX2_turnOver 2 none, Cond.fieldLink RX2 40 "LogSpooler$LogFile" "rotations" "I", Cond.fieldLink RX2 37 "LogSpooler$LogFile" "olderOnes" "I", Cond.fieldLink RX2 28 "LogSpooler$LogFile" "kept" "I"]
def wsX5_passOneSecond_r4 : List Cond := [Cond.methodLink RX5 270 yX0_take, Cond.instanceMethod yX0_take, Cond.selects RX0 yX0_take yX0_take, Cond.initialized RX0, Cond.code yX0_take cX0_take 2 none, Cond.fieldLink RX0 15 "LogSpooler$Forwarder" "end" "I", Cond.fieldLink RX0 22 "LogSpooler$Forwarder" "acknowledgedOnes" "I", Cond.fieldLink RX0 9 "LogSpooler$Forwarder" "row" "[I", Cond.fieldLink RX0 25 "LogSpooler$Forwarder" "lostOnes" "I", Cond.methodLink RX5 279 yX5_rotateAgedFiles, Cond.instanceMethod yX5_rotateAgedFiles, Cond.selects RX5 yX5_rotateAgedFiles yX5_rotateAgedFiles, Cond.code yX5_rotateAgedFiles cX5_rotateAgedFiles 2 none, Cond.methodLink RX5 292 yX2_isAged, Cond.instanceMethod yX2_isAged, Cond.selects RX2 yX2_isAged yX2_isAged, Cond.code yX2_isAged cX2_isAged 2 (some .boolean), Cond.fieldLink RX2 25 "LogSpooler$LogFile" "age" "I", Cond.methodLink RX5 172 yX2_turnOver]
def wsX5_passOneSecond : List Cond := .code yX5_passOneSecond cX5_passOneSecond 1 none :: ((wsX5_passOneSecond_r1 ++ (wsX5_passOneSecond_r2 ++ (wsX5_passOneSecond_r3 ++ wsX5_passOneSecond_r4))) ++ wsX50 ++ wsX40 ++ wsX30 ++ wsX20 ++ wsX00)
def wsX5_pass_r1 : List Cond := [Cond.classLink RX5 63 "java/lang/IllegalArgumentException", Cond.initialized "java/lang/IllegalArgumentException", Cond.methodLink RX5 59 yX5_isWithin, Cond.static yX5_isWithin, Cond.initialized RX5, Cond.code yX5_isWithin cX5_isWithin 3 (some .boolean), Cond.methodLink RX5 161 yX5_rotationsOfAllFiles, Cond.instanceMethod yX5_rotationsOfAllFiles, Cond.selects RX5 yX5_rotationsOfAllFiles yX5_rotationsOfAllFiles, Cond.code yX5_rotationsOfAllFiles cX5_rotationsOfAllFiles 3 (some .int), Cond.fieldLink RX5 23 "LogSpooler" "files" "[LLogSpooler$LogFile;", Cond.fieldLink RX5 295 "LogSpooler$LogFile" "rotations" "I", Cond.methodLink RX5 164 yX5_passOneSecond, Cond.instanceMethod yX5_passOneSecond, Cond.selects RX5 yX5_passOneSecond yX5_passOneSecond, Cond.code yX5_passOneSecond cX5_passOneSecond 1 none, Cond.fieldLink RX5 41 "LogSpooler" "now" "I", Cond.fieldLink RX5 48 "LogSpooler" "tokenTime" "I", Cond.methodLink RX5 273 yX5_giveTokens, Cond.instanceMethod yX5_giveTokens, Cond.selects RX5 yX5_giveTokens yX5_giveTokens, Cond.code yX5_giveTokens cX5_giveTokens 2 none, Cond.fieldLink RX5 11 "LogSpooler" "senders" "[LLogSpooler$Sender;", Cond.fieldLink RX5 45 "LogSpooler" "burst" "I"]
def wsX5_pass_r2 : List Cond := [Cond.methodLink RX5 282 yX4_gainToken, Cond.instanceMethod yX4_gainToken, Cond.selects RX4 yX4_gainToken yX4_gainToken, Cond.initialized RX4, Cond.code yX4_gainToken cX4_gainToken 2 none, Cond.fieldLink RX4 36 "LogSpooler$Sender" "tokensLeft" "I", Cond.methodLink RX5 276 yX5_tellDueRepeats, Cond.instanceMethod yX5_tellDueRepeats, Cond.selects RX5 yX5_tellDueRepeats yX5_tellDueRepeats, Cond.code yX5_tellDueRepeats cX5_tellDueRepeats 3 none, Cond.methodLink RX5 285 yX5_firstWithDueRepeats, Cond.instanceMethod yX5_firstWithDueRepeats, Cond.selects RX5 yX5_firstWithDueRepeats yX5_firstWithDueRepeats, Cond.code yX5_firstWithDueRepeats cX5_firstWithDueRepeats 5 (some (.object "LogSpooler$Sender")), Cond.fieldLink RX5 207 "LogSpooler$Sender" "untoldRepeats" "I", Cond.fieldLink RX5 289 "LogSpooler$Sender" "firstRepeat" "I", Cond.fieldLink RX5 51 "LogSpooler" "foldTime" "I", Cond.methodLink RX5 138 yX5_tellRepeats, Cond.instanceMethod yX5_tellRepeats, Cond.selects RX5 yX5_tellRepeats yX5_tellRepeats, Cond.code yX5_tellRepeats cX5_tellRepeats 3 none, Cond.fieldLink RX5 251 "LogSpooler$Sender" "number" "I", Cond.fieldLink RX5 254 "LogSpooler$Sender" "lastFacility" "I", Cond.fieldLink RX5 257 "LogSpooler$Sender" "lastSeverity" "I"]
def wsX5_pass_r3 : List Cond := [Cond.methodLink RX5 157 yX5_route, Cond.instanceMethod yX5_route, Cond.selects RX5 yX5_route yX5_route, Cond.code yX5_route cX5_route 10 (some .int), Cond.fieldLink RX5 17 "LogSpooler" "rules" "[LLogSpooler$Rule;", Cond.fieldLink RX5 261 "LogSpooler$Rule" "target" "I", Cond.fieldLink RX5 30 "LogSpooler" "forwarder" "LLogSpooler$Forwarder;", Cond.methodLink RX5 264 yX3_fits, Cond.instanceMethod yX3_fits, Cond.selects RX3 yX3_fits yX3_fits, Cond.initialized RX3, Cond.code yX3_fits cX3_fits 4 (some .boolean), Cond.fieldLink RX3 9 "LogSpooler$Rule" "isSet" "Z", Cond.fieldLink RX3 15 "LogSpooler$Rule" "facilities" "I", Cond.fieldLink RX3 19 "LogSpooler$Rule" "severity" "I", Cond.fieldLink RX3 22 "LogSpooler$Rule" "sender" "I", Cond.methodLink RX5 267 yX2_add, Cond.instanceMethod yX2_add, Cond.selects RX2 yX2_add yX2_add, Cond.initialized RX2, Cond.code yX2_add cX2_add 4 none, Cond.fieldLink RX2 34 "LogSpooler$LogFile" "sumOfLengths" "I", Cond.fieldLink RX2 22 "LogSpooler$LogFile" "greatestSize" "I", Cond.fieldLink RX2 31 "LogSpooler$LogFile" "firstCame" "I"]
def wsX5_pass_r4 : List Cond := [Cond.fieldLink RX2 18 "LogSpooler$LogFile" "end" "I", Cond.fieldLink RX2 9 "LogSpooler$LogFile" "row" "[I", Cond.methodLink RX2 43 yX2_isEmpty, Cond.instanceMethod yX2_isEmpty, Cond.selects RX2 yX2_isEmpty yX2_isEmpty, Cond.code yX2_isEmpty cX2_isEmpty 1 (some .boolean), Cond.fieldLink RX2 15 "LogSpooler$LogFile" "starts" "[I", Cond.methodLink RX2 47 yX2_turnOver, Cond.instanceMethod yX2_turnOver, Cond.selects RX2 yX2_turnOver yX2_turnOver, Cond.code yX2_turnOver cX2_turnOver 2 none, Cond.fieldLink RX2 40 "LogSpooler$LogFile" "rotations" "I", Cond.fieldLink RX2 37 "LogSpooler$LogFile" "olderOnes" "I", Cond.fieldLink RX2 28 "LogSpooler$LogFile" "kept" "I", Cond.methodLink RX5 270 yX0_take, Cond.instanceMethod yX0_take, Cond.selects RX0 yX0_take yX0_take, Cond.initialized RX0, Cond.code yX0_take cX0_take 2 none, Cond.fieldLink RX0 15 "LogSpooler$Forwarder" "end" "I", Cond.fieldLink RX0 22 "LogSpooler$Forwarder" "acknowledgedOnes" "I", Cond.fieldLink RX0 9 "LogSpooler$Forwarder" "row" "[I", Cond.fieldLink RX0 25 "LogSpooler$Forwarder" "lostOnes" "I", Cond.methodLink RX5 279 yX5_rotateAgedFiles]
def wsX5_pass_r5 : List Cond := [Cond.instanceMethod yX5_rotateAgedFiles, Cond.selects RX5 yX5_rotateAgedFiles yX5_rotateAgedFiles, Cond.code yX5_rotateAgedFiles cX5_rotateAgedFiles 2 none, Cond.methodLink RX5 292 yX2_isAged, Cond.instanceMethod yX2_isAged, Cond.selects RX2 yX2_isAged yX2_isAged, Cond.code yX2_isAged cX2_isAged 2 (some .boolean), Cond.fieldLink RX2 25 "LogSpooler$LogFile" "age" "I", Cond.methodLink RX5 172 yX2_turnOver]
def wsX5_pass : List Cond := .code yX5_pass cX5_pass 4 (some .int) :: ((wsX5_pass_r1 ++ (wsX5_pass_r2 ++ (wsX5_pass_r3 ++ (wsX5_pass_r4 ++ wsX5_pass_r5)))) ++ wsX50 ++ wsX20 ++ wsX40 ++ wsX30 ++ wsX00 ++ (vx_atS RX5 67 "java/lang/IllegalArgumentException" ["java/lang/RuntimeException", "java/lang/Exception"]).filter goodWord)
def wsX5_rotate_r1 : List Cond := [Cond.classLink RX5 122 "java/lang/IllegalStateException", Cond.initialized "java/lang/IllegalStateException", Cond.fieldLink RX5 175 "LogSpooler$LogFile" "olderOnes" "I", Cond.methodLink RX5 99 yX5_fileAt, Cond.instanceMethod yX5_fileAt, Cond.selects RX5 yX5_fileAt yX5_fileAt, Cond.initialized RX5, Cond.code yX5_fileAt cX5_fileAt 2 (some (.object "LogSpooler$LogFile")), Cond.classLink RX5 80 "java/lang/IndexOutOfBoundsException", Cond.initialized "java/lang/IndexOutOfBoundsException", Cond.fieldLink RX5 23 "LogSpooler" "files" "[LLogSpooler$LogFile;", Cond.methodLink RX5 167 yX2_isEmpty, Cond.instanceMethod yX2_isEmpty, Cond.selects RX2 yX2_isEmpty yX2_isEmpty, Cond.initialized RX2, Cond.code yX2_isEmpty cX2_isEmpty 1 (some .boolean), Cond.fieldLink RX2 18 "LogSpooler$LogFile" "end" "I", Cond.fieldLink RX2 15 "LogSpooler$LogFile" "starts" "[I", Cond.methodLink RX5 172 yX2_turnOver, Cond.instanceMethod yX2_turnOver, Cond.selects RX2 yX2_turnOver yX2_turnOver, Cond.code yX2_turnOver cX2_turnOver 2 none, Cond.fieldLink RX2 34 "LogSpooler$LogFile" "sumOfLengths" "I", Cond.fieldLink RX2 40 "LogSpooler$LogFile" "rotations" "I"]
def wsX5_rotate_r2 : List Cond := [Cond.fieldLink RX2 37 "LogSpooler$LogFile" "olderOnes" "I", Cond.fieldLink RX2 28 "LogSpooler$LogFile" "kept" "I"]
def wsX5_rotate : List Cond := .code yX5_rotate cX5_rotate 3 (some .int) :: ((wsX5_rotate_r1 ++ wsX5_rotate_r2) ++ wsX20 ++ wsX50 ++ (vx_atS RX5 126 "java/lang/IllegalStateException" ["java/lang/RuntimeException", "java/lang/Exception"]).filter goodWord ++ (vx_atS RX5 84 "java/lang/IndexOutOfBoundsException" ["java/lang/RuntimeException", "java/lang/Exception"]).filter goodWord)
def wsX5_connect : List Cond := .code yX5_connect cX5_connect 1 (some .int) :: ([.classLink RX5 122 "java/lang/IllegalStateException", .initialized "java/lang/IllegalStateException", .fieldLink RX5 30 "LogSpooler" "forwarder" "LLogSpooler$Forwarder;", .fieldLink RX5 178 "LogSpooler$Forwarder" "isConnected" "Z", .methodLink RX5 183 yX0_waiting, .instanceMethod yX0_waiting, .selects RX0 yX0_waiting yX0_waiting, .initialized RX0, .code yX0_waiting cX0_waiting 1 (some .int), .fieldLink RX0 15 "LogSpooler$Forwarder" "end" "I", .fieldLink RX0 19 "LogSpooler$Forwarder" "firstQueued" "I"] ++ wsX50 ++ wsX00 ++ (vx_atS RX5 126 "java/lang/IllegalStateException" ["java/lang/RuntimeException", "java/lang/Exception"]).filter goodWord)
def wsX5_disconnect : List Cond := .code yX5_disconnect cX5_disconnect 2 (some .int) :: ([.classLink RX5 122 "java/lang/IllegalStateException", .initialized "java/lang/IllegalStateException", .fieldLink RX5 30 "LogSpooler" "forwarder" "LLogSpooler$Forwarder;", .fieldLink RX5 178 "LogSpooler$Forwarder" "isConnected" "Z", .methodLink RX5 188 yX0_flying, .instanceMethod yX0_flying, .selects RX0 yX0_flying yX0_flying, .initialized RX0, .code yX0_flying cX0_flying 1 (some .int), .fieldLink RX0 19 "LogSpooler$Forwarder" "firstQueued" "I", .fieldLink RX0 22 "LogSpooler$Forwarder" "acknowledgedOnes" "I", .methodLink RX5 191 yX0_loseConnection, .instanceMethod yX0_loseConnection, .selects RX0 yX0_loseConnection yX0_loseConnection, .code yX0_loseConnection cX0_loseConnection 1 none, .fieldLink RX0 28 "LogSpooler$Forwarder" "isConnected" "Z"] ++ wsX50 ++ wsX00 ++ (vx_atS RX5 126 "java/lang/IllegalStateException" ["java/lang/RuntimeException", "java/lang/Exception"]).filter goodWord)
def wsX5_send_r1 : List Cond := [Cond.classLink RX5 122 "java/lang/IllegalStateException", Cond.initialized "java/lang/IllegalStateException", Cond.fieldLink RX5 30 "LogSpooler" "forwarder" "LLogSpooler$Forwarder;", Cond.methodLink RX5 194 yX0_canSend, Cond.instanceMethod yX0_canSend, Cond.selects RX0 yX0_canSend yX0_canSend, Cond.initialized RX0, Cond.code yX0_canSend cX0_canSend 1 (some .boolean), Cond.fieldLink RX0 28 "LogSpooler$Forwarder" "isConnected" "Z", Cond.methodLink RX0 32 yX0_waiting, Cond.instanceMethod yX0_waiting, Cond.selects RX0 yX0_waiting yX0_waiting, Cond.code yX0_waiting cX0_waiting 1 (some .int), Cond.fieldLink RX0 15 "LogSpooler$Forwarder" "end" "I", Cond.fieldLink RX0 19 "LogSpooler$Forwarder" "firstQueued" "I", Cond.methodLink RX0 36 yX0_flying, Cond.instanceMethod yX0_flying, Cond.selects RX0 yX0_flying yX0_flying, Cond.code yX0_flying cX0_flying 1 (some .int), Cond.fieldLink RX0 22 "LogSpooler$Forwarder" "acknowledgedOnes" "I", Cond.methodLink RX5 199 yX0_sendFirst, Cond.instanceMethod yX0_sendFirst, Cond.selects RX0 yX0_sendFirst yX0_sendFirst, Cond.code yX0_sendFirst cX0_sendFirst 2 (some .int)]
def wsX5_send_r2 : List Cond := [Cond.methodLink RX0 39 yX0_lineAt, Cond.instanceMethod yX0_lineAt, Cond.selects RX0 yX0_lineAt yX0_lineAt, Cond.code yX0_lineAt cX0_lineAt 2 (some .int), Cond.fieldLink RX0 9 "LogSpooler$Forwarder" "row" "[I"]
def wsX5_send : List Cond := .code yX5_send cX5_send 1 (some .int) :: ((wsX5_send_r1 ++ wsX5_send_r2) ++ wsX50 ++ wsX00 ++ (vx_atS RX5 126 "java/lang/IllegalStateException" ["java/lang/RuntimeException", "java/lang/Exception"]).filter goodWord)
def wsX5_acknowledge : List Cond := .code yX5_acknowledge cX5_acknowledge 1 (some .int) :: ([.classLink RX5 122 "java/lang/IllegalStateException", .initialized "java/lang/IllegalStateException", .fieldLink RX5 30 "LogSpooler" "forwarder" "LLogSpooler$Forwarder;", .methodLink RX5 188 yX0_flying, .instanceMethod yX0_flying, .selects RX0 yX0_flying yX0_flying, .initialized RX0, .code yX0_flying cX0_flying 1 (some .int), .fieldLink RX0 19 "LogSpooler$Forwarder" "firstQueued" "I", .fieldLink RX0 22 "LogSpooler$Forwarder" "acknowledgedOnes" "I", .methodLink RX5 204 yX0_acknowledgeFirst, .instanceMethod yX0_acknowledgeFirst, .selects RX0 yX0_acknowledgeFirst yX0_acknowledgeFirst, .code yX0_acknowledgeFirst cX0_acknowledgeFirst 2 (some .int), .methodLink RX0 39 yX0_lineAt, .instanceMethod yX0_lineAt, .selects RX0 yX0_lineAt yX0_lineAt, .code yX0_lineAt cX0_lineAt 2 (some .int), .fieldLink RX0 9 "LogSpooler$Forwarder" "row" "[I"] ++ wsX50 ++ wsX00 ++ (vx_atS RX5 126 "java/lang/IllegalStateException" ["java/lang/RuntimeException", "java/lang/Exception"]).filter goodWord)
def wsX5_time : List Cond := .code yX5_time cX5_time 1 (some .int) :: ([.fieldLink RX5 41 "LogSpooler" "now" "I"] ++ wsX50)
def wsX5_tokens : List Cond := .code yX5_tokens cX5_tokens 2 (some .int) :: ([.fieldLink RX5 142 "LogSpooler$Sender" "tokensLeft" "I", .methodLink RX5 112 yX5_senderAt, .instanceMethod yX5_senderAt, .selects RX5 yX5_senderAt yX5_senderAt, .initialized RX5, .code yX5_senderAt cX5_senderAt 2 (some (.object "LogSpooler$Sender")), .classLink RX5 80 "java/lang/IndexOutOfBoundsException", .initialized "java/lang/IndexOutOfBoundsException", .fieldLink RX5 11 "LogSpooler" "senders" "[LLogSpooler$Sender;"] ++ wsX40 ++ wsX50 ++ (vx_atS RX5 84 "java/lang/IndexOutOfBoundsException" ["java/lang/RuntimeException", "java/lang/Exception"]).filter goodWord)
def wsX5_repeats : List Cond := .code yX5_repeats cX5_repeats 2 (some .int) :: ([.fieldLink RX5 207 "LogSpooler$Sender" "untoldRepeats" "I", .methodLink RX5 112 yX5_senderAt, .instanceMethod yX5_senderAt, .selects RX5 yX5_senderAt yX5_senderAt, .initialized RX5, .code yX5_senderAt cX5_senderAt 2 (some (.object "LogSpooler$Sender")), .classLink RX5 80 "java/lang/IndexOutOfBoundsException", .initialized "java/lang/IndexOutOfBoundsException", .fieldLink RX5 11 "LogSpooler" "senders" "[LLogSpooler$Sender;"] ++ wsX40 ++ wsX50 ++ (vx_atS RX5 84 "java/lang/IndexOutOfBoundsException" ["java/lang/RuntimeException", "java/lang/Exception"]).filter goodWord)
def wsX5_drops : List Cond := .code yX5_drops cX5_drops 2 (some .int) :: ([.fieldLink RX5 145 "LogSpooler$Sender" "untoldDrops" "I", .methodLink RX5 112 yX5_senderAt, .instanceMethod yX5_senderAt, .selects RX5 yX5_senderAt yX5_senderAt, .initialized RX5, .code yX5_senderAt cX5_senderAt 2 (some (.object "LogSpooler$Sender")), .classLink RX5 80 "java/lang/IndexOutOfBoundsException", .initialized "java/lang/IndexOutOfBoundsException", .fieldLink RX5 11 "LogSpooler" "senders" "[LLogSpooler$Sender;"] ++ wsX40 ++ wsX50 ++ (vx_atS RX5 84 "java/lang/IndexOutOfBoundsException" ["java/lang/RuntimeException", "java/lang/Exception"]).filter goodWord)
def wsX5_size : List Cond := .code yX5_size cX5_size 2 (some .int) :: ([.fieldLink RX5 109 "LogSpooler$LogFile" "sumOfLengths" "I", .methodLink RX5 99 yX5_fileAt, .instanceMethod yX5_fileAt, .selects RX5 yX5_fileAt yX5_fileAt, .initialized RX5, .code yX5_fileAt cX5_fileAt 2 (some (.object "LogSpooler$LogFile")), .classLink RX5 80 "java/lang/IndexOutOfBoundsException", .initialized "java/lang/IndexOutOfBoundsException", .fieldLink RX5 23 "LogSpooler" "files" "[LLogSpooler$LogFile;"] ++ wsX20 ++ wsX50 ++ (vx_atS RX5 84 "java/lang/IndexOutOfBoundsException" ["java/lang/RuntimeException", "java/lang/Exception"]).filter goodWord)
def wsX5_lines : List Cond := .code yX5_lines cX5_lines 4 (some .int) :: ([.classLink RX5 80 "java/lang/IndexOutOfBoundsException", .initialized "java/lang/IndexOutOfBoundsException", .methodLink RX5 99 yX5_fileAt, .instanceMethod yX5_fileAt, .selects RX5 yX5_fileAt yX5_fileAt, .initialized RX5, .code yX5_fileAt cX5_fileAt 2 (some (.object "LogSpooler$LogFile")), .fieldLink RX5 23 "LogSpooler" "files" "[LLogSpooler$LogFile;", .methodLink RX5 210 yX2_has, .instanceMethod yX2_has, .selects RX2 yX2_has yX2_has, .initialized RX2, .code yX2_has cX2_has 2 (some .boolean), .fieldLink RX2 37 "LogSpooler$LogFile" "olderOnes" "I", .methodLink RX5 216 yX2_linesOf, .instanceMethod yX2_linesOf, .selects RX2 yX2_linesOf yX2_linesOf, .code yX2_linesOf cX2_linesOf 3 (some .int), .fieldLink RX2 18 "LogSpooler$LogFile" "end" "I", .methodLink RX2 50 yX2_startOf, .instanceMethod yX2_startOf, .selects RX2 yX2_startOf yX2_startOf, .code yX2_startOf cX2_startOf 3 (some .int), .fieldLink RX2 15 "LogSpooler$LogFile" "starts" "[I"] ++ wsX50 ++ wsX20 ++ (vx_atS RX5 84 "java/lang/IndexOutOfBoundsException" ["java/lang/RuntimeException", "java/lang/Exception"]).filter goodWord)
def wsX5_line_r1 : List Cond := [Cond.classLink RX5 80 "java/lang/IndexOutOfBoundsException", Cond.initialized "java/lang/IndexOutOfBoundsException", Cond.methodLink RX5 99 yX5_fileAt, Cond.instanceMethod yX5_fileAt, Cond.selects RX5 yX5_fileAt yX5_fileAt, Cond.initialized RX5, Cond.code yX5_fileAt cX5_fileAt 2 (some (.object "LogSpooler$LogFile")), Cond.fieldLink RX5 23 "LogSpooler" "files" "[LLogSpooler$LogFile;", Cond.methodLink RX5 210 yX2_has, Cond.instanceMethod yX2_has, Cond.selects RX2 yX2_has yX2_has, Cond.initialized RX2, Cond.code yX2_has cX2_has 2 (some .boolean), Cond.fieldLink RX2 37 "LogSpooler$LogFile" "olderOnes" "I", Cond.methodLink RX5 216 yX2_linesOf, Cond.instanceMethod yX2_linesOf, Cond.selects RX2 yX2_linesOf yX2_linesOf, Cond.code yX2_linesOf cX2_linesOf 3 (some .int), Cond.fieldLink RX2 18 "LogSpooler$LogFile" "end" "I", Cond.methodLink RX2 50 yX2_startOf, Cond.instanceMethod yX2_startOf, Cond.selects RX2 yX2_startOf yX2_startOf, Cond.code yX2_startOf cX2_startOf 3 (some .int), Cond.fieldLink RX2 15 "LogSpooler$LogFile" "starts" "[I"]
def wsX5_line_r2 : List Cond := [Cond.methodLink RX5 59 yX5_isWithin, Cond.static yX5_isWithin, Cond.code yX5_isWithin cX5_isWithin 3 (some .boolean), Cond.methodLink RX5 222 yX2_lineAt, Cond.instanceMethod yX2_lineAt, Cond.selects RX2 yX2_lineAt yX2_lineAt, Cond.code yX2_lineAt cX2_lineAt 4 (some .int), Cond.fieldLink RX2 9 "LogSpooler$LogFile" "row" "[I"]
def wsX5_line : List Cond := .code yX5_line cX5_line 5 (some .int) :: ((wsX5_line_r1 ++ wsX5_line_r2) ++ wsX50 ++ wsX20 ++ (vx_atS RX5 84 "java/lang/IndexOutOfBoundsException" ["java/lang/RuntimeException", "java/lang/Exception"]).filter goodWord)
def wsX5_generations : List Cond := .code yX5_generations cX5_generations 2 (some .int) :: ([.fieldLink RX5 175 "LogSpooler$LogFile" "olderOnes" "I", .methodLink RX5 99 yX5_fileAt, .instanceMethod yX5_fileAt, .selects RX5 yX5_fileAt yX5_fileAt, .initialized RX5, .code yX5_fileAt cX5_fileAt 2 (some (.object "LogSpooler$LogFile")), .classLink RX5 80 "java/lang/IndexOutOfBoundsException", .initialized "java/lang/IndexOutOfBoundsException", .fieldLink RX5 23 "LogSpooler" "files" "[LLogSpooler$LogFile;"] ++ wsX20 ++ wsX50 ++ (vx_atS RX5 84 "java/lang/IndexOutOfBoundsException" ["java/lang/RuntimeException", "java/lang/Exception"]).filter goodWord)
def wsX5_queued : List Cond := .code yX5_queued cX5_queued 1 (some .int) :: ([.fieldLink RX5 30 "LogSpooler" "forwarder" "LLogSpooler$Forwarder;", .methodLink RX5 183 yX0_waiting, .instanceMethod yX0_waiting, .selects RX0 yX0_waiting yX0_waiting, .initialized RX0, .code yX0_waiting cX0_waiting 1 (some .int), .fieldLink RX0 15 "LogSpooler$Forwarder" "end" "I", .fieldLink RX0 19 "LogSpooler$Forwarder" "firstQueued" "I"] ++ wsX50 ++ wsX00)
def wsX5_inFlight : List Cond := .code yX5_inFlight cX5_inFlight 1 (some .int) :: ([.fieldLink RX5 30 "LogSpooler" "forwarder" "LLogSpooler$Forwarder;", .methodLink RX5 188 yX0_flying, .instanceMethod yX0_flying, .selects RX0 yX0_flying yX0_flying, .initialized RX0, .code yX0_flying cX0_flying 1 (some .int), .fieldLink RX0 19 "LogSpooler$Forwarder" "firstQueued" "I", .fieldLink RX0 22 "LogSpooler$Forwarder" "acknowledgedOnes" "I"] ++ wsX50 ++ wsX00)
def wsX5_acknowledged : List Cond := .code yX5_acknowledged cX5_acknowledged 1 (some .int) :: ([.fieldLink RX5 30 "LogSpooler" "forwarder" "LLogSpooler$Forwarder;", .fieldLink RX5 225 "LogSpooler$Forwarder" "acknowledgedOnes" "I"] ++ wsX50 ++ wsX00)
def wsX5_lost : List Cond := .code yX5_lost cX5_lost 1 (some .int) :: ([.fieldLink RX5 30 "LogSpooler" "forwarder" "LLogSpooler$Forwarder;", .fieldLink RX5 228 "LogSpooler$Forwarder" "lostOnes" "I"] ++ wsX50 ++ wsX00)
def wsX5_messages : List Cond := .code yX5_messages cX5_messages 1 (some .int) :: ([.fieldLink RX5 37 "LogSpooler" "ledger" "LLogSpooler$Ledger;", .fieldLink RX5 154 "LogSpooler$Ledger" "entries" "I"] ++ wsX50 ++ wsX10)
def wsX5_fateOf : List Cond := .code yX5_fateOf cX5_fateOf 2 (some .int) :: ([.classLink RX5 80 "java/lang/IndexOutOfBoundsException", .initialized "java/lang/IndexOutOfBoundsException", .fieldLink RX5 37 "LogSpooler" "ledger" "LLogSpooler$Ledger;", .methodLink RX5 231 yX1_has, .instanceMethod yX1_has, .selects RX1 yX1_has yX1_has, .initialized RX1, .code yX1_has cX1_has 2 (some .boolean), .fieldLink RX1 18 "LogSpooler$Ledger" "entries" "I", .methodLink RX5 234 yX1_fateAt, .instanceMethod yX1_fateAt, .selects RX1 yX1_fateAt yX1_fateAt, .code yX1_fateAt cX1_fateAt 2 (some .int), .fieldLink RX1 9 "LogSpooler$Ledger" "fates" "[I"] ++ wsX50 ++ wsX10 ++ (vx_atS RX5 84 "java/lang/IndexOutOfBoundsException" ["java/lang/RuntimeException", "java/lang/Exception"]).filter goodWord)
def wsX5_count : List Cond := .code yX5_count cX5_count 2 (some .int) :: ([.classLink RX5 80 "java/lang/IndexOutOfBoundsException", .initialized "java/lang/IndexOutOfBoundsException", .fieldLink RX5 37 "LogSpooler" "ledger" "LLogSpooler$Ledger;", .methodLink RX5 59 yX5_isWithin, .static yX5_isWithin, .initialized RX5, .code yX5_isWithin cX5_isWithin 3 (some .boolean), .methodLink RX5 239 yX1_entriesWith, .instanceMethod yX1_entriesWith, .selects RX1 yX1_entriesWith yX1_entriesWith, .initialized RX1, .code yX1_entriesWith cX1_entriesWith 4 (some .int), .fieldLink RX1 18 "LogSpooler$Ledger" "entries" "I", .fieldLink RX1 9 "LogSpooler$Ledger" "fates" "[I"] ++ wsX50 ++ wsX10 ++ (vx_atS RX5 84 "java/lang/IndexOutOfBoundsException" ["java/lang/RuntimeException", "java/lang/Exception"]).filter goodWord)
def wsX5_targetsOf : List Cond := .code yX5_targetsOf cX5_targetsOf 2 (some .int) :: ([.classLink RX5 80 "java/lang/IndexOutOfBoundsException", .initialized "java/lang/IndexOutOfBoundsException", .fieldLink RX5 37 "LogSpooler" "ledger" "LLogSpooler$Ledger;", .methodLink RX5 231 yX1_has, .instanceMethod yX1_has, .selects RX1 yX1_has yX1_has, .initialized RX1, .code yX1_has cX1_has 2 (some .boolean), .fieldLink RX1 18 "LogSpooler$Ledger" "entries" "I", .methodLink RX5 242 yX1_targetsAt, .instanceMethod yX1_targetsAt, .selects RX1 yX1_targetsAt yX1_targetsAt, .code yX1_targetsAt cX1_targetsAt 2 (some .int), .fieldLink RX1 15 "LogSpooler$Ledger" "targetSets" "[I"] ++ wsX50 ++ wsX10 ++ (vx_atS RX5 84 "java/lang/IndexOutOfBoundsException" ["java/lang/RuntimeException", "java/lang/Exception"]).filter goodWord)
def wsX6_init_r1 : List Cond := [Cond.methodLink RX6 1 objectInit, Cond.instanceMethod objectInit, Cond.code objectInit ⟨#[0xb1]⟩ 1 none, Cond.fieldLink RX6 7 "LogSpoolerModel" "burst" "I", Cond.fieldLink RX6 13 "LogSpoolerModel" "tokenTime" "I", Cond.fieldLink RX6 16 "LogSpoolerModel" "fold" "I", Cond.arrayClass .int, Cond.fieldLink RX6 19 "LogSpoolerModel" "tokens" "[I", Cond.fieldLink RX6 23 "LogSpoolerModel" "repeats" "[I", Cond.fieldLink RX6 26 "LogSpoolerModel" "firstRepeats" "[I", Cond.fieldLink RX6 29 "LogSpoolerModel" "drops" "[I", Cond.fieldLink RX6 32 "LogSpoolerModel" "lasts" "[I", Cond.arrayClass .boolean, Cond.fieldLink RX6 35 "LogSpoolerModel" "isSet" "[Z", Cond.fieldLink RX6 39 "LogSpoolerModel" "facilities" "[I", Cond.fieldLink RX6 42 "LogSpoolerModel" "severities" "[I", Cond.fieldLink RX6 45 "LogSpoolerModel" "senders" "[I", Cond.fieldLink RX6 48 "LogSpoolerModel" "targets" "[I", Cond.fieldLink RX6 51 "LogSpoolerModel" "most" "[I", Cond.fieldLink RX6 54 "LogSpoolerModel" "ages" "[I", Cond.fieldLink RX6 57 "LogSpoolerModel" "kept" "[I", Cond.fieldLink RX6 60 "LogSpoolerModel" "sizes" "[I", Cond.fieldLink RX6 63 "LogSpoolerModel" "ends" "[I", Cond.fieldLink RX6 66 "LogSpoolerModel" "generations" "[I"]
def wsX6_init_r2 : List Cond := [Cond.fieldLink RX6 69 "LogSpoolerModel" "starts" "[I", Cond.fieldLink RX6 72 "LogSpoolerModel" "lines" "[I", Cond.fieldLink RX6 75 "LogSpoolerModel" "times" "[I", Cond.fieldLink RX6 78 "LogSpoolerModel" "forwarded" "[I", Cond.fieldLink RX6 81 "LogSpoolerModel" "fates" "[I", Cond.fieldLink RX6 84 "LogSpoolerModel" "wentTo" "[I"]
def wsX6_init : List Cond := .code yX6_init cX6_init 2 none :: ((wsX6_init_r1 ++ wsX6_init_r2) ++ wsX60)
def wsX6_thrown : List Cond := .code yX6_thrown cX6_thrown 1 (some .int) :: ([.fieldLink RX6 87 "LogSpoolerModel" "thrown" "I"] ++ wsX60)
def wsX6_holds : List Cond := .code yX6_holds cX6_holds 2 (some .boolean) :: ([.fieldLink RX6 87 "LogSpoolerModel" "thrown" "I"] ++ wsX60)
def wsX6_isIn : List Cond := .code yX6_isIn cX6_isIn 3 (some .boolean) :: ([])
def wsX6_setRate : List Cond := .code yX6_setRate cX6_setRate 5 (some .int) :: ([.fieldLink RX6 7 "LogSpoolerModel" "burst" "I", .fieldLink RX6 13 "LogSpoolerModel" "tokenTime" "I", .fieldLink RX6 19 "LogSpoolerModel" "tokens" "[I", .methodLink RX6 90 yX6_isIn, .static yX6_isIn, .initialized RX6, .code yX6_isIn cX6_isIn 3 (some .boolean), .methodLink RX6 94 yX6_holds, .instanceMethod yX6_holds, .selects RX6 yX6_holds yX6_holds, .code yX6_holds cX6_holds 2 (some .boolean), .fieldLink RX6 87 "LogSpoolerModel" "thrown" "I"] ++ wsX60)
def wsX6_setFold : List Cond := .code yX6_setFold cX6_setFold 3 (some .int) :: ([.fieldLink RX6 16 "LogSpoolerModel" "fold" "I", .methodLink RX6 90 yX6_isIn, .static yX6_isIn, .initialized RX6, .code yX6_isIn cX6_isIn 3 (some .boolean), .methodLink RX6 94 yX6_holds, .instanceMethod yX6_holds, .selects RX6 yX6_holds yX6_holds, .code yX6_holds cX6_holds 2 (some .boolean), .fieldLink RX6 87 "LogSpoolerModel" "thrown" "I"] ++ wsX60)
def wsX6_setRule : List Cond := .code yX6_setRule cX6_setRule 10 (some .int) :: ([.fieldLink RX6 35 "LogSpoolerModel" "isSet" "[Z", .fieldLink RX6 39 "LogSpoolerModel" "facilities" "[I", .fieldLink RX6 42 "LogSpoolerModel" "severities" "[I", .fieldLink RX6 45 "LogSpoolerModel" "senders" "[I", .fieldLink RX6 48 "LogSpoolerModel" "targets" "[I", .methodLink RX6 90 yX6_isIn, .static yX6_isIn, .initialized RX6, .code yX6_isIn cX6_isIn 3 (some .boolean), .methodLink RX6 94 yX6_holds, .instanceMethod yX6_holds, .selects RX6 yX6_holds yX6_holds, .code yX6_holds cX6_holds 2 (some .boolean), .fieldLink RX6 87 "LogSpoolerModel" "thrown" "I"] ++ wsX60)
def wsX6_removeRule : List Cond := .code yX6_removeRule cX6_removeRule 3 (some .boolean) :: ([.fieldLink RX6 35 "LogSpoolerModel" "isSet" "[Z", .methodLink RX6 90 yX6_isIn, .static yX6_isIn, .initialized RX6, .code yX6_isIn cX6_isIn 3 (some .boolean), .methodLink RX6 94 yX6_holds, .instanceMethod yX6_holds, .selects RX6 yX6_holds yX6_holds, .code yX6_holds cX6_holds 2 (some .boolean), .fieldLink RX6 87 "LogSpoolerModel" "thrown" "I"] ++ wsX60)
def wsX6_isFile : List Cond := .code yX6_isFile cX6_isFile 1 (some .boolean) :: ([.methodLink RX6 90 yX6_isIn, .static yX6_isIn, .initialized RX6, .code yX6_isIn cX6_isIn 3 (some .boolean)])
def wsX6_setFile : List Cond := .code yX6_setFile cX6_setFile 6 (some .int) :: ([.fieldLink RX6 51 "LogSpoolerModel" "most" "[I", .fieldLink RX6 54 "LogSpoolerModel" "ages" "[I", .fieldLink RX6 57 "LogSpoolerModel" "kept" "[I", .fieldLink RX6 66 "LogSpoolerModel" "generations" "[I", .fieldLink RX6 60 "LogSpoolerModel" "sizes" "[I", .methodLink RX6 90 yX6_isIn, .static yX6_isIn, .initialized RX6, .code yX6_isIn cX6_isIn 3 (some .boolean), .methodLink RX6 98 yX6_isFile, .static yX6_isFile, .code yX6_isFile cX6_isFile 1 (some .boolean), .methodLink RX6 94 yX6_holds, .instanceMethod yX6_holds, .selects RX6 yX6_holds yX6_holds, .code yX6_holds cX6_holds 2 (some .boolean), .fieldLink RX6 87 "LogSpoolerModel" "thrown" "I"] ++ wsX60)
def wsX6_linesOf : List Cond := .code yX6_linesOf cX6_linesOf 2 (some .int) :: ([.fieldLink RX6 63 "LogSpoolerModel" "ends" "[I", .fieldLink RX6 69 "LogSpoolerModel" "starts" "[I"] ++ wsX60)
def wsX6_rotates : List Cond := .code yX6_rotates cX6_rotates 4 none :: ([.fieldLink RX6 69 "LogSpoolerModel" "starts" "[I", .fieldLink RX6 63 "LogSpoolerModel" "ends" "[I", .fieldLink RX6 66 "LogSpoolerModel" "generations" "[I", .fieldLink RX6 57 "LogSpoolerModel" "kept" "[I", .fieldLink RX6 60 "LogSpoolerModel" "sizes" "[I", .fieldLink RX6 101 "LogSpoolerModel" "rotations" "I"] ++ wsX60)
def wsX6_comesTo : List Cond := .code yX6_comesTo cX6_comesTo 4 none :: ([.fieldLink RX6 60 "LogSpoolerModel" "sizes" "[I", .fieldLink RX6 51 "LogSpoolerModel" "most" "[I", .fieldLink RX6 72 "LogSpoolerModel" "lines" "[I", .fieldLink RX6 63 "LogSpoolerModel" "ends" "[I", .fieldLink RX6 75 "LogSpoolerModel" "times" "[I", .fieldLink RX6 112 "LogSpoolerModel" "time" "I", .methodLink RX6 104 yX6_linesOf, .instanceMethod yX6_linesOf, .selects RX6 yX6_linesOf yX6_linesOf, .initialized RX6, .code yX6_linesOf cX6_linesOf 2 (some .int), .fieldLink RX6 69 "LogSpoolerModel" "starts" "[I", .methodLink RX6 108 yX6_rotates, .instanceMethod yX6_rotates, .selects RX6 yX6_rotates yX6_rotates, .code yX6_rotates cX6_rotates 4 none, .fieldLink RX6 66 "LogSpoolerModel" "generations" "[I", .fieldLink RX6 57 "LogSpoolerModel" "kept" "[I", .fieldLink RX6 101 "LogSpoolerModel" "rotations" "I"] ++ wsX60)
def wsX6_forwards : List Cond := .code yX6_forwards cX6_forwards 2 none :: ([.fieldLink RX6 115 "LogSpoolerModel" "taken" "I", .fieldLink RX6 118 "LogSpoolerModel" "acknowledged" "I", .fieldLink RX6 121 "LogSpoolerModel" "lost" "I", .fieldLink RX6 78 "LogSpoolerModel" "forwarded" "[I"] ++ wsX60)
def wsX6_goes_r1 : List Cond := [Cond.fieldLink RX6 35 "LogSpoolerModel" "isSet" "[Z", Cond.fieldLink RX6 39 "LogSpoolerModel" "facilities" "[I", Cond.fieldLink RX6 42 "LogSpoolerModel" "severities" "[I", Cond.fieldLink RX6 45 "LogSpoolerModel" "senders" "[I", Cond.fieldLink RX6 48 "LogSpoolerModel" "targets" "[I", Cond.methodLink RX6 124 yX6_forwards, Cond.instanceMethod yX6_forwards, Cond.selects RX6 yX6_forwards yX6_forwards, Cond.initialized RX6, Cond.code yX6_forwards cX6_forwards 2 none, Cond.fieldLink RX6 115 "LogSpoolerModel" "taken" "I", Cond.fieldLink RX6 118 "LogSpoolerModel" "acknowledged" "I", Cond.fieldLink RX6 121 "LogSpoolerModel" "lost" "I", Cond.fieldLink RX6 78 "LogSpoolerModel" "forwarded" "[I", Cond.methodLink RX6 127 yX6_comesTo, Cond.instanceMethod yX6_comesTo, Cond.selects RX6 yX6_comesTo yX6_comesTo, Cond.code yX6_comesTo cX6_comesTo 4 none, Cond.fieldLink RX6 60 "LogSpoolerModel" "sizes" "[I", Cond.fieldLink RX6 51 "LogSpoolerModel" "most" "[I", Cond.fieldLink RX6 72 "LogSpoolerModel" "lines" "[I", Cond.fieldLink RX6 63 "LogSpoolerModel" "ends" "[I", Cond.fieldLink RX6 75 "LogSpoolerModel" "times" "[I", Cond.fieldLink RX6 112 "LogSpoolerModel" "time" "I"]
def wsX6_goes_r2 : List Cond := [Cond.methodLink RX6 104 yX6_linesOf, Cond.instanceMethod yX6_linesOf, Cond.selects RX6 yX6_linesOf yX6_linesOf, Cond.code yX6_linesOf cX6_linesOf 2 (some .int), Cond.fieldLink RX6 69 "LogSpoolerModel" "starts" "[I", Cond.methodLink RX6 108 yX6_rotates, Cond.instanceMethod yX6_rotates, Cond.selects RX6 yX6_rotates yX6_rotates, Cond.code yX6_rotates cX6_rotates 4 none, Cond.fieldLink RX6 66 "LogSpoolerModel" "generations" "[I", Cond.fieldLink RX6 57 "LogSpoolerModel" "kept" "[I", Cond.fieldLink RX6 101 "LogSpoolerModel" "rotations" "I"]
def wsX6_goes : List Cond := .code yX6_goes cX6_goes 9 (some .int) :: ((wsX6_goes_r1 ++ wsX6_goes_r2) ++ wsX60)
def wsX6_tellsRepeats_r1 : List Cond := [Cond.fieldLink RX6 23 "LogSpoolerModel" "repeats" "[I", Cond.fieldLink RX6 32 "LogSpoolerModel" "lasts" "[I", Cond.constant RX6 131 (160000), Cond.methodLink RX6 132 yX6_goes, Cond.instanceMethod yX6_goes, Cond.selects RX6 yX6_goes yX6_goes, Cond.initialized RX6, Cond.code yX6_goes cX6_goes 9 (some .int), Cond.fieldLink RX6 35 "LogSpoolerModel" "isSet" "[Z", Cond.fieldLink RX6 39 "LogSpoolerModel" "facilities" "[I", Cond.fieldLink RX6 42 "LogSpoolerModel" "severities" "[I", Cond.fieldLink RX6 45 "LogSpoolerModel" "senders" "[I", Cond.fieldLink RX6 48 "LogSpoolerModel" "targets" "[I", Cond.methodLink RX6 124 yX6_forwards, Cond.instanceMethod yX6_forwards, Cond.selects RX6 yX6_forwards yX6_forwards, Cond.code yX6_forwards cX6_forwards 2 none, Cond.fieldLink RX6 115 "LogSpoolerModel" "taken" "I", Cond.fieldLink RX6 118 "LogSpoolerModel" "acknowledged" "I", Cond.fieldLink RX6 121 "LogSpoolerModel" "lost" "I", Cond.fieldLink RX6 78 "LogSpoolerModel" "forwarded" "[I", Cond.methodLink RX6 127 yX6_comesTo, Cond.instanceMethod yX6_comesTo, Cond.selects RX6 yX6_comesTo yX6_comesTo]
def wsX6_tellsRepeats_r2 : List Cond := [Cond.code yX6_comesTo cX6_comesTo 4 none, Cond.fieldLink RX6 60 "LogSpoolerModel" "sizes" "[I", Cond.fieldLink RX6 51 "LogSpoolerModel" "most" "[I", Cond.fieldLink RX6 72 "LogSpoolerModel" "lines" "[I", Cond.fieldLink RX6 63 "LogSpoolerModel" "ends" "[I", Cond.fieldLink RX6 75 "LogSpoolerModel" "times" "[I", Cond.fieldLink RX6 112 "LogSpoolerModel" "time" "I", Cond.methodLink RX6 104 yX6_linesOf, Cond.instanceMethod yX6_linesOf, Cond.selects RX6 yX6_linesOf yX6_linesOf, Cond.code yX6_linesOf cX6_linesOf 2 (some .int), Cond.fieldLink RX6 69 "LogSpoolerModel" "starts" "[I", Cond.methodLink RX6 108 yX6_rotates, Cond.instanceMethod yX6_rotates, Cond.selects RX6 yX6_rotates yX6_rotates, Cond.code yX6_rotates cX6_rotates 4 none, Cond.fieldLink RX6 66 "LogSpoolerModel" "generations" "[I", Cond.fieldLink RX6 57 "LogSpoolerModel" "kept" "[I", Cond.fieldLink RX6 101 "LogSpoolerModel" "rotations" "I"]
def wsX6_tellsRepeats : List Cond := .code yX6_tellsRepeats cX6_tellsRepeats 4 none :: ((wsX6_tellsRepeats_r1 ++ wsX6_tellsRepeats_r2) ++ wsX60)
def wsX6_tellsDrops_r1 : List Cond := [Cond.fieldLink RX6 29 "LogSpoolerModel" "drops" "[I", Cond.constant RX6 136 (100000), Cond.methodLink RX6 132 yX6_goes, Cond.instanceMethod yX6_goes, Cond.selects RX6 yX6_goes yX6_goes, Cond.initialized RX6, Cond.code yX6_goes cX6_goes 9 (some .int), Cond.fieldLink RX6 35 "LogSpoolerModel" "isSet" "[Z", Cond.fieldLink RX6 39 "LogSpoolerModel" "facilities" "[I", Cond.fieldLink RX6 42 "LogSpoolerModel" "severities" "[I", Cond.fieldLink RX6 45 "LogSpoolerModel" "senders" "[I", Cond.fieldLink RX6 48 "LogSpoolerModel" "targets" "[I", Cond.methodLink RX6 124 yX6_forwards, Cond.instanceMethod yX6_forwards, Cond.selects RX6 yX6_forwards yX6_forwards, Cond.code yX6_forwards cX6_forwards 2 none, Cond.fieldLink RX6 115 "LogSpoolerModel" "taken" "I", Cond.fieldLink RX6 118 "LogSpoolerModel" "acknowledged" "I", Cond.fieldLink RX6 121 "LogSpoolerModel" "lost" "I", Cond.fieldLink RX6 78 "LogSpoolerModel" "forwarded" "[I", Cond.methodLink RX6 127 yX6_comesTo, Cond.instanceMethod yX6_comesTo, Cond.selects RX6 yX6_comesTo yX6_comesTo, Cond.code yX6_comesTo cX6_comesTo 4 none]
def wsX6_tellsDrops_r2 : List Cond := [Cond.fieldLink RX6 60 "LogSpoolerModel" "sizes" "[I", Cond.fieldLink RX6 51 "LogSpoolerModel" "most" "[I", Cond.fieldLink RX6 72 "LogSpoolerModel" "lines" "[I", Cond.fieldLink RX6 63 "LogSpoolerModel" "ends" "[I", Cond.fieldLink RX6 75 "LogSpoolerModel" "times" "[I", Cond.fieldLink RX6 112 "LogSpoolerModel" "time" "I", Cond.methodLink RX6 104 yX6_linesOf, Cond.instanceMethod yX6_linesOf, Cond.selects RX6 yX6_linesOf yX6_linesOf, Cond.code yX6_linesOf cX6_linesOf 2 (some .int), Cond.fieldLink RX6 69 "LogSpoolerModel" "starts" "[I", Cond.methodLink RX6 108 yX6_rotates, Cond.instanceMethod yX6_rotates, Cond.selects RX6 yX6_rotates yX6_rotates, Cond.code yX6_rotates cX6_rotates 4 none, Cond.fieldLink RX6 66 "LogSpoolerModel" "generations" "[I", Cond.fieldLink RX6 57 "LogSpoolerModel" "kept" "[I", Cond.fieldLink RX6 101 "LogSpoolerModel" "rotations" "I"]
def wsX6_tellsDrops : List Cond := .code yX6_tellsDrops cX6_tellsDrops 4 none :: ((wsX6_tellsDrops_r1 ++ wsX6_tellsDrops_r2) ++ wsX60)
def wsX6_notes : List Cond := .code yX6_notes cX6_notes 3 (some .int) :: ([.fieldLink RX6 81 "LogSpoolerModel" "fates" "[I", .fieldLink RX6 137 "LogSpoolerModel" "messages" "I", .fieldLink RX6 84 "LogSpoolerModel" "wentTo" "[I"] ++ wsX60)
def wsX6_message_r1 : List Cond := [Cond.fieldLink RX6 137 "LogSpoolerModel" "messages" "I", Cond.constant RX6 131 (160000), Cond.fieldLink RX6 16 "LogSpoolerModel" "fold" "I", Cond.fieldLink RX6 32 "LogSpoolerModel" "lasts" "[I", Cond.fieldLink RX6 26 "LogSpoolerModel" "firstRepeats" "[I", Cond.fieldLink RX6 23 "LogSpoolerModel" "repeats" "[I", Cond.fieldLink RX6 112 "LogSpoolerModel" "time" "I", Cond.fieldLink RX6 19 "LogSpoolerModel" "tokens" "[I", Cond.fieldLink RX6 29 "LogSpoolerModel" "drops" "[I", Cond.methodLink RX6 90 yX6_isIn, Cond.static yX6_isIn, Cond.initialized RX6, Cond.code yX6_isIn cX6_isIn 3 (some .boolean), Cond.methodLink RX6 94 yX6_holds, Cond.instanceMethod yX6_holds, Cond.selects RX6 yX6_holds yX6_holds, Cond.code yX6_holds cX6_holds 2 (some .boolean), Cond.fieldLink RX6 87 "LogSpoolerModel" "thrown" "I", Cond.methodLink RX6 140 yX6_notes, Cond.instanceMethod yX6_notes, Cond.selects RX6 yX6_notes yX6_notes, Cond.code yX6_notes cX6_notes 3 (some .int), Cond.fieldLink RX6 81 "LogSpoolerModel" "fates" "[I", Cond.fieldLink RX6 84 "LogSpoolerModel" "wentTo" "[I"]
def wsX6_message_r2 : List Cond := [Cond.methodLink RX6 144 yX6_tellsRepeats, Cond.instanceMethod yX6_tellsRepeats, Cond.selects RX6 yX6_tellsRepeats yX6_tellsRepeats, Cond.code yX6_tellsRepeats cX6_tellsRepeats 4 none, Cond.methodLink RX6 132 yX6_goes, Cond.instanceMethod yX6_goes, Cond.selects RX6 yX6_goes yX6_goes, Cond.code yX6_goes cX6_goes 9 (some .int), Cond.fieldLink RX6 35 "LogSpoolerModel" "isSet" "[Z", Cond.fieldLink RX6 39 "LogSpoolerModel" "facilities" "[I", Cond.fieldLink RX6 42 "LogSpoolerModel" "severities" "[I", Cond.fieldLink RX6 45 "LogSpoolerModel" "senders" "[I", Cond.fieldLink RX6 48 "LogSpoolerModel" "targets" "[I", Cond.methodLink RX6 124 yX6_forwards, Cond.instanceMethod yX6_forwards, Cond.selects RX6 yX6_forwards yX6_forwards, Cond.code yX6_forwards cX6_forwards 2 none, Cond.fieldLink RX6 115 "LogSpoolerModel" "taken" "I", Cond.fieldLink RX6 118 "LogSpoolerModel" "acknowledged" "I", Cond.fieldLink RX6 121 "LogSpoolerModel" "lost" "I", Cond.fieldLink RX6 78 "LogSpoolerModel" "forwarded" "[I", Cond.methodLink RX6 127 yX6_comesTo, Cond.instanceMethod yX6_comesTo, Cond.selects RX6 yX6_comesTo yX6_comesTo]
def wsX6_message_r3 : List Cond := [Cond.code yX6_comesTo cX6_comesTo 4 none, Cond.fieldLink RX6 60 "LogSpoolerModel" "sizes" "[I", Cond.fieldLink RX6 51 "LogSpoolerModel" "most" "[I", Cond.fieldLink RX6 72 "LogSpoolerModel" "lines" "[I", Cond.fieldLink RX6 63 "LogSpoolerModel" "ends" "[I", Cond.fieldLink RX6 75 "LogSpoolerModel" "times" "[I", Cond.methodLink RX6 104 yX6_linesOf, Cond.instanceMethod yX6_linesOf, Cond.selects RX6 yX6_linesOf yX6_linesOf, Cond.code yX6_linesOf cX6_linesOf 2 (some .int), Cond.fieldLink RX6 69 "LogSpoolerModel" "starts" "[I", Cond.methodLink RX6 108 yX6_rotates, Cond.instanceMethod yX6_rotates, Cond.selects RX6 yX6_rotates yX6_rotates, Cond.code yX6_rotates cX6_rotates 4 none, Cond.fieldLink RX6 66 "LogSpoolerModel" "generations" "[I", Cond.fieldLink RX6 57 "LogSpoolerModel" "kept" "[I", Cond.fieldLink RX6 101 "LogSpoolerModel" "rotations" "I", Cond.methodLink RX6 147 yX6_tellsDrops, Cond.instanceMethod yX6_tellsDrops, Cond.selects RX6 yX6_tellsDrops yX6_tellsDrops, Cond.code yX6_tellsDrops cX6_tellsDrops 4 none, Cond.constant RX6 136 (100000)]
def wsX6_message : List Cond := .code yX6_message cX6_message 10 (some .int) :: ((wsX6_message_r1 ++ (wsX6_message_r2 ++ wsX6_message_r3)) ++ wsX60)
def wsX6_due : List Cond := .code yX6_due cX6_due 4 (some .int) :: ([.fieldLink RX6 23 "LogSpoolerModel" "repeats" "[I", .fieldLink RX6 112 "LogSpoolerModel" "time" "I", .fieldLink RX6 26 "LogSpoolerModel" "firstRepeats" "[I", .fieldLink RX6 16 "LogSpoolerModel" "fold" "I"] ++ wsX60)
def wsX6_passes_r1 : List Cond := [Cond.fieldLink RX6 112 "LogSpoolerModel" "time" "I", Cond.fieldLink RX6 19 "LogSpoolerModel" "tokens" "[I", Cond.fieldLink RX6 13 "LogSpoolerModel" "tokenTime" "I", Cond.fieldLink RX6 7 "LogSpoolerModel" "burst" "I", Cond.fieldLink RX6 54 "LogSpoolerModel" "ages" "[I", Cond.fieldLink RX6 75 "LogSpoolerModel" "times" "[I", Cond.fieldLink RX6 69 "LogSpoolerModel" "starts" "[I", Cond.methodLink RX6 150 yX6_due, Cond.instanceMethod yX6_due, Cond.selects RX6 yX6_due yX6_due, Cond.initialized RX6, Cond.code yX6_due cX6_due 4 (some .int), Cond.fieldLink RX6 23 "LogSpoolerModel" "repeats" "[I", Cond.fieldLink RX6 26 "LogSpoolerModel" "firstRepeats" "[I", Cond.fieldLink RX6 16 "LogSpoolerModel" "fold" "I", Cond.methodLink RX6 144 yX6_tellsRepeats, Cond.instanceMethod yX6_tellsRepeats, Cond.selects RX6 yX6_tellsRepeats yX6_tellsRepeats, Cond.code yX6_tellsRepeats cX6_tellsRepeats 4 none, Cond.fieldLink RX6 32 "LogSpoolerModel" "lasts" "[I", Cond.constant RX6 131 (160000), Cond.methodLink RX6 132 yX6_goes, Cond.instanceMethod yX6_goes, Cond.selects RX6 yX6_goes yX6_goes]
def wsX6_passes_r2 : List Cond := [Cond.code yX6_goes cX6_goes 9 (some .int), Cond.fieldLink RX6 35 "LogSpoolerModel" "isSet" "[Z", Cond.fieldLink RX6 39 "LogSpoolerModel" "facilities" "[I", Cond.fieldLink RX6 42 "LogSpoolerModel" "severities" "[I", Cond.fieldLink RX6 45 "LogSpoolerModel" "senders" "[I", Cond.fieldLink RX6 48 "LogSpoolerModel" "targets" "[I", Cond.methodLink RX6 124 yX6_forwards, Cond.instanceMethod yX6_forwards, Cond.selects RX6 yX6_forwards yX6_forwards, Cond.code yX6_forwards cX6_forwards 2 none, Cond.fieldLink RX6 115 "LogSpoolerModel" "taken" "I", Cond.fieldLink RX6 118 "LogSpoolerModel" "acknowledged" "I", Cond.fieldLink RX6 121 "LogSpoolerModel" "lost" "I", Cond.fieldLink RX6 78 "LogSpoolerModel" "forwarded" "[I", Cond.methodLink RX6 127 yX6_comesTo, Cond.instanceMethod yX6_comesTo, Cond.selects RX6 yX6_comesTo yX6_comesTo, Cond.code yX6_comesTo cX6_comesTo 4 none, Cond.fieldLink RX6 60 "LogSpoolerModel" "sizes" "[I", Cond.fieldLink RX6 51 "LogSpoolerModel" "most" "[I", Cond.fieldLink RX6 72 "LogSpoolerModel" "lines" "[I", Cond.fieldLink RX6 63 "LogSpoolerModel" "ends" "[I", Cond.methodLink RX6 104 yX6_linesOf, Cond.instanceMethod yX6_linesOf]
def wsX6_passes_r3 : List Cond := [Cond.selects RX6 yX6_linesOf yX6_linesOf, Cond.code yX6_linesOf cX6_linesOf 2 (some .int), Cond.methodLink RX6 108 yX6_rotates, Cond.instanceMethod yX6_rotates, Cond.selects RX6 yX6_rotates yX6_rotates, Cond.code yX6_rotates cX6_rotates 4 none, Cond.fieldLink RX6 66 "LogSpoolerModel" "generations" "[I", Cond.fieldLink RX6 57 "LogSpoolerModel" "kept" "[I", Cond.fieldLink RX6 101 "LogSpoolerModel" "rotations" "I"]
def wsX6_passes : List Cond := .code yX6_passes cX6_passes 3 none :: ((wsX6_passes_r1 ++ (wsX6_passes_r2 ++ wsX6_passes_r3)) ++ wsX60)
def wsX6_pass_r1 : List Cond := [Cond.fieldLink RX6 101 "LogSpoolerModel" "rotations" "I", Cond.methodLink RX6 90 yX6_isIn, Cond.static yX6_isIn, Cond.initialized RX6, Cond.code yX6_isIn cX6_isIn 3 (some .boolean), Cond.methodLink RX6 94 yX6_holds, Cond.instanceMethod yX6_holds, Cond.selects RX6 yX6_holds yX6_holds, Cond.code yX6_holds cX6_holds 2 (some .boolean), Cond.fieldLink RX6 87 "LogSpoolerModel" "thrown" "I", Cond.methodLink RX6 154 yX6_passes, Cond.instanceMethod yX6_passes, Cond.selects RX6 yX6_passes yX6_passes, Cond.code yX6_passes cX6_passes 3 none, Cond.fieldLink RX6 112 "LogSpoolerModel" "time" "I", Cond.fieldLink RX6 19 "LogSpoolerModel" "tokens" "[I", Cond.fieldLink RX6 13 "LogSpoolerModel" "tokenTime" "I", Cond.fieldLink RX6 7 "LogSpoolerModel" "burst" "I", Cond.fieldLink RX6 54 "LogSpoolerModel" "ages" "[I", Cond.fieldLink RX6 75 "LogSpoolerModel" "times" "[I", Cond.fieldLink RX6 69 "LogSpoolerModel" "starts" "[I", Cond.methodLink RX6 150 yX6_due, Cond.instanceMethod yX6_due, Cond.selects RX6 yX6_due yX6_due]
def wsX6_pass_r2 : List Cond := [Cond.code yX6_due cX6_due 4 (some .int), Cond.fieldLink RX6 23 "LogSpoolerModel" "repeats" "[I", Cond.fieldLink RX6 26 "LogSpoolerModel" "firstRepeats" "[I", Cond.fieldLink RX6 16 "LogSpoolerModel" "fold" "I", Cond.methodLink RX6 144 yX6_tellsRepeats, Cond.instanceMethod yX6_tellsRepeats, Cond.selects RX6 yX6_tellsRepeats yX6_tellsRepeats, Cond.code yX6_tellsRepeats cX6_tellsRepeats 4 none, Cond.fieldLink RX6 32 "LogSpoolerModel" "lasts" "[I", Cond.constant RX6 131 (160000), Cond.methodLink RX6 132 yX6_goes, Cond.instanceMethod yX6_goes, Cond.selects RX6 yX6_goes yX6_goes, Cond.code yX6_goes cX6_goes 9 (some .int), Cond.fieldLink RX6 35 "LogSpoolerModel" "isSet" "[Z", Cond.fieldLink RX6 39 "LogSpoolerModel" "facilities" "[I", Cond.fieldLink RX6 42 "LogSpoolerModel" "severities" "[I", Cond.fieldLink RX6 45 "LogSpoolerModel" "senders" "[I", Cond.fieldLink RX6 48 "LogSpoolerModel" "targets" "[I", Cond.methodLink RX6 124 yX6_forwards, Cond.instanceMethod yX6_forwards, Cond.selects RX6 yX6_forwards yX6_forwards, Cond.code yX6_forwards cX6_forwards 2 none, Cond.fieldLink RX6 115 "LogSpoolerModel" "taken" "I"]
def wsX6_pass_r3 : List Cond := [Cond.fieldLink RX6 118 "LogSpoolerModel" "acknowledged" "I", Cond.fieldLink RX6 121 "LogSpoolerModel" "lost" "I", Cond.fieldLink RX6 78 "LogSpoolerModel" "forwarded" "[I", Cond.methodLink RX6 127 yX6_comesTo, Cond.instanceMethod yX6_comesTo, Cond.selects RX6 yX6_comesTo yX6_comesTo, Cond.code yX6_comesTo cX6_comesTo 4 none, Cond.fieldLink RX6 60 "LogSpoolerModel" "sizes" "[I", Cond.fieldLink RX6 51 "LogSpoolerModel" "most" "[I", Cond.fieldLink RX6 72 "LogSpoolerModel" "lines" "[I", Cond.fieldLink RX6 63 "LogSpoolerModel" "ends" "[I", Cond.methodLink RX6 104 yX6_linesOf, Cond.instanceMethod yX6_linesOf, Cond.selects RX6 yX6_linesOf yX6_linesOf, Cond.code yX6_linesOf cX6_linesOf 2 (some .int), Cond.methodLink RX6 108 yX6_rotates, Cond.instanceMethod yX6_rotates, Cond.selects RX6 yX6_rotates yX6_rotates, Cond.code yX6_rotates cX6_rotates 4 none, Cond.fieldLink RX6 66 "LogSpoolerModel" "generations" "[I", Cond.fieldLink RX6 57 "LogSpoolerModel" "kept" "[I"]
def wsX6_pass : List Cond := .code yX6_pass cX6_pass 3 (some .int) :: ((wsX6_pass_r1 ++ (wsX6_pass_r2 ++ wsX6_pass_r3)) ++ wsX60)
def wsX6_rotate_r1 : List Cond := [Cond.fieldLink RX6 66 "LogSpoolerModel" "generations" "[I", Cond.methodLink RX6 98 yX6_isFile, Cond.static yX6_isFile, Cond.initialized RX6, Cond.code yX6_isFile cX6_isFile 1 (some .boolean), Cond.methodLink RX6 90 yX6_isIn, Cond.static yX6_isIn, Cond.code yX6_isIn cX6_isIn 3 (some .boolean), Cond.methodLink RX6 104 yX6_linesOf, Cond.instanceMethod yX6_linesOf, Cond.selects RX6 yX6_linesOf yX6_linesOf, Cond.code yX6_linesOf cX6_linesOf 2 (some .int), Cond.fieldLink RX6 63 "LogSpoolerModel" "ends" "[I", Cond.fieldLink RX6 69 "LogSpoolerModel" "starts" "[I", Cond.methodLink RX6 94 yX6_holds, Cond.instanceMethod yX6_holds, Cond.selects RX6 yX6_holds yX6_holds, Cond.code yX6_holds cX6_holds 2 (some .boolean), Cond.fieldLink RX6 87 "LogSpoolerModel" "thrown" "I", Cond.methodLink RX6 108 yX6_rotates, Cond.instanceMethod yX6_rotates, Cond.selects RX6 yX6_rotates yX6_rotates, Cond.code yX6_rotates cX6_rotates 4 none, Cond.fieldLink RX6 57 "LogSpoolerModel" "kept" "[I"]
def wsX6_rotate_r2 : List Cond := [Cond.fieldLink RX6 60 "LogSpoolerModel" "sizes" "[I", Cond.fieldLink RX6 101 "LogSpoolerModel" "rotations" "I"]
def wsX6_rotate : List Cond := .code yX6_rotate cX6_rotate 3 (some .int) :: ((wsX6_rotate_r1 ++ wsX6_rotate_r2) ++ wsX60)
def wsX6_connect : List Cond := .code yX6_connect cX6_connect 1 (some .int) :: ([.fieldLink RX6 157 "LogSpoolerModel" "isConnected" "Z", .fieldLink RX6 115 "LogSpoolerModel" "taken" "I", .fieldLink RX6 161 "LogSpoolerModel" "sent" "I", .methodLink RX6 94 yX6_holds, .instanceMethod yX6_holds, .selects RX6 yX6_holds yX6_holds, .initialized RX6, .code yX6_holds cX6_holds 2 (some .boolean), .fieldLink RX6 87 "LogSpoolerModel" "thrown" "I"] ++ wsX60)
def wsX6_disconnect : List Cond := .code yX6_disconnect cX6_disconnect 2 (some .int) :: ([.fieldLink RX6 157 "LogSpoolerModel" "isConnected" "Z", .fieldLink RX6 161 "LogSpoolerModel" "sent" "I", .fieldLink RX6 118 "LogSpoolerModel" "acknowledged" "I", .methodLink RX6 94 yX6_holds, .instanceMethod yX6_holds, .selects RX6 yX6_holds yX6_holds, .initialized RX6, .code yX6_holds cX6_holds 2 (some .boolean), .fieldLink RX6 87 "LogSpoolerModel" "thrown" "I"] ++ wsX60)
def wsX6_send : List Cond := .code yX6_send cX6_send 1 (some .int) :: ([.fieldLink RX6 157 "LogSpoolerModel" "isConnected" "Z", .fieldLink RX6 115 "LogSpoolerModel" "taken" "I", .fieldLink RX6 161 "LogSpoolerModel" "sent" "I", .fieldLink RX6 118 "LogSpoolerModel" "acknowledged" "I", .fieldLink RX6 78 "LogSpoolerModel" "forwarded" "[I", .methodLink RX6 94 yX6_holds, .instanceMethod yX6_holds, .selects RX6 yX6_holds yX6_holds, .initialized RX6, .code yX6_holds cX6_holds 2 (some .boolean), .fieldLink RX6 87 "LogSpoolerModel" "thrown" "I"] ++ wsX60)
def wsX6_acknowledge : List Cond := .code yX6_acknowledge cX6_acknowledge 1 (some .int) :: ([.fieldLink RX6 161 "LogSpoolerModel" "sent" "I", .fieldLink RX6 118 "LogSpoolerModel" "acknowledged" "I", .fieldLink RX6 78 "LogSpoolerModel" "forwarded" "[I", .methodLink RX6 94 yX6_holds, .instanceMethod yX6_holds, .selects RX6 yX6_holds yX6_holds, .initialized RX6, .code yX6_holds cX6_holds 2 (some .boolean), .fieldLink RX6 87 "LogSpoolerModel" "thrown" "I"] ++ wsX60)
def wsX6_time : List Cond := .code yX6_time cX6_time 1 (some .int) :: ([.fieldLink RX6 87 "LogSpoolerModel" "thrown" "I", .fieldLink RX6 112 "LogSpoolerModel" "time" "I"] ++ wsX60)
def wsX6_isSender : List Cond := .code yX6_isSender cX6_isSender 2 (some .boolean) :: ([.methodLink RX6 90 yX6_isIn, .static yX6_isIn, .initialized RX6, .code yX6_isIn cX6_isIn 3 (some .boolean), .methodLink RX6 94 yX6_holds, .instanceMethod yX6_holds, .selects RX6 yX6_holds yX6_holds, .code yX6_holds cX6_holds 2 (some .boolean), .fieldLink RX6 87 "LogSpoolerModel" "thrown" "I"] ++ wsX60)
def wsX6_tokens : List Cond := .code yX6_tokens cX6_tokens 2 (some .int) :: ([.fieldLink RX6 19 "LogSpoolerModel" "tokens" "[I", .methodLink RX6 164 yX6_isSender, .instanceMethod yX6_isSender, .selects RX6 yX6_isSender yX6_isSender, .initialized RX6, .code yX6_isSender cX6_isSender 2 (some .boolean), .methodLink RX6 90 yX6_isIn, .static yX6_isIn, .code yX6_isIn cX6_isIn 3 (some .boolean), .methodLink RX6 94 yX6_holds, .instanceMethod yX6_holds, .selects RX6 yX6_holds yX6_holds, .code yX6_holds cX6_holds 2 (some .boolean), .fieldLink RX6 87 "LogSpoolerModel" "thrown" "I"] ++ wsX60)
def wsX6_repeats : List Cond := .code yX6_repeats cX6_repeats 2 (some .int) :: ([.fieldLink RX6 23 "LogSpoolerModel" "repeats" "[I", .methodLink RX6 164 yX6_isSender, .instanceMethod yX6_isSender, .selects RX6 yX6_isSender yX6_isSender, .initialized RX6, .code yX6_isSender cX6_isSender 2 (some .boolean), .methodLink RX6 90 yX6_isIn, .static yX6_isIn, .code yX6_isIn cX6_isIn 3 (some .boolean), .methodLink RX6 94 yX6_holds, .instanceMethod yX6_holds, .selects RX6 yX6_holds yX6_holds, .code yX6_holds cX6_holds 2 (some .boolean), .fieldLink RX6 87 "LogSpoolerModel" "thrown" "I"] ++ wsX60)
def wsX6_drops : List Cond := .code yX6_drops cX6_drops 2 (some .int) :: ([.fieldLink RX6 29 "LogSpoolerModel" "drops" "[I", .methodLink RX6 164 yX6_isSender, .instanceMethod yX6_isSender, .selects RX6 yX6_isSender yX6_isSender, .initialized RX6, .code yX6_isSender cX6_isSender 2 (some .boolean), .methodLink RX6 90 yX6_isIn, .static yX6_isIn, .code yX6_isIn cX6_isIn 3 (some .boolean), .methodLink RX6 94 yX6_holds, .instanceMethod yX6_holds, .selects RX6 yX6_holds yX6_holds, .code yX6_holds cX6_holds 2 (some .boolean), .fieldLink RX6 87 "LogSpoolerModel" "thrown" "I"] ++ wsX60)
def wsX6_size : List Cond := .code yX6_size cX6_size 2 (some .int) :: ([.fieldLink RX6 60 "LogSpoolerModel" "sizes" "[I", .methodLink RX6 98 yX6_isFile, .static yX6_isFile, .initialized RX6, .code yX6_isFile cX6_isFile 1 (some .boolean), .methodLink RX6 90 yX6_isIn, .static yX6_isIn, .code yX6_isIn cX6_isIn 3 (some .boolean), .methodLink RX6 94 yX6_holds, .instanceMethod yX6_holds, .selects RX6 yX6_holds yX6_holds, .code yX6_holds cX6_holds 2 (some .boolean), .fieldLink RX6 87 "LogSpoolerModel" "thrown" "I"] ++ wsX60)
def wsX6_isPart : List Cond := .code yX6_isPart cX6_isPart 3 (some .boolean) :: ([.fieldLink RX6 66 "LogSpoolerModel" "generations" "[I", .methodLink RX6 98 yX6_isFile, .static yX6_isFile, .initialized RX6, .code yX6_isFile cX6_isFile 1 (some .boolean), .methodLink RX6 90 yX6_isIn, .static yX6_isIn, .code yX6_isIn cX6_isIn 3 (some .boolean)] ++ wsX60)
def wsX6_startOf : List Cond := .code yX6_startOf cX6_startOf 3 (some .int) :: ([.fieldLink RX6 69 "LogSpoolerModel" "starts" "[I"] ++ wsX60)
def wsX6_endOf : List Cond := .code yX6_endOf cX6_endOf 3 (some .int) :: ([.fieldLink RX6 63 "LogSpoolerModel" "ends" "[I", .fieldLink RX6 69 "LogSpoolerModel" "starts" "[I"] ++ wsX60)
def wsX6_lines_r1 : List Cond := [Cond.methodLink RX6 167 yX6_isPart, Cond.instanceMethod yX6_isPart, Cond.selects RX6 yX6_isPart yX6_isPart, Cond.initialized RX6, Cond.code yX6_isPart cX6_isPart 3 (some .boolean), Cond.fieldLink RX6 66 "LogSpoolerModel" "generations" "[I", Cond.methodLink RX6 98 yX6_isFile, Cond.static yX6_isFile, Cond.code yX6_isFile cX6_isFile 1 (some .boolean), Cond.methodLink RX6 90 yX6_isIn, Cond.static yX6_isIn, Cond.code yX6_isIn cX6_isIn 3 (some .boolean), Cond.methodLink RX6 94 yX6_holds, Cond.instanceMethod yX6_holds, Cond.selects RX6 yX6_holds yX6_holds, Cond.code yX6_holds cX6_holds 2 (some .boolean), Cond.fieldLink RX6 87 "LogSpoolerModel" "thrown" "I", Cond.methodLink RX6 171 yX6_endOf, Cond.instanceMethod yX6_endOf, Cond.selects RX6 yX6_endOf yX6_endOf, Cond.code yX6_endOf cX6_endOf 3 (some .int), Cond.fieldLink RX6 63 "LogSpoolerModel" "ends" "[I", Cond.fieldLink RX6 69 "LogSpoolerModel" "starts" "[I", Cond.methodLink RX6 174 yX6_startOf]
def wsX6_lines_r2 : List Cond := [Cond.instanceMethod yX6_startOf, Cond.selects RX6 yX6_startOf yX6_startOf, Cond.code yX6_startOf cX6_startOf 3 (some .int)]
def wsX6_lines : List Cond := .code yX6_lines cX6_lines 3 (some .int) :: ((wsX6_lines_r1 ++ wsX6_lines_r2) ++ wsX60)
def wsX6_line_r1 : List Cond := [Cond.fieldLink RX6 72 "LogSpoolerModel" "lines" "[I", Cond.methodLink RX6 167 yX6_isPart, Cond.instanceMethod yX6_isPart, Cond.selects RX6 yX6_isPart yX6_isPart, Cond.initialized RX6, Cond.code yX6_isPart cX6_isPart 3 (some .boolean), Cond.fieldLink RX6 66 "LogSpoolerModel" "generations" "[I", Cond.methodLink RX6 98 yX6_isFile, Cond.static yX6_isFile, Cond.code yX6_isFile cX6_isFile 1 (some .boolean), Cond.methodLink RX6 90 yX6_isIn, Cond.static yX6_isIn, Cond.code yX6_isIn cX6_isIn 3 (some .boolean), Cond.methodLink RX6 171 yX6_endOf, Cond.instanceMethod yX6_endOf, Cond.selects RX6 yX6_endOf yX6_endOf, Cond.code yX6_endOf cX6_endOf 3 (some .int), Cond.fieldLink RX6 63 "LogSpoolerModel" "ends" "[I", Cond.fieldLink RX6 69 "LogSpoolerModel" "starts" "[I", Cond.methodLink RX6 174 yX6_startOf, Cond.instanceMethod yX6_startOf, Cond.selects RX6 yX6_startOf yX6_startOf, Cond.code yX6_startOf cX6_startOf 3 (some .int), Cond.methodLink RX6 94 yX6_holds]
def wsX6_line_r2 : List Cond := [Cond.instanceMethod yX6_holds, Cond.selects RX6 yX6_holds yX6_holds, Cond.code yX6_holds cX6_holds 2 (some .boolean), Cond.fieldLink RX6 87 "LogSpoolerModel" "thrown" "I"]
def wsX6_line : List Cond := .code yX6_line cX6_line 5 (some .int) :: ((wsX6_line_r1 ++ wsX6_line_r2) ++ wsX60)
def wsX6_generations : List Cond := .code yX6_generations cX6_generations 2 (some .int) :: ([.fieldLink RX6 66 "LogSpoolerModel" "generations" "[I", .methodLink RX6 98 yX6_isFile, .static yX6_isFile, .initialized RX6, .code yX6_isFile cX6_isFile 1 (some .boolean), .methodLink RX6 90 yX6_isIn, .static yX6_isIn, .code yX6_isIn cX6_isIn 3 (some .boolean), .methodLink RX6 94 yX6_holds, .instanceMethod yX6_holds, .selects RX6 yX6_holds yX6_holds, .code yX6_holds cX6_holds 2 (some .boolean), .fieldLink RX6 87 "LogSpoolerModel" "thrown" "I"] ++ wsX60)
def wsX6_queued : List Cond := .code yX6_queued cX6_queued 1 (some .int) :: ([.fieldLink RX6 87 "LogSpoolerModel" "thrown" "I", .fieldLink RX6 115 "LogSpoolerModel" "taken" "I", .fieldLink RX6 161 "LogSpoolerModel" "sent" "I"] ++ wsX60)
def wsX6_inFlight : List Cond := .code yX6_inFlight cX6_inFlight 1 (some .int) :: ([.fieldLink RX6 87 "LogSpoolerModel" "thrown" "I", .fieldLink RX6 161 "LogSpoolerModel" "sent" "I", .fieldLink RX6 118 "LogSpoolerModel" "acknowledged" "I"] ++ wsX60)
def wsX6_acknowledged : List Cond := .code yX6_acknowledged cX6_acknowledged 1 (some .int) :: ([.fieldLink RX6 87 "LogSpoolerModel" "thrown" "I", .fieldLink RX6 118 "LogSpoolerModel" "acknowledged" "I"] ++ wsX60)
def wsX6_lost : List Cond := .code yX6_lost cX6_lost 1 (some .int) :: ([.fieldLink RX6 87 "LogSpoolerModel" "thrown" "I", .fieldLink RX6 121 "LogSpoolerModel" "lost" "I"] ++ wsX60)
def wsX6_messages : List Cond := .code yX6_messages cX6_messages 1 (some .int) :: ([.fieldLink RX6 87 "LogSpoolerModel" "thrown" "I", .fieldLink RX6 137 "LogSpoolerModel" "messages" "I"] ++ wsX60)
def wsX6_isMessage : List Cond := .code yX6_isMessage cX6_isMessage 2 (some .boolean) :: ([.fieldLink RX6 137 "LogSpoolerModel" "messages" "I", .methodLink RX6 94 yX6_holds, .instanceMethod yX6_holds, .selects RX6 yX6_holds yX6_holds, .initialized RX6, .code yX6_holds cX6_holds 2 (some .boolean), .fieldLink RX6 87 "LogSpoolerModel" "thrown" "I"] ++ wsX60)
def wsX6_fateOf : List Cond := .code yX6_fateOf cX6_fateOf 2 (some .int) :: ([.fieldLink RX6 81 "LogSpoolerModel" "fates" "[I", .methodLink RX6 177 yX6_isMessage, .instanceMethod yX6_isMessage, .selects RX6 yX6_isMessage yX6_isMessage, .initialized RX6, .code yX6_isMessage cX6_isMessage 2 (some .boolean), .fieldLink RX6 137 "LogSpoolerModel" "messages" "I", .methodLink RX6 94 yX6_holds, .instanceMethod yX6_holds, .selects RX6 yX6_holds yX6_holds, .code yX6_holds cX6_holds 2 (some .boolean), .fieldLink RX6 87 "LogSpoolerModel" "thrown" "I"] ++ wsX60)
def wsX6_count : List Cond := .code yX6_count cX6_count 4 (some .int) :: ([.fieldLink RX6 137 "LogSpoolerModel" "messages" "I", .fieldLink RX6 81 "LogSpoolerModel" "fates" "[I", .methodLink RX6 90 yX6_isIn, .static yX6_isIn, .initialized RX6, .code yX6_isIn cX6_isIn 3 (some .boolean), .methodLink RX6 94 yX6_holds, .instanceMethod yX6_holds, .selects RX6 yX6_holds yX6_holds, .code yX6_holds cX6_holds 2 (some .boolean), .fieldLink RX6 87 "LogSpoolerModel" "thrown" "I"] ++ wsX60)
def wsX6_targetsOf : List Cond := .code yX6_targetsOf cX6_targetsOf 2 (some .int) :: ([.fieldLink RX6 84 "LogSpoolerModel" "wentTo" "[I", .methodLink RX6 177 yX6_isMessage, .instanceMethod yX6_isMessage, .selects RX6 yX6_isMessage yX6_isMessage, .initialized RX6, .code yX6_isMessage cX6_isMessage 2 (some .boolean), .fieldLink RX6 137 "LogSpoolerModel" "messages" "I", .methodLink RX6 94 yX6_holds, .instanceMethod yX6_holds, .selects RX6 yX6_holds yX6_holds, .code yX6_holds cX6_holds 2 (some .boolean), .fieldLink RX6 87 "LogSpoolerModel" "thrown" "I"] ++ wsX60)
def wsL_setRate : List Cond := .codeWith yL_setRate cL_setRate 5 (some .int) [(0, 10, 13, 13)] :: ([.classLink RL 13 "java/lang/IllegalArgumentException", .methodLink RL 7 yX5_setRate, .instanceMethod yX5_setRate, .selects RX5 yX5_setRate yX5_setRate, .initialized RX5, .code yX5_setRate cX5_setRate 5 (some .int), .classLink RX5 63 "java/lang/IllegalArgumentException", .initialized "java/lang/IllegalArgumentException", .fieldLink RX5 45 "LogSpooler" "burst" "I", .fieldLink RX5 48 "LogSpooler" "tokenTime" "I", .fieldLink RX5 11 "LogSpooler" "senders" "[LLogSpooler$Sender;", .methodLink RX5 59 yX5_isWithin, .static yX5_isWithin, .code yX5_isWithin cX5_isWithin 3 (some .boolean), .methodLink RX5 70 yX4_capTokens, .instanceMethod yX4_capTokens, .selects RX4 yX4_capTokens yX4_capTokens, .initialized RX4, .code yX4_capTokens cX4_capTokens 2 none, .fieldLink RX4 36 "LogSpooler$Sender" "tokensLeft" "I"] ++ wsX50 ++ wsX40 ++ (vx_atS RX5 67 "java/lang/IllegalArgumentException" ["java/lang/RuntimeException", "java/lang/Exception"]).filter goodWord)
def wsL_setFold : List Cond := .codeWith yL_setFold cL_setFold 4 (some .int) [(0, 9, 12, 13)] :: ([.classLink RL 13 "java/lang/IllegalArgumentException", .methodLink RL 15 yX5_setFold, .instanceMethod yX5_setFold, .selects RX5 yX5_setFold yX5_setFold, .initialized RX5, .code yX5_setFold cX5_setFold 3 (some .int), .classLink RX5 63 "java/lang/IllegalArgumentException", .initialized "java/lang/IllegalArgumentException", .fieldLink RX5 51 "LogSpooler" "foldTime" "I", .methodLink RX5 59 yX5_isWithin, .static yX5_isWithin, .code yX5_isWithin cX5_isWithin 3 (some .boolean)] ++ wsX50 ++ (vx_atS RX5 67 "java/lang/IllegalArgumentException" ["java/lang/RuntimeException", "java/lang/Exception"]).filter goodWord)
def wsL_setRule_r1 : List Cond := [Cond.classLink RL 23 "java/lang/IndexOutOfBoundsException", Cond.classLink RL 13 "java/lang/IllegalArgumentException", Cond.methodLink RL 19 yX5_setRule, Cond.instanceMethod yX5_setRule, Cond.selects RX5 yX5_setRule yX5_setRule, Cond.initialized RX5, Cond.code yX5_setRule cX5_setRule 7 (some .int), Cond.classLink RX5 80 "java/lang/IndexOutOfBoundsException", Cond.initialized "java/lang/IndexOutOfBoundsException", Cond.classLink RX5 63 "java/lang/IllegalArgumentException", Cond.initialized "java/lang/IllegalArgumentException", Cond.methodLink RX5 76 yX5_ruleAt, Cond.instanceMethod yX5_ruleAt, Cond.selects RX5 yX5_ruleAt yX5_ruleAt, Cond.code yX5_ruleAt cX5_ruleAt 2 (some (.object "LogSpooler$Rule")), Cond.fieldLink RX5 17 "LogSpooler" "rules" "[LLogSpooler$Rule;", Cond.methodLink RX5 59 yX5_isWithin, Cond.static yX5_isWithin, Cond.code yX5_isWithin cX5_isWithin 3 (some .boolean), Cond.methodLink RX5 87 yX3_put, Cond.instanceMethod yX3_put, Cond.selects RX3 yX3_put yX3_put, Cond.initialized RX3, Cond.code yX3_put cX3_put 5 none]
def wsL_setRule_r2 : List Cond := [Cond.fieldLink RX3 9 "LogSpooler$Rule" "isSet" "Z", Cond.fieldLink RX3 15 "LogSpooler$Rule" "facilities" "I", Cond.fieldLink RX3 19 "LogSpooler$Rule" "severity" "I", Cond.fieldLink RX3 22 "LogSpooler$Rule" "sender" "I", Cond.fieldLink RX3 25 "LogSpooler$Rule" "target" "I", Cond.methodLink RX5 91 yX5_rulesThatAreSet, Cond.instanceMethod yX5_rulesThatAreSet, Cond.selects RX5 yX5_rulesThatAreSet yX5_rulesThatAreSet, Cond.code yX5_rulesThatAreSet cX5_rulesThatAreSet 3 (some .int), Cond.fieldLink RX5 95 "LogSpooler$Rule" "isSet" "Z"]
def wsL_setRule : List Cond := .codeWith yL_setRule cL_setRule 8 (some .int) [(0, 16, 19, 23), (0, 16, 23, 13)] :: ((wsL_setRule_r1 ++ wsL_setRule_r2) ++ wsX50 ++ wsX30 ++ (vx_atS RX5 84 "java/lang/IndexOutOfBoundsException" ["java/lang/RuntimeException", "java/lang/Exception"]).filter goodWord ++ (vx_atS RX5 67 "java/lang/IllegalArgumentException" ["java/lang/RuntimeException", "java/lang/Exception"]).filter goodWord)
def wsL_removeRule : List Cond := .codeWith yL_removeRule cL_removeRule 4 (some .int) [(0, 16, 19, 23)] :: ([.classLink RL 23 "java/lang/IndexOutOfBoundsException", .methodLink RL 25 yX5_removeRule, .instanceMethod yX5_removeRule, .selects RX5 yX5_removeRule yX5_removeRule, .initialized RX5, .code yX5_removeRule cX5_removeRule 4 (some .boolean), .fieldLink RX5 95 "LogSpooler$Rule" "isSet" "Z", .methodLink RX5 76 yX5_ruleAt, .instanceMethod yX5_ruleAt, .selects RX5 yX5_ruleAt yX5_ruleAt, .code yX5_ruleAt cX5_ruleAt 2 (some (.object "LogSpooler$Rule")), .classLink RX5 80 "java/lang/IndexOutOfBoundsException", .initialized "java/lang/IndexOutOfBoundsException", .fieldLink RX5 17 "LogSpooler" "rules" "[LLogSpooler$Rule;"] ++ wsX30 ++ wsX50 ++ (vx_atS RX5 84 "java/lang/IndexOutOfBoundsException" ["java/lang/RuntimeException", "java/lang/Exception"]).filter goodWord)
def wsL_setFile_r1 : List Cond := [Cond.classLink RL 23 "java/lang/IndexOutOfBoundsException", Cond.classLink RL 13 "java/lang/IllegalArgumentException", Cond.methodLink RL 29 yX5_setFile, Cond.instanceMethod yX5_setFile, Cond.selects RX5 yX5_setFile yX5_setFile, Cond.initialized RX5, Cond.code yX5_setFile cX5_setFile 6 (some .int), Cond.classLink RX5 63 "java/lang/IllegalArgumentException", Cond.initialized "java/lang/IllegalArgumentException", Cond.fieldLink RX5 109 "LogSpooler$LogFile" "sumOfLengths" "I", Cond.methodLink RX5 99 yX5_fileAt, Cond.instanceMethod yX5_fileAt, Cond.selects RX5 yX5_fileAt yX5_fileAt, Cond.code yX5_fileAt cX5_fileAt 2 (some (.object "LogSpooler$LogFile")), Cond.classLink RX5 80 "java/lang/IndexOutOfBoundsException", Cond.initialized "java/lang/IndexOutOfBoundsException", Cond.fieldLink RX5 23 "LogSpooler" "files" "[LLogSpooler$LogFile;", Cond.methodLink RX5 59 yX5_isWithin, Cond.static yX5_isWithin, Cond.code yX5_isWithin cX5_isWithin 3 (some .boolean), Cond.methodLink RX5 105 yX2_limit, Cond.instanceMethod yX2_limit, Cond.selects RX2 yX2_limit yX2_limit, Cond.initialized RX2]
def wsL_setFile_r2 : List Cond := [Cond.code yX2_limit cX2_limit 4 none, Cond.fieldLink RX2 22 "LogSpooler$LogFile" "greatestSize" "I", Cond.fieldLink RX2 25 "LogSpooler$LogFile" "age" "I", Cond.fieldLink RX2 28 "LogSpooler$LogFile" "kept" "I", Cond.fieldLink RX2 37 "LogSpooler$LogFile" "olderOnes" "I"]
def wsL_setFile : List Cond := .codeWith yL_setFile cL_setFile 7 (some .int) [(0, 14, 17, 23), (0, 14, 21, 13)] :: ((wsL_setFile_r1 ++ wsL_setFile_r2) ++ wsX20 ++ wsX50 ++ (vx_atS RX5 67 "java/lang/IllegalArgumentException" ["java/lang/RuntimeException", "java/lang/Exception"]).filter goodWord ++ (vx_atS RX5 84 "java/lang/IndexOutOfBoundsException" ["java/lang/RuntimeException", "java/lang/Exception"]).filter goodWord)
def wsL_message_r1 : List Cond := [Cond.classLink RL 23 "java/lang/IndexOutOfBoundsException", Cond.classLink RL 13 "java/lang/IllegalArgumentException", Cond.classLink RL 36 "java/lang/IllegalStateException", Cond.methodLink RL 33 yX5_message, Cond.instanceMethod yX5_message, Cond.selects RX5 yX5_message yX5_message, Cond.initialized RX5, Cond.code yX5_message cX5_message 8 (some .int), Cond.classLink RX5 63 "java/lang/IllegalArgumentException", Cond.initialized "java/lang/IllegalArgumentException", Cond.classLink RX5 122 "java/lang/IllegalStateException", Cond.initialized "java/lang/IllegalStateException", Cond.fieldLink RX5 37 "LogSpooler" "ledger" "LLogSpooler$Ledger;", Cond.fieldLink RX5 51 "LogSpooler" "foldTime" "I", Cond.fieldLink RX5 41 "LogSpooler" "now" "I", Cond.fieldLink RX5 142 "LogSpooler$Sender" "tokensLeft" "I", Cond.fieldLink RX5 145 "LogSpooler$Sender" "untoldDrops" "I", Cond.fieldLink RX5 154 "LogSpooler$Ledger" "entries" "I", Cond.methodLink RX5 112 yX5_senderAt, Cond.instanceMethod yX5_senderAt, Cond.selects RX5 yX5_senderAt yX5_senderAt, Cond.code yX5_senderAt cX5_senderAt 2 (some (.object "LogSpooler$Sender")), Cond.classLink RX5 80 "java/lang/IndexOutOfBoundsException", Cond.initialized "java/lang/IndexOutOfBoundsException"]
def wsL_message_r2 : List Cond := [Cond.fieldLink RX5 11 "LogSpooler" "senders" "[LLogSpooler$Sender;", Cond.methodLink RX5 59 yX5_isWithin, Cond.static yX5_isWithin, Cond.code yX5_isWithin cX5_isWithin 3 (some .boolean), Cond.methodLink RX5 118 yX1_isFull, Cond.instanceMethod yX1_isFull, Cond.selects RX1 yX1_isFull yX1_isFull, Cond.initialized RX1, Cond.code yX1_isFull cX1_isFull 1 (some .boolean), Cond.fieldLink RX1 18 "LogSpooler$Ledger" "entries" "I", Cond.methodLink RX5 127 yX4_lastIs, Cond.instanceMethod yX4_lastIs, Cond.selects RX4 yX4_lastIs yX4_lastIs, Cond.initialized RX4, Cond.code yX4_lastIs cX4_lastIs 5 (some .boolean), Cond.fieldLink RX4 21 "LogSpooler$Sender" "lastFacility" "I", Cond.fieldLink RX4 24 "LogSpooler$Sender" "lastSeverity" "I", Cond.fieldLink RX4 27 "LogSpooler$Sender" "lastText" "I", Cond.fieldLink RX4 30 "LogSpooler$Sender" "lastLength" "I", Cond.methodLink RX5 131 yX4_countRepeat, Cond.instanceMethod yX4_countRepeat, Cond.selects RX4 yX4_countRepeat yX4_countRepeat, Cond.code yX4_countRepeat cX4_countRepeat 2 none, Cond.fieldLink RX4 9 "LogSpooler$Sender" "untoldRepeats" "I"]
def wsL_message_r3 : List Cond := [Cond.fieldLink RX4 15 "LogSpooler$Sender" "firstRepeat" "I", Cond.methodLink RX5 134 yX1_enter, Cond.instanceMethod yX1_enter, Cond.selects RX1 yX1_enter yX1_enter, Cond.code yX1_enter cX1_enter 3 (some .int), Cond.fieldLink RX1 9 "LogSpooler$Ledger" "fates" "[I", Cond.fieldLink RX1 15 "LogSpooler$Ledger" "targetSets" "[I", Cond.methodLink RX5 138 yX5_tellRepeats, Cond.instanceMethod yX5_tellRepeats, Cond.selects RX5 yX5_tellRepeats yX5_tellRepeats, Cond.code yX5_tellRepeats cX5_tellRepeats 3 none, Cond.fieldLink RX5 207 "LogSpooler$Sender" "untoldRepeats" "I", Cond.fieldLink RX5 251 "LogSpooler$Sender" "number" "I", Cond.fieldLink RX5 254 "LogSpooler$Sender" "lastFacility" "I", Cond.fieldLink RX5 257 "LogSpooler$Sender" "lastSeverity" "I", Cond.methodLink RX5 157 yX5_route, Cond.instanceMethod yX5_route, Cond.selects RX5 yX5_route yX5_route, Cond.code yX5_route cX5_route 10 (some .int), Cond.fieldLink RX5 17 "LogSpooler" "rules" "[LLogSpooler$Rule;", Cond.fieldLink RX5 261 "LogSpooler$Rule" "target" "I", Cond.fieldLink RX5 23 "LogSpooler" "files" "[LLogSpooler$LogFile;", Cond.fieldLink RX5 30 "LogSpooler" "forwarder" "LLogSpooler$Forwarder;", Cond.methodLink RX5 264 yX3_fits]
def wsL_message_r4 : List Cond := [Cond.instanceMethod yX3_fits, Cond.selects RX3 yX3_fits yX3_fits, Cond.initialized RX3, Cond.code yX3_fits cX3_fits 4 (some .boolean), Cond.fieldLink RX3 9 "LogSpooler$Rule" "isSet" "Z", Cond.fieldLink RX3 15 "LogSpooler$Rule" "facilities" "I", Cond.fieldLink RX3 19 "LogSpooler$Rule" "severity" "I", Cond.fieldLink RX3 22 "LogSpooler$Rule" "sender" "I", Cond.methodLink RX5 267 yX2_add, Cond.instanceMethod yX2_add, Cond.selects RX2 yX2_add yX2_add, Cond.initialized RX2, Cond.code yX2_add cX2_add 4 none, Cond.fieldLink RX2 34 "LogSpooler$LogFile" "sumOfLengths" "I", Cond.fieldLink RX2 22 "LogSpooler$LogFile" "greatestSize" "I", Cond.fieldLink RX2 31 "LogSpooler$LogFile" "firstCame" "I", Cond.fieldLink RX2 18 "LogSpooler$LogFile" "end" "I", Cond.fieldLink RX2 9 "LogSpooler$LogFile" "row" "[I", Cond.methodLink RX2 43 yX2_isEmpty, Cond.instanceMethod yX2_isEmpty, Cond.selects RX2 yX2_isEmpty yX2_isEmpty, Cond.code yX2_isEmpty cX2_isEmpty 1 (some .boolean), Cond.fieldLink RX2 15 "LogSpooler$LogFile" "starts" "[I", Cond.methodLink RX2 47 yX2_turnOver]
def wsL_message_r5 : List Cond := [Cond.instanceMethod yX2_turnOver, Cond.selects RX2 yX2_turnOver yX2_turnOver, Cond.code yX2_turnOver cX2_turnOver 2 none, Cond.fieldLink RX2 40 "LogSpooler$LogFile" "rotations" "I", Cond.fieldLink RX2 37 "LogSpooler$LogFile" "olderOnes" "I", Cond.fieldLink RX2 28 "LogSpooler$LogFile" "kept" "I", Cond.methodLink RX5 270 yX0_take, Cond.instanceMethod yX0_take, Cond.selects RX0 yX0_take yX0_take, Cond.initialized RX0, Cond.code yX0_take cX0_take 2 none, Cond.fieldLink RX0 15 "LogSpooler$Forwarder" "end" "I", Cond.fieldLink RX0 22 "LogSpooler$Forwarder" "acknowledgedOnes" "I", Cond.fieldLink RX0 9 "LogSpooler$Forwarder" "row" "[I", Cond.fieldLink RX0 25 "LogSpooler$Forwarder" "lostOnes" "I", Cond.methodLink RX5 148 yX5_tellDrops, Cond.instanceMethod yX5_tellDrops, Cond.selects RX5 yX5_tellDrops yX5_tellDrops, Cond.code yX5_tellDrops cX5_tellDrops 3 none, Cond.constant RX5 260 (100000), Cond.methodLink RX5 151 yX4_setLast, Cond.instanceMethod yX4_setLast, Cond.selects RX4 yX4_setLast yX4_setLast, Cond.code yX4_setLast cX4_setLast 5 none]
def wsL_message : List Cond := .codeWith yL_message cL_message 8 (some .int) [(0, 16, 19, 23), (0, 16, 23, 13), (0, 16, 27, 36)] :: ((wsL_message_r1 ++ (wsL_message_r2 ++ (wsL_message_r3 ++ (wsL_message_r4 ++ wsL_message_r5)))) ++ wsX50 ++ wsX40 ++ wsX10 ++ wsX30 ++ wsX20 ++ wsX00 ++ (vx_atS RX5 67 "java/lang/IllegalArgumentException" ["java/lang/RuntimeException", "java/lang/Exception"]).filter goodWord ++ (vx_atS RX5 126 "java/lang/IllegalStateException" ["java/lang/RuntimeException", "java/lang/Exception"]).filter goodWord ++ (vx_atS RX5 84 "java/lang/IndexOutOfBoundsException" ["java/lang/RuntimeException", "java/lang/Exception"]).filter goodWord)
def wsL_pass_r1 : List Cond := [Cond.classLink RL 13 "java/lang/IllegalArgumentException", Cond.methodLink RL 38 yX5_pass, Cond.instanceMethod yX5_pass, Cond.selects RX5 yX5_pass yX5_pass, Cond.initialized RX5, Cond.code yX5_pass cX5_pass 4 (some .int), Cond.classLink RX5 63 "java/lang/IllegalArgumentException", Cond.initialized "java/lang/IllegalArgumentException", Cond.methodLink RX5 59 yX5_isWithin, Cond.static yX5_isWithin, Cond.code yX5_isWithin cX5_isWithin 3 (some .boolean), Cond.methodLink RX5 161 yX5_rotationsOfAllFiles, Cond.instanceMethod yX5_rotationsOfAllFiles, Cond.selects RX5 yX5_rotationsOfAllFiles yX5_rotationsOfAllFiles, Cond.code yX5_rotationsOfAllFiles cX5_rotationsOfAllFiles 3 (some .int), Cond.fieldLink RX5 23 "LogSpooler" "files" "[LLogSpooler$LogFile;", Cond.fieldLink RX5 295 "LogSpooler$LogFile" "rotations" "I", Cond.methodLink RX5 164 yX5_passOneSecond, Cond.instanceMethod yX5_passOneSecond, Cond.selects RX5 yX5_passOneSecond yX5_passOneSecond, Cond.code yX5_passOneSecond cX5_passOneSecond 1 none, Cond.fieldLink RX5 41 "LogSpooler" "now" "I", Cond.fieldLink RX5 48 "LogSpooler" "tokenTime" "I", Cond.methodLink RX5 273 yX5_giveTokens]
def wsL_pass_r2 : List Cond := [Cond.instanceMethod yX5_giveTokens, Cond.selects RX5 yX5_giveTokens yX5_giveTokens, Cond.code yX5_giveTokens cX5_giveTokens 2 none, Cond.fieldLink RX5 11 "LogSpooler" "senders" "[LLogSpooler$Sender;", Cond.fieldLink RX5 45 "LogSpooler" "burst" "I", Cond.methodLink RX5 282 yX4_gainToken, Cond.instanceMethod yX4_gainToken, Cond.selects RX4 yX4_gainToken yX4_gainToken, Cond.initialized RX4, Cond.code yX4_gainToken cX4_gainToken 2 none, Cond.fieldLink RX4 36 "LogSpooler$Sender" "tokensLeft" "I", Cond.methodLink RX5 276 yX5_tellDueRepeats, Cond.instanceMethod yX5_tellDueRepeats, Cond.selects RX5 yX5_tellDueRepeats yX5_tellDueRepeats, Cond.code yX5_tellDueRepeats cX5_tellDueRepeats 3 none, Cond.methodLink RX5 285 yX5_firstWithDueRepeats, Cond.instanceMethod yX5_firstWithDueRepeats, Cond.selects RX5 yX5_firstWithDueRepeats yX5_firstWithDueRepeats, Cond.code yX5_firstWithDueRepeats cX5_firstWithDueRepeats 5 (some (.object "LogSpooler$Sender")), Cond.fieldLink RX5 207 "LogSpooler$Sender" "untoldRepeats" "I", Cond.fieldLink RX5 289 "LogSpooler$Sender" "firstRepeat" "I", Cond.fieldLink RX5 51 "LogSpooler" "foldTime" "I", Cond.methodLink RX5 138 yX5_tellRepeats, Cond.instanceMethod yX5_tellRepeats]
def wsL_pass_r3 : List Cond := [Cond.selects RX5 yX5_tellRepeats yX5_tellRepeats, Cond.code yX5_tellRepeats cX5_tellRepeats 3 none, Cond.fieldLink RX5 251 "LogSpooler$Sender" "number" "I", Cond.fieldLink RX5 254 "LogSpooler$Sender" "lastFacility" "I", Cond.fieldLink RX5 257 "LogSpooler$Sender" "lastSeverity" "I", Cond.methodLink RX5 157 yX5_route, Cond.instanceMethod yX5_route, Cond.selects RX5 yX5_route yX5_route, Cond.code yX5_route cX5_route 10 (some .int), Cond.fieldLink RX5 17 "LogSpooler" "rules" "[LLogSpooler$Rule;", Cond.fieldLink RX5 261 "LogSpooler$Rule" "target" "I", Cond.fieldLink RX5 30 "LogSpooler" "forwarder" "LLogSpooler$Forwarder;", Cond.methodLink RX5 264 yX3_fits, Cond.instanceMethod yX3_fits, Cond.selects RX3 yX3_fits yX3_fits, Cond.initialized RX3, Cond.code yX3_fits cX3_fits 4 (some .boolean), Cond.fieldLink RX3 9 "LogSpooler$Rule" "isSet" "Z", Cond.fieldLink RX3 15 "LogSpooler$Rule" "facilities" "I", Cond.fieldLink RX3 19 "LogSpooler$Rule" "severity" "I", Cond.fieldLink RX3 22 "LogSpooler$Rule" "sender" "I", Cond.methodLink RX5 267 yX2_add, Cond.instanceMethod yX2_add, Cond.selects RX2 yX2_add yX2_add]
def wsL_pass_r4 : List Cond := [Cond.initialized RX2, Cond.code yX2_add cX2_add 4 none, Cond.fieldLink RX2 34 "LogSpooler$LogFile" "sumOfLengths" "I", Cond.fieldLink RX2 22 "LogSpooler$LogFile" "greatestSize" "I", Cond.fieldLink RX2 31 "LogSpooler$LogFile" "firstCame" "I", Cond.fieldLink RX2 18 "LogSpooler$LogFile" "end" "I", Cond.fieldLink RX2 9 "LogSpooler$LogFile" "row" "[I", Cond.methodLink RX2 43 yX2_isEmpty, Cond.instanceMethod yX2_isEmpty, Cond.selects RX2 yX2_isEmpty yX2_isEmpty, Cond.code yX2_isEmpty cX2_isEmpty 1 (some .boolean), Cond.fieldLink RX2 15 "LogSpooler$LogFile" "starts" "[I", Cond.methodLink RX2 47 yX2_turnOver, Cond.instanceMethod yX2_turnOver, Cond.selects RX2 yX2_turnOver yX2_turnOver, Cond.code yX2_turnOver cX2_turnOver 2 none, Cond.fieldLink RX2 40 "LogSpooler$LogFile" "rotations" "I", Cond.fieldLink RX2 37 "LogSpooler$LogFile" "olderOnes" "I", Cond.fieldLink RX2 28 "LogSpooler$LogFile" "kept" "I", Cond.methodLink RX5 270 yX0_take, Cond.instanceMethod yX0_take, Cond.selects RX0 yX0_take yX0_take, Cond.initialized RX0, Cond.code yX0_take cX0_take 2 none]
def wsL_pass_r5 : List Cond := [Cond.fieldLink RX0 15 "LogSpooler$Forwarder" "end" "I", Cond.fieldLink RX0 22 "LogSpooler$Forwarder" "acknowledgedOnes" "I", Cond.fieldLink RX0 9 "LogSpooler$Forwarder" "row" "[I", Cond.fieldLink RX0 25 "LogSpooler$Forwarder" "lostOnes" "I", Cond.methodLink RX5 279 yX5_rotateAgedFiles, Cond.instanceMethod yX5_rotateAgedFiles, Cond.selects RX5 yX5_rotateAgedFiles yX5_rotateAgedFiles, Cond.code yX5_rotateAgedFiles cX5_rotateAgedFiles 2 none, Cond.methodLink RX5 292 yX2_isAged, Cond.instanceMethod yX2_isAged, Cond.selects RX2 yX2_isAged yX2_isAged, Cond.code yX2_isAged cX2_isAged 2 (some .boolean), Cond.fieldLink RX2 25 "LogSpooler$LogFile" "age" "I", Cond.methodLink RX5 172 yX2_turnOver]
def wsL_pass : List Cond := .codeWith yL_pass cL_pass 4 (some .int) [(0, 9, 12, 13)] :: ((wsL_pass_r1 ++ (wsL_pass_r2 ++ (wsL_pass_r3 ++ (wsL_pass_r4 ++ wsL_pass_r5)))) ++ wsX50 ++ wsX20 ++ wsX40 ++ wsX30 ++ wsX00 ++ (vx_atS RX5 67 "java/lang/IllegalArgumentException" ["java/lang/RuntimeException", "java/lang/Exception"]).filter goodWord)
def wsL_rotate_r1 : List Cond := [Cond.classLink RL 23 "java/lang/IndexOutOfBoundsException", Cond.classLink RL 36 "java/lang/IllegalStateException", Cond.methodLink RL 41 yX5_rotate, Cond.instanceMethod yX5_rotate, Cond.selects RX5 yX5_rotate yX5_rotate, Cond.initialized RX5, Cond.code yX5_rotate cX5_rotate 3 (some .int), Cond.classLink RX5 122 "java/lang/IllegalStateException", Cond.initialized "java/lang/IllegalStateException", Cond.fieldLink RX5 175 "LogSpooler$LogFile" "olderOnes" "I", Cond.methodLink RX5 99 yX5_fileAt, Cond.instanceMethod yX5_fileAt, Cond.selects RX5 yX5_fileAt yX5_fileAt, Cond.code yX5_fileAt cX5_fileAt 2 (some (.object "LogSpooler$LogFile")), Cond.classLink RX5 80 "java/lang/IndexOutOfBoundsException", Cond.initialized "java/lang/IndexOutOfBoundsException", Cond.fieldLink RX5 23 "LogSpooler" "files" "[LLogSpooler$LogFile;", Cond.methodLink RX5 167 yX2_isEmpty, Cond.instanceMethod yX2_isEmpty, Cond.selects RX2 yX2_isEmpty yX2_isEmpty, Cond.initialized RX2, Cond.code yX2_isEmpty cX2_isEmpty 1 (some .boolean), Cond.fieldLink RX2 18 "LogSpooler$LogFile" "end" "I", Cond.fieldLink RX2 15 "LogSpooler$LogFile" "starts" "[I"]
def wsL_rotate_r2 : List Cond := [Cond.methodLink RX5 172 yX2_turnOver, Cond.instanceMethod yX2_turnOver, Cond.selects RX2 yX2_turnOver yX2_turnOver, Cond.code yX2_turnOver cX2_turnOver 2 none, Cond.fieldLink RX2 34 "LogSpooler$LogFile" "sumOfLengths" "I", Cond.fieldLink RX2 40 "LogSpooler$LogFile" "rotations" "I", Cond.fieldLink RX2 37 "LogSpooler$LogFile" "olderOnes" "I", Cond.fieldLink RX2 28 "LogSpooler$LogFile" "kept" "I"]
def wsL_rotate : List Cond := .codeWith yL_rotate cL_rotate 4 (some .int) [(0, 9, 12, 23), (0, 9, 15, 36)] :: ((wsL_rotate_r1 ++ wsL_rotate_r2) ++ wsX20 ++ wsX50 ++ (vx_atS RX5 126 "java/lang/IllegalStateException" ["java/lang/RuntimeException", "java/lang/Exception"]).filter goodWord ++ (vx_atS RX5 84 "java/lang/IndexOutOfBoundsException" ["java/lang/RuntimeException", "java/lang/Exception"]).filter goodWord)
def wsL_connect : List Cond := .codeWith yL_connect cL_connect 3 (some .int) [(0, 8, 11, 36)] :: ([.classLink RL 36 "java/lang/IllegalStateException", .methodLink RL 44 yX5_connect, .instanceMethod yX5_connect, .selects RX5 yX5_connect yX5_connect, .initialized RX5, .code yX5_connect cX5_connect 1 (some .int), .classLink RX5 122 "java/lang/IllegalStateException", .initialized "java/lang/IllegalStateException", .fieldLink RX5 30 "LogSpooler" "forwarder" "LLogSpooler$Forwarder;", .fieldLink RX5 178 "LogSpooler$Forwarder" "isConnected" "Z", .methodLink RX5 183 yX0_waiting, .instanceMethod yX0_waiting, .selects RX0 yX0_waiting yX0_waiting, .initialized RX0, .code yX0_waiting cX0_waiting 1 (some .int), .fieldLink RX0 15 "LogSpooler$Forwarder" "end" "I", .fieldLink RX0 19 "LogSpooler$Forwarder" "firstQueued" "I"] ++ wsX50 ++ wsX00 ++ (vx_atS RX5 126 "java/lang/IllegalStateException" ["java/lang/RuntimeException", "java/lang/Exception"]).filter goodWord)
def wsL_disconnect : List Cond := .codeWith yL_disconnect cL_disconnect 3 (some .int) [(0, 8, 11, 36)] :: ([.classLink RL 36 "java/lang/IllegalStateException", .methodLink RL 48 yX5_disconnect, .instanceMethod yX5_disconnect, .selects RX5 yX5_disconnect yX5_disconnect, .initialized RX5, .code yX5_disconnect cX5_disconnect 2 (some .int), .classLink RX5 122 "java/lang/IllegalStateException", .initialized "java/lang/IllegalStateException", .fieldLink RX5 30 "LogSpooler" "forwarder" "LLogSpooler$Forwarder;", .fieldLink RX5 178 "LogSpooler$Forwarder" "isConnected" "Z", .methodLink RX5 188 yX0_flying, .instanceMethod yX0_flying, .selects RX0 yX0_flying yX0_flying, .initialized RX0, .code yX0_flying cX0_flying 1 (some .int), .fieldLink RX0 19 "LogSpooler$Forwarder" "firstQueued" "I", .fieldLink RX0 22 "LogSpooler$Forwarder" "acknowledgedOnes" "I", .methodLink RX5 191 yX0_loseConnection, .instanceMethod yX0_loseConnection, .selects RX0 yX0_loseConnection yX0_loseConnection, .code yX0_loseConnection cX0_loseConnection 1 none, .fieldLink RX0 28 "LogSpooler$Forwarder" "isConnected" "Z"] ++ wsX50 ++ wsX00 ++ (vx_atS RX5 126 "java/lang/IllegalStateException" ["java/lang/RuntimeException", "java/lang/Exception"]).filter goodWord)
def wsL_send_r1 : List Cond := [Cond.classLink RL 36 "java/lang/IllegalStateException", Cond.methodLink RL 51 yX5_send, Cond.instanceMethod yX5_send, Cond.selects RX5 yX5_send yX5_send, Cond.initialized RX5, Cond.code yX5_send cX5_send 1 (some .int), Cond.classLink RX5 122 "java/lang/IllegalStateException", Cond.initialized "java/lang/IllegalStateException", Cond.fieldLink RX5 30 "LogSpooler" "forwarder" "LLogSpooler$Forwarder;", Cond.methodLink RX5 194 yX0_canSend, Cond.instanceMethod yX0_canSend, Cond.selects RX0 yX0_canSend yX0_canSend, Cond.initialized RX0, Cond.code yX0_canSend cX0_canSend 1 (some .boolean), Cond.fieldLink RX0 28 "LogSpooler$Forwarder" "isConnected" "Z", Cond.methodLink RX0 32 yX0_waiting, Cond.instanceMethod yX0_waiting, Cond.selects RX0 yX0_waiting yX0_waiting, Cond.code yX0_waiting cX0_waiting 1 (some .int), Cond.fieldLink RX0 15 "LogSpooler$Forwarder" "end" "I", Cond.fieldLink RX0 19 "LogSpooler$Forwarder" "firstQueued" "I", Cond.methodLink RX0 36 yX0_flying, Cond.instanceMethod yX0_flying, Cond.selects RX0 yX0_flying yX0_flying]
def wsL_send_r2 : List Cond := [Cond.code yX0_flying cX0_flying 1 (some .int), Cond.fieldLink RX0 22 "LogSpooler$Forwarder" "acknowledgedOnes" "I", Cond.methodLink RX5 199 yX0_sendFirst, Cond.instanceMethod yX0_sendFirst, Cond.selects RX0 yX0_sendFirst yX0_sendFirst, Cond.code yX0_sendFirst cX0_sendFirst 2 (some .int), Cond.methodLink RX0 39 yX0_lineAt, Cond.instanceMethod yX0_lineAt, Cond.selects RX0 yX0_lineAt yX0_lineAt, Cond.code yX0_lineAt cX0_lineAt 2 (some .int), Cond.fieldLink RX0 9 "LogSpooler$Forwarder" "row" "[I"]
def wsL_send : List Cond := .codeWith yL_send cL_send 3 (some .int) [(0, 8, 11, 36)] :: ((wsL_send_r1 ++ wsL_send_r2) ++ wsX50 ++ wsX00 ++ (vx_atS RX5 126 "java/lang/IllegalStateException" ["java/lang/RuntimeException", "java/lang/Exception"]).filter goodWord)
def wsL_acknowledge_r1 : List Cond := [Cond.classLink RL 36 "java/lang/IllegalStateException", Cond.methodLink RL 54 yX5_acknowledge, Cond.instanceMethod yX5_acknowledge, Cond.selects RX5 yX5_acknowledge yX5_acknowledge, Cond.initialized RX5, Cond.code yX5_acknowledge cX5_acknowledge 1 (some .int), Cond.classLink RX5 122 "java/lang/IllegalStateException", Cond.initialized "java/lang/IllegalStateException", Cond.fieldLink RX5 30 "LogSpooler" "forwarder" "LLogSpooler$Forwarder;", Cond.methodLink RX5 188 yX0_flying, Cond.instanceMethod yX0_flying, Cond.selects RX0 yX0_flying yX0_flying, Cond.initialized RX0, Cond.code yX0_flying cX0_flying 1 (some .int), Cond.fieldLink RX0 19 "LogSpooler$Forwarder" "firstQueued" "I", Cond.fieldLink RX0 22 "LogSpooler$Forwarder" "acknowledgedOnes" "I", Cond.methodLink RX5 204 yX0_acknowledgeFirst, Cond.instanceMethod yX0_acknowledgeFirst, Cond.selects RX0 yX0_acknowledgeFirst yX0_acknowledgeFirst, Cond.code yX0_acknowledgeFirst cX0_acknowledgeFirst 2 (some .int), Cond.methodLink RX0 39 yX0_lineAt, Cond.instanceMethod yX0_lineAt, Cond.selects RX0 yX0_lineAt yX0_lineAt, Cond.code yX0_lineAt cX0_lineAt 2 (some .int)]
def wsL_acknowledge_r2 : List Cond := [Cond.fieldLink RX0 9 "LogSpooler$Forwarder" "row" "[I"]
def wsL_acknowledge : List Cond := .codeWith yL_acknowledge cL_acknowledge 3 (some .int) [(0, 8, 11, 36)] :: ((wsL_acknowledge_r1 ++ wsL_acknowledge_r2) ++ wsX50 ++ wsX00 ++ (vx_atS RX5 126 "java/lang/IllegalStateException" ["java/lang/RuntimeException", "java/lang/Exception"]).filter goodWord)
def wsL_tokens : List Cond := .codeWith yL_tokens cL_tokens 4 (some .int) [(0, 9, 12, 23)] :: ([.classLink RL 23 "java/lang/IndexOutOfBoundsException", .methodLink RL 57 yX5_tokens, .instanceMethod yX5_tokens, .selects RX5 yX5_tokens yX5_tokens, .initialized RX5, .code yX5_tokens cX5_tokens 2 (some .int), .fieldLink RX5 142 "LogSpooler$Sender" "tokensLeft" "I", .methodLink RX5 112 yX5_senderAt, .instanceMethod yX5_senderAt, .selects RX5 yX5_senderAt yX5_senderAt, .code yX5_senderAt cX5_senderAt 2 (some (.object "LogSpooler$Sender")), .classLink RX5 80 "java/lang/IndexOutOfBoundsException", .initialized "java/lang/IndexOutOfBoundsException", .fieldLink RX5 11 "LogSpooler" "senders" "[LLogSpooler$Sender;"] ++ wsX40 ++ wsX50 ++ (vx_atS RX5 84 "java/lang/IndexOutOfBoundsException" ["java/lang/RuntimeException", "java/lang/Exception"]).filter goodWord)
def wsL_repeats : List Cond := .codeWith yL_repeats cL_repeats 4 (some .int) [(0, 9, 12, 23)] :: ([.classLink RL 23 "java/lang/IndexOutOfBoundsException", .methodLink RL 60 yX5_repeats, .instanceMethod yX5_repeats, .selects RX5 yX5_repeats yX5_repeats, .initialized RX5, .code yX5_repeats cX5_repeats 2 (some .int), .fieldLink RX5 207 "LogSpooler$Sender" "untoldRepeats" "I", .methodLink RX5 112 yX5_senderAt, .instanceMethod yX5_senderAt, .selects RX5 yX5_senderAt yX5_senderAt, .code yX5_senderAt cX5_senderAt 2 (some (.object "LogSpooler$Sender")), .classLink RX5 80 "java/lang/IndexOutOfBoundsException", .initialized "java/lang/IndexOutOfBoundsException", .fieldLink RX5 11 "LogSpooler" "senders" "[LLogSpooler$Sender;"] ++ wsX40 ++ wsX50 ++ (vx_atS RX5 84 "java/lang/IndexOutOfBoundsException" ["java/lang/RuntimeException", "java/lang/Exception"]).filter goodWord)
def wsL_drops : List Cond := .codeWith yL_drops cL_drops 4 (some .int) [(0, 9, 12, 23)] :: ([.classLink RL 23 "java/lang/IndexOutOfBoundsException", .methodLink RL 63 yX5_drops, .instanceMethod yX5_drops, .selects RX5 yX5_drops yX5_drops, .initialized RX5, .code yX5_drops cX5_drops 2 (some .int), .fieldLink RX5 145 "LogSpooler$Sender" "untoldDrops" "I", .methodLink RX5 112 yX5_senderAt, .instanceMethod yX5_senderAt, .selects RX5 yX5_senderAt yX5_senderAt, .code yX5_senderAt cX5_senderAt 2 (some (.object "LogSpooler$Sender")), .classLink RX5 80 "java/lang/IndexOutOfBoundsException", .initialized "java/lang/IndexOutOfBoundsException", .fieldLink RX5 11 "LogSpooler" "senders" "[LLogSpooler$Sender;"] ++ wsX40 ++ wsX50 ++ (vx_atS RX5 84 "java/lang/IndexOutOfBoundsException" ["java/lang/RuntimeException", "java/lang/Exception"]).filter goodWord)
def wsL_size : List Cond := .codeWith yL_size cL_size 4 (some .int) [(0, 9, 12, 23)] :: ([.classLink RL 23 "java/lang/IndexOutOfBoundsException", .methodLink RL 66 yX5_size, .instanceMethod yX5_size, .selects RX5 yX5_size yX5_size, .initialized RX5, .code yX5_size cX5_size 2 (some .int), .fieldLink RX5 109 "LogSpooler$LogFile" "sumOfLengths" "I", .methodLink RX5 99 yX5_fileAt, .instanceMethod yX5_fileAt, .selects RX5 yX5_fileAt yX5_fileAt, .code yX5_fileAt cX5_fileAt 2 (some (.object "LogSpooler$LogFile")), .classLink RX5 80 "java/lang/IndexOutOfBoundsException", .initialized "java/lang/IndexOutOfBoundsException", .fieldLink RX5 23 "LogSpooler" "files" "[LLogSpooler$LogFile;"] ++ wsX20 ++ wsX50 ++ (vx_atS RX5 84 "java/lang/IndexOutOfBoundsException" ["java/lang/RuntimeException", "java/lang/Exception"]).filter goodWord)
def wsL_lines_r1 : List Cond := [Cond.classLink RL 23 "java/lang/IndexOutOfBoundsException", Cond.methodLink RL 69 yX5_lines, Cond.instanceMethod yX5_lines, Cond.selects RX5 yX5_lines yX5_lines, Cond.initialized RX5, Cond.code yX5_lines cX5_lines 4 (some .int), Cond.classLink RX5 80 "java/lang/IndexOutOfBoundsException", Cond.initialized "java/lang/IndexOutOfBoundsException", Cond.methodLink RX5 99 yX5_fileAt, Cond.instanceMethod yX5_fileAt, Cond.selects RX5 yX5_fileAt yX5_fileAt, Cond.code yX5_fileAt cX5_fileAt 2 (some (.object "LogSpooler$LogFile")), Cond.fieldLink RX5 23 "LogSpooler" "files" "[LLogSpooler$LogFile;", Cond.methodLink RX5 210 yX2_has, Cond.instanceMethod yX2_has, Cond.selects RX2 yX2_has yX2_has, Cond.initialized RX2, Cond.code yX2_has cX2_has 2 (some .boolean), Cond.fieldLink RX2 37 "LogSpooler$LogFile" "olderOnes" "I", Cond.methodLink RX5 216 yX2_linesOf, Cond.instanceMethod yX2_linesOf, Cond.selects RX2 yX2_linesOf yX2_linesOf, Cond.code yX2_linesOf cX2_linesOf 3 (some .int), Cond.fieldLink RX2 18 "LogSpooler$LogFile" "end" "I"]
def wsL_lines_r2 : List Cond := [Cond.methodLink RX2 50 yX2_startOf, Cond.instanceMethod yX2_startOf, Cond.selects RX2 yX2_startOf yX2_startOf, Cond.code yX2_startOf cX2_startOf 3 (some .int), Cond.fieldLink RX2 15 "LogSpooler$LogFile" "starts" "[I"]
def wsL_lines : List Cond := .codeWith yL_lines cL_lines 5 (some .int) [(0, 10, 13, 23)] :: ((wsL_lines_r1 ++ wsL_lines_r2) ++ wsX50 ++ wsX20 ++ (vx_atS RX5 84 "java/lang/IndexOutOfBoundsException" ["java/lang/RuntimeException", "java/lang/Exception"]).filter goodWord)
def wsL_line_r1 : List Cond := [Cond.classLink RL 23 "java/lang/IndexOutOfBoundsException", Cond.methodLink RL 72 yX5_line, Cond.instanceMethod yX5_line, Cond.selects RX5 yX5_line yX5_line, Cond.initialized RX5, Cond.code yX5_line cX5_line 5 (some .int), Cond.classLink RX5 80 "java/lang/IndexOutOfBoundsException", Cond.initialized "java/lang/IndexOutOfBoundsException", Cond.methodLink RX5 99 yX5_fileAt, Cond.instanceMethod yX5_fileAt, Cond.selects RX5 yX5_fileAt yX5_fileAt, Cond.code yX5_fileAt cX5_fileAt 2 (some (.object "LogSpooler$LogFile")), Cond.fieldLink RX5 23 "LogSpooler" "files" "[LLogSpooler$LogFile;", Cond.methodLink RX5 210 yX2_has, Cond.instanceMethod yX2_has, Cond.selects RX2 yX2_has yX2_has, Cond.initialized RX2, Cond.code yX2_has cX2_has 2 (some .boolean), Cond.fieldLink RX2 37 "LogSpooler$LogFile" "olderOnes" "I", Cond.methodLink RX5 216 yX2_linesOf, Cond.instanceMethod yX2_linesOf, Cond.selects RX2 yX2_linesOf yX2_linesOf, Cond.code yX2_linesOf cX2_linesOf 3 (some .int), Cond.fieldLink RX2 18 "LogSpooler$LogFile" "end" "I"]
def wsL_line_r2 : List Cond := [Cond.methodLink RX2 50 yX2_startOf, Cond.instanceMethod yX2_startOf, Cond.selects RX2 yX2_startOf yX2_startOf, Cond.code yX2_startOf cX2_startOf 3 (some .int), Cond.fieldLink RX2 15 "LogSpooler$LogFile" "starts" "[I", Cond.methodLink RX5 59 yX5_isWithin, Cond.static yX5_isWithin, Cond.code yX5_isWithin cX5_isWithin 3 (some .boolean), Cond.methodLink RX5 222 yX2_lineAt, Cond.instanceMethod yX2_lineAt, Cond.selects RX2 yX2_lineAt yX2_lineAt, Cond.code yX2_lineAt cX2_lineAt 4 (some .int), Cond.fieldLink RX2 9 "LogSpooler$LogFile" "row" "[I"]
def wsL_line : List Cond := .codeWith yL_line cL_line 6 (some .int) [(0, 12, 15, 23)] :: ((wsL_line_r1 ++ wsL_line_r2) ++ wsX50 ++ wsX20 ++ (vx_atS RX5 84 "java/lang/IndexOutOfBoundsException" ["java/lang/RuntimeException", "java/lang/Exception"]).filter goodWord)
def wsL_generations : List Cond := .codeWith yL_generations cL_generations 4 (some .int) [(0, 9, 12, 23)] :: ([.classLink RL 23 "java/lang/IndexOutOfBoundsException", .methodLink RL 76 yX5_generations, .instanceMethod yX5_generations, .selects RX5 yX5_generations yX5_generations, .initialized RX5, .code yX5_generations cX5_generations 2 (some .int), .fieldLink RX5 175 "LogSpooler$LogFile" "olderOnes" "I", .methodLink RX5 99 yX5_fileAt, .instanceMethod yX5_fileAt, .selects RX5 yX5_fileAt yX5_fileAt, .code yX5_fileAt cX5_fileAt 2 (some (.object "LogSpooler$LogFile")), .classLink RX5 80 "java/lang/IndexOutOfBoundsException", .initialized "java/lang/IndexOutOfBoundsException", .fieldLink RX5 23 "LogSpooler" "files" "[LLogSpooler$LogFile;"] ++ wsX20 ++ wsX50 ++ (vx_atS RX5 84 "java/lang/IndexOutOfBoundsException" ["java/lang/RuntimeException", "java/lang/Exception"]).filter goodWord)
def wsL_fateOf : List Cond := .codeWith yL_fateOf cL_fateOf 4 (some .int) [(0, 9, 12, 23)] :: ([.classLink RL 23 "java/lang/IndexOutOfBoundsException", .methodLink RL 79 yX5_fateOf, .instanceMethod yX5_fateOf, .selects RX5 yX5_fateOf yX5_fateOf, .initialized RX5, .code yX5_fateOf cX5_fateOf 2 (some .int), .classLink RX5 80 "java/lang/IndexOutOfBoundsException", .initialized "java/lang/IndexOutOfBoundsException", .fieldLink RX5 37 "LogSpooler" "ledger" "LLogSpooler$Ledger;", .methodLink RX5 231 yX1_has, .instanceMethod yX1_has, .selects RX1 yX1_has yX1_has, .initialized RX1, .code yX1_has cX1_has 2 (some .boolean), .fieldLink RX1 18 "LogSpooler$Ledger" "entries" "I", .methodLink RX5 234 yX1_fateAt, .instanceMethod yX1_fateAt, .selects RX1 yX1_fateAt yX1_fateAt, .code yX1_fateAt cX1_fateAt 2 (some .int), .fieldLink RX1 9 "LogSpooler$Ledger" "fates" "[I"] ++ wsX50 ++ wsX10 ++ (vx_atS RX5 84 "java/lang/IndexOutOfBoundsException" ["java/lang/RuntimeException", "java/lang/Exception"]).filter goodWord)
def wsL_count : List Cond := .codeWith yL_count cL_count 4 (some .int) [(0, 9, 12, 23)] :: ([.classLink RL 23 "java/lang/IndexOutOfBoundsException", .methodLink RL 82 yX5_count, .instanceMethod yX5_count, .selects RX5 yX5_count yX5_count, .initialized RX5, .code yX5_count cX5_count 2 (some .int), .classLink RX5 80 "java/lang/IndexOutOfBoundsException", .initialized "java/lang/IndexOutOfBoundsException", .fieldLink RX5 37 "LogSpooler" "ledger" "LLogSpooler$Ledger;", .methodLink RX5 59 yX5_isWithin, .static yX5_isWithin, .code yX5_isWithin cX5_isWithin 3 (some .boolean), .methodLink RX5 239 yX1_entriesWith, .instanceMethod yX1_entriesWith, .selects RX1 yX1_entriesWith yX1_entriesWith, .initialized RX1, .code yX1_entriesWith cX1_entriesWith 4 (some .int), .fieldLink RX1 18 "LogSpooler$Ledger" "entries" "I", .fieldLink RX1 9 "LogSpooler$Ledger" "fates" "[I"] ++ wsX50 ++ wsX10 ++ (vx_atS RX5 84 "java/lang/IndexOutOfBoundsException" ["java/lang/RuntimeException", "java/lang/Exception"]).filter goodWord)
def wsL_targetsOf : List Cond := .codeWith yL_targetsOf cL_targetsOf 4 (some .int) [(0, 9, 12, 23)] :: ([.classLink RL 23 "java/lang/IndexOutOfBoundsException", .methodLink RL 85 yX5_targetsOf, .instanceMethod yX5_targetsOf, .selects RX5 yX5_targetsOf yX5_targetsOf, .initialized RX5, .code yX5_targetsOf cX5_targetsOf 2 (some .int), .classLink RX5 80 "java/lang/IndexOutOfBoundsException", .initialized "java/lang/IndexOutOfBoundsException", .fieldLink RX5 37 "LogSpooler" "ledger" "LLogSpooler$Ledger;", .methodLink RX5 231 yX1_has, .instanceMethod yX1_has, .selects RX1 yX1_has yX1_has, .initialized RX1, .code yX1_has cX1_has 2 (some .boolean), .fieldLink RX1 18 "LogSpooler$Ledger" "entries" "I", .methodLink RX5 242 yX1_targetsAt, .instanceMethod yX1_targetsAt, .selects RX1 yX1_targetsAt yX1_targetsAt, .code yX1_targetsAt cX1_targetsAt 2 (some .int), .fieldLink RX1 15 "LogSpooler$Ledger" "targetSets" "[I"] ++ wsX50 ++ wsX10 ++ (vx_atS RX5 84 "java/lang/IndexOutOfBoundsException" ["java/lang/RuntimeException", "java/lang/Exception"]).filter goodWord)
def wsL_law0_r1 : List Cond := [Cond.classLink RL 8 RX5, Cond.instantiable RX5 9, Cond.initialized RX5, Cond.classLink RL 89 RX6, Cond.instantiable RX6 34, Cond.initialized RX6, Cond.arrayClass .long, Cond.methodLink RL 88 yX5_init, Cond.instanceMethod yX5_init, Cond.code yX5_init cX5_init 2 none, Cond.methodLink RX5 3 objectInit, Cond.instanceMethod objectInit, Cond.code objectInit ⟨#[0xb1]⟩ 1 none, Cond.classLink RX5 9 RX4, Cond.fieldLink RX5 11 "LogSpooler" "senders" "[LLogSpooler$Sender;", Cond.classLink RX5 15 RX3, Cond.fieldLink RX5 17 "LogSpooler" "rules" "[LLogSpooler$Rule;", Cond.classLink RX5 21 RX2, Cond.fieldLink RX5 23 "LogSpooler" "files" "[LLogSpooler$LogFile;", Cond.classLink RX5 27 RX0, Cond.instantiable RX0 6, Cond.initialized RX0, Cond.fieldLink RX5 30 "LogSpooler" "forwarder" "LLogSpooler$Forwarder;", Cond.classLink RX5 34 RX1]
def wsL_law0_r2 : List Cond := [Cond.instantiable RX1 3, Cond.initialized RX1, Cond.fieldLink RX5 37 "LogSpooler" "ledger" "LLogSpooler$Ledger;", Cond.fieldLink RX5 41 "LogSpooler" "now" "I", Cond.fieldLink RX5 45 "LogSpooler" "burst" "I", Cond.fieldLink RX5 48 "LogSpooler" "tokenTime" "I", Cond.fieldLink RX5 51 "LogSpooler" "foldTime" "I", Cond.instantiable RX4 9, Cond.initialized RX4, Cond.instantiable RX3 5, Cond.initialized RX3, Cond.instantiable RX2 10, Cond.initialized RX2, Cond.instanceMethod yX0_init, Cond.code yX0_init cX0_init 1 none, Cond.methodLink RX0 3 objectInit, Cond.arrayClass .int, Cond.fieldLink RX0 9 "LogSpooler$Forwarder" "row" "[I", Cond.fieldLink RX0 15 "LogSpooler$Forwarder" "end" "I", Cond.fieldLink RX0 19 "LogSpooler$Forwarder" "firstQueued" "I", Cond.fieldLink RX0 22 "LogSpooler$Forwarder" "acknowledgedOnes" "I", Cond.fieldLink RX0 25 "LogSpooler$Forwarder" "lostOnes" "I", Cond.fieldLink RX0 28 "LogSpooler$Forwarder" "isConnected" "Z", Cond.instanceMethod yX1_init]
def wsL_law0_r3 : List Cond := [Cond.code yX1_init cX1_init 1 none, Cond.methodLink RX1 3 objectInit, Cond.fieldLink RX1 9 "LogSpooler$Ledger" "fates" "[I", Cond.fieldLink RX1 15 "LogSpooler$Ledger" "targetSets" "[I", Cond.fieldLink RX1 18 "LogSpooler$Ledger" "entries" "I", Cond.methodLink RX5 54 yX4_init, Cond.instanceMethod yX4_init, Cond.code yX4_init cX4_init 3 none, Cond.methodLink RX4 3 objectInit, Cond.fieldLink RX4 9 "LogSpooler$Sender" "untoldRepeats" "I", Cond.fieldLink RX4 15 "LogSpooler$Sender" "firstRepeat" "I", Cond.fieldLink RX4 18 "LogSpooler$Sender" "untoldDrops" "I", Cond.fieldLink RX4 21 "LogSpooler$Sender" "lastFacility" "I", Cond.fieldLink RX4 24 "LogSpooler$Sender" "lastSeverity" "I", Cond.fieldLink RX4 27 "LogSpooler$Sender" "lastText" "I", Cond.fieldLink RX4 30 "LogSpooler$Sender" "lastLength" "I", Cond.fieldLink RX4 33 "LogSpooler$Sender" "number" "I", Cond.fieldLink RX4 36 "LogSpooler$Sender" "tokensLeft" "I", Cond.instanceMethod yX3_init, Cond.code yX3_init cX3_init 1 none, Cond.methodLink RX3 3 objectInit, Cond.fieldLink RX3 9 "LogSpooler$Rule" "isSet" "Z", Cond.fieldLink RX3 15 "LogSpooler$Rule" "facilities" "I", Cond.fieldLink RX3 19 "LogSpooler$Rule" "severity" "I"]
def wsL_law0_r4 : List Cond := [Cond.fieldLink RX3 22 "LogSpooler$Rule" "sender" "I", Cond.fieldLink RX3 25 "LogSpooler$Rule" "target" "I", Cond.instanceMethod yX2_init, Cond.code yX2_init cX2_init 1 none, Cond.methodLink RX2 3 objectInit, Cond.fieldLink RX2 9 "LogSpooler$LogFile" "row" "[I", Cond.fieldLink RX2 15 "LogSpooler$LogFile" "starts" "[I", Cond.fieldLink RX2 18 "LogSpooler$LogFile" "end" "I", Cond.fieldLink RX2 22 "LogSpooler$LogFile" "greatestSize" "I", Cond.fieldLink RX2 25 "LogSpooler$LogFile" "age" "I", Cond.fieldLink RX2 28 "LogSpooler$LogFile" "kept" "I", Cond.fieldLink RX2 31 "LogSpooler$LogFile" "firstCame" "I", Cond.fieldLink RX2 34 "LogSpooler$LogFile" "sumOfLengths" "I", Cond.fieldLink RX2 37 "LogSpooler$LogFile" "olderOnes" "I", Cond.fieldLink RX2 40 "LogSpooler$LogFile" "rotations" "I", Cond.methodLink RL 91 yX6_init, Cond.instanceMethod yX6_init, Cond.code yX6_init cX6_init 2 none, Cond.methodLink RX6 1 objectInit, Cond.fieldLink RX6 7 "LogSpoolerModel" "burst" "I", Cond.fieldLink RX6 13 "LogSpoolerModel" "tokenTime" "I", Cond.fieldLink RX6 16 "LogSpoolerModel" "fold" "I", Cond.fieldLink RX6 19 "LogSpoolerModel" "tokens" "[I", Cond.fieldLink RX6 23 "LogSpoolerModel" "repeats" "[I"]
def wsL_law0_r5 : List Cond := [Cond.fieldLink RX6 26 "LogSpoolerModel" "firstRepeats" "[I", Cond.fieldLink RX6 29 "LogSpoolerModel" "drops" "[I", Cond.fieldLink RX6 32 "LogSpoolerModel" "lasts" "[I", Cond.arrayClass .boolean, Cond.fieldLink RX6 35 "LogSpoolerModel" "isSet" "[Z", Cond.fieldLink RX6 39 "LogSpoolerModel" "facilities" "[I", Cond.fieldLink RX6 42 "LogSpoolerModel" "severities" "[I", Cond.fieldLink RX6 45 "LogSpoolerModel" "senders" "[I", Cond.fieldLink RX6 48 "LogSpoolerModel" "targets" "[I", Cond.fieldLink RX6 51 "LogSpoolerModel" "most" "[I", Cond.fieldLink RX6 54 "LogSpoolerModel" "ages" "[I", Cond.fieldLink RX6 57 "LogSpoolerModel" "kept" "[I", Cond.fieldLink RX6 60 "LogSpoolerModel" "sizes" "[I", Cond.fieldLink RX6 63 "LogSpoolerModel" "ends" "[I", Cond.fieldLink RX6 66 "LogSpoolerModel" "generations" "[I", Cond.fieldLink RX6 69 "LogSpoolerModel" "starts" "[I", Cond.fieldLink RX6 72 "LogSpoolerModel" "lines" "[I", Cond.fieldLink RX6 75 "LogSpoolerModel" "times" "[I", Cond.fieldLink RX6 78 "LogSpoolerModel" "forwarded" "[I", Cond.fieldLink RX6 81 "LogSpoolerModel" "fates" "[I", Cond.fieldLink RX6 84 "LogSpoolerModel" "wentTo" "[I", Cond.methodLink RL 92 yL_setRate, Cond.static yL_setRate, Cond.initialized RL]
def wsL_law0_r6 : List Cond := [Cond.codeWith yL_setRate cL_setRate 5 (some .int) [(0, 10, 13, 13)], Cond.classLink RL 13 "java/lang/IllegalArgumentException", Cond.methodLink RL 7 yX5_setRate, Cond.instanceMethod yX5_setRate, Cond.selects RX5 yX5_setRate yX5_setRate, Cond.code yX5_setRate cX5_setRate 5 (some .int), Cond.classLink RX5 63 "java/lang/IllegalArgumentException", Cond.initialized "java/lang/IllegalArgumentException", Cond.methodLink RX5 59 yX5_isWithin, Cond.static yX5_isWithin, Cond.code yX5_isWithin cX5_isWithin 3 (some .boolean), Cond.methodLink RX5 70 yX4_capTokens, Cond.instanceMethod yX4_capTokens, Cond.selects RX4 yX4_capTokens yX4_capTokens, Cond.code yX4_capTokens cX4_capTokens 2 none, Cond.methodLink RL 97 yX6_setRate, Cond.instanceMethod yX6_setRate, Cond.selects RX6 yX6_setRate yX6_setRate, Cond.code yX6_setRate cX6_setRate 5 (some .int), Cond.methodLink RX6 90 yX6_isIn, Cond.static yX6_isIn, Cond.code yX6_isIn cX6_isIn 3 (some .boolean), Cond.methodLink RX6 94 yX6_holds, Cond.instanceMethod yX6_holds]
def wsL_law0_r7 : List Cond := [Cond.selects RX6 yX6_holds yX6_holds, Cond.code yX6_holds cX6_holds 2 (some .boolean), Cond.fieldLink RX6 87 "LogSpoolerModel" "thrown" "I", Cond.methodLink RL 98 yX6_thrown, Cond.instanceMethod yX6_thrown, Cond.selects RX6 yX6_thrown yX6_thrown, Cond.code yX6_thrown cX6_thrown 1 (some .int), Cond.methodLink RL 101 yL_setFold, Cond.static yL_setFold, Cond.codeWith yL_setFold cL_setFold 4 (some .int) [(0, 9, 12, 13)], Cond.methodLink RL 15 yX5_setFold, Cond.instanceMethod yX5_setFold, Cond.selects RX5 yX5_setFold yX5_setFold, Cond.code yX5_setFold cX5_setFold 3 (some .int), Cond.methodLink RL 104 yX6_setFold, Cond.instanceMethod yX6_setFold, Cond.selects RX6 yX6_setFold yX6_setFold, Cond.code yX6_setFold cX6_setFold 3 (some .int), Cond.methodLink RL 105 yL_setRule, Cond.static yL_setRule, Cond.codeWith yL_setRule cL_setRule 8 (some .int) [(0, 16, 19, 23), (0, 16, 23, 13)], Cond.classLink RL 23 "java/lang/IndexOutOfBoundsException", Cond.methodLink RL 19 yX5_setRule, Cond.instanceMethod yX5_setRule]
def wsL_law0_r8 : List Cond := [Cond.selects RX5 yX5_setRule yX5_setRule, Cond.code yX5_setRule cX5_setRule 7 (some .int), Cond.classLink RX5 80 "java/lang/IndexOutOfBoundsException", Cond.initialized "java/lang/IndexOutOfBoundsException", Cond.methodLink RX5 76 yX5_ruleAt, Cond.instanceMethod yX5_ruleAt, Cond.selects RX5 yX5_ruleAt yX5_ruleAt, Cond.code yX5_ruleAt cX5_ruleAt 2 (some (.object "LogSpooler$Rule")), Cond.methodLink RX5 87 yX3_put, Cond.instanceMethod yX3_put, Cond.selects RX3 yX3_put yX3_put, Cond.code yX3_put cX3_put 5 none, Cond.methodLink RX5 91 yX5_rulesThatAreSet, Cond.instanceMethod yX5_rulesThatAreSet, Cond.selects RX5 yX5_rulesThatAreSet yX5_rulesThatAreSet, Cond.code yX5_rulesThatAreSet cX5_rulesThatAreSet 3 (some .int), Cond.fieldLink RX5 95 "LogSpooler$Rule" "isSet" "Z", Cond.methodLink RL 108 yX6_setRule, Cond.instanceMethod yX6_setRule, Cond.selects RX6 yX6_setRule yX6_setRule, Cond.code yX6_setRule cX6_setRule 10 (some .int), Cond.methodLink RL 109 yL_removeRule, Cond.static yL_removeRule, Cond.codeWith yL_removeRule cL_removeRule 4 (some .int) [(0, 16, 19, 23)]]
def wsL_law0_r9 : List Cond := [Cond.methodLink RL 25 yX5_removeRule, Cond.instanceMethod yX5_removeRule, Cond.selects RX5 yX5_removeRule yX5_removeRule, Cond.code yX5_removeRule cX5_removeRule 4 (some .boolean), Cond.methodLink RL 111 yX6_removeRule, Cond.instanceMethod yX6_removeRule, Cond.selects RX6 yX6_removeRule yX6_removeRule, Cond.code yX6_removeRule cX6_removeRule 3 (some .boolean), Cond.methodLink RL 112 yL_setFile, Cond.static yL_setFile, Cond.codeWith yL_setFile cL_setFile 7 (some .int) [(0, 14, 17, 23), (0, 14, 21, 13)], Cond.methodLink RL 29 yX5_setFile, Cond.instanceMethod yX5_setFile, Cond.selects RX5 yX5_setFile yX5_setFile, Cond.code yX5_setFile cX5_setFile 6 (some .int), Cond.fieldLink RX5 109 "LogSpooler$LogFile" "sumOfLengths" "I", Cond.methodLink RX5 99 yX5_fileAt, Cond.instanceMethod yX5_fileAt, Cond.selects RX5 yX5_fileAt yX5_fileAt, Cond.code yX5_fileAt cX5_fileAt 2 (some (.object "LogSpooler$LogFile")), Cond.methodLink RX5 105 yX2_limit, Cond.instanceMethod yX2_limit, Cond.selects RX2 yX2_limit yX2_limit, Cond.code yX2_limit cX2_limit 4 none]
def wsL_law0_r10 : List Cond := [Cond.methodLink RL 115 yX6_setFile, Cond.instanceMethod yX6_setFile, Cond.selects RX6 yX6_setFile yX6_setFile, Cond.code yX6_setFile cX6_setFile 6 (some .int), Cond.methodLink RX6 98 yX6_isFile, Cond.static yX6_isFile, Cond.code yX6_isFile cX6_isFile 1 (some .boolean), Cond.methodLink RL 116 yL_message, Cond.static yL_message, Cond.codeWith yL_message cL_message 8 (some .int) [(0, 16, 19, 23), (0, 16, 23, 13), (0, 16, 27, 36)], Cond.classLink RL 36 "java/lang/IllegalStateException", Cond.methodLink RL 33 yX5_message, Cond.instanceMethod yX5_message, Cond.selects RX5 yX5_message yX5_message, Cond.code yX5_message cX5_message 8 (some .int), Cond.classLink RX5 122 "java/lang/IllegalStateException", Cond.initialized "java/lang/IllegalStateException", Cond.fieldLink RX5 142 "LogSpooler$Sender" "tokensLeft" "I", Cond.fieldLink RX5 145 "LogSpooler$Sender" "untoldDrops" "I", Cond.fieldLink RX5 154 "LogSpooler$Ledger" "entries" "I", Cond.methodLink RX5 112 yX5_senderAt, Cond.instanceMethod yX5_senderAt, Cond.selects RX5 yX5_senderAt yX5_senderAt, Cond.code yX5_senderAt cX5_senderAt 2 (some (.object "LogSpooler$Sender"))]
def wsL_law0_r11 : List Cond := [Cond.methodLink RX5 118 yX1_isFull, Cond.instanceMethod yX1_isFull, Cond.selects RX1 yX1_isFull yX1_isFull, Cond.code yX1_isFull cX1_isFull 1 (some .boolean), Cond.methodLink RX5 127 yX4_lastIs, Cond.instanceMethod yX4_lastIs, Cond.selects RX4 yX4_lastIs yX4_lastIs, Cond.code yX4_lastIs cX4_lastIs 5 (some .boolean), Cond.methodLink RX5 131 yX4_countRepeat, Cond.instanceMethod yX4_countRepeat, Cond.selects RX4 yX4_countRepeat yX4_countRepeat, Cond.code yX4_countRepeat cX4_countRepeat 2 none, Cond.methodLink RX5 134 yX1_enter, Cond.instanceMethod yX1_enter, Cond.selects RX1 yX1_enter yX1_enter, Cond.code yX1_enter cX1_enter 3 (some .int), Cond.methodLink RX5 138 yX5_tellRepeats, Cond.instanceMethod yX5_tellRepeats, Cond.selects RX5 yX5_tellRepeats yX5_tellRepeats, Cond.code yX5_tellRepeats cX5_tellRepeats 3 none, Cond.fieldLink RX5 207 "LogSpooler$Sender" "untoldRepeats" "I", Cond.fieldLink RX5 251 "LogSpooler$Sender" "number" "I", Cond.fieldLink RX5 254 "LogSpooler$Sender" "lastFacility" "I", Cond.fieldLink RX5 257 "LogSpooler$Sender" "lastSeverity" "I"]
def wsL_law0_r12 : List Cond := [Cond.methodLink RX5 157 yX5_route, Cond.instanceMethod yX5_route, Cond.selects RX5 yX5_route yX5_route, Cond.code yX5_route cX5_route 10 (some .int), Cond.fieldLink RX5 261 "LogSpooler$Rule" "target" "I", Cond.methodLink RX5 264 yX3_fits, Cond.instanceMethod yX3_fits, Cond.selects RX3 yX3_fits yX3_fits, Cond.code yX3_fits cX3_fits 4 (some .boolean), Cond.methodLink RX5 267 yX2_add, Cond.instanceMethod yX2_add, Cond.selects RX2 yX2_add yX2_add, Cond.code yX2_add cX2_add 4 none, Cond.methodLink RX2 43 yX2_isEmpty, Cond.instanceMethod yX2_isEmpty, Cond.selects RX2 yX2_isEmpty yX2_isEmpty, Cond.code yX2_isEmpty cX2_isEmpty 1 (some .boolean), Cond.methodLink RX2 47 yX2_turnOver, Cond.instanceMethod yX2_turnOver, Cond.selects RX2 yX2_turnOver yX2_turnOver, Cond.code yX2_turnOver cX2_turnOver 2 none, Cond.methodLink RX5 270 yX0_take, Cond.instanceMethod yX0_take, Cond.selects RX0 yX0_take yX0_take]
def wsL_law0_r13 : List Cond := [Cond.code yX0_take cX0_take 2 none, Cond.methodLink RX5 148 yX5_tellDrops, Cond.instanceMethod yX5_tellDrops, Cond.selects RX5 yX5_tellDrops yX5_tellDrops, Cond.code yX5_tellDrops cX5_tellDrops 3 none, Cond.constant RX5 260 (100000), Cond.methodLink RX5 151 yX4_setLast, Cond.instanceMethod yX4_setLast, Cond.selects RX4 yX4_setLast yX4_setLast, Cond.code yX4_setLast cX4_setLast 5 none, Cond.methodLink RL 118 yX6_message, Cond.instanceMethod yX6_message, Cond.selects RX6 yX6_message yX6_message, Cond.code yX6_message cX6_message 10 (some .int), Cond.fieldLink RX6 137 "LogSpoolerModel" "messages" "I", Cond.constant RX6 131 (160000), Cond.fieldLink RX6 112 "LogSpoolerModel" "time" "I", Cond.methodLink RX6 140 yX6_notes, Cond.instanceMethod yX6_notes, Cond.selects RX6 yX6_notes yX6_notes, Cond.code yX6_notes cX6_notes 3 (some .int), Cond.methodLink RX6 144 yX6_tellsRepeats, Cond.instanceMethod yX6_tellsRepeats, Cond.selects RX6 yX6_tellsRepeats yX6_tellsRepeats]
def wsL_law0_r14 : List Cond := [Cond.code yX6_tellsRepeats cX6_tellsRepeats 4 none, Cond.methodLink RX6 132 yX6_goes, Cond.instanceMethod yX6_goes, Cond.selects RX6 yX6_goes yX6_goes, Cond.code yX6_goes cX6_goes 9 (some .int), Cond.methodLink RX6 124 yX6_forwards, Cond.instanceMethod yX6_forwards, Cond.selects RX6 yX6_forwards yX6_forwards, Cond.code yX6_forwards cX6_forwards 2 none, Cond.fieldLink RX6 115 "LogSpoolerModel" "taken" "I", Cond.fieldLink RX6 118 "LogSpoolerModel" "acknowledged" "I", Cond.fieldLink RX6 121 "LogSpoolerModel" "lost" "I", Cond.methodLink RX6 127 yX6_comesTo, Cond.instanceMethod yX6_comesTo, Cond.selects RX6 yX6_comesTo yX6_comesTo, Cond.code yX6_comesTo cX6_comesTo 4 none, Cond.methodLink RX6 104 yX6_linesOf, Cond.instanceMethod yX6_linesOf, Cond.selects RX6 yX6_linesOf yX6_linesOf, Cond.code yX6_linesOf cX6_linesOf 2 (some .int), Cond.methodLink RX6 108 yX6_rotates, Cond.instanceMethod yX6_rotates, Cond.selects RX6 yX6_rotates yX6_rotates, Cond.code yX6_rotates cX6_rotates 4 none]
def wsL_law0_r15 : List Cond := [Cond.fieldLink RX6 101 "LogSpoolerModel" "rotations" "I", Cond.methodLink RX6 147 yX6_tellsDrops, Cond.instanceMethod yX6_tellsDrops, Cond.selects RX6 yX6_tellsDrops yX6_tellsDrops, Cond.code yX6_tellsDrops cX6_tellsDrops 4 none, Cond.constant RX6 136 (100000), Cond.methodLink RL 119 yL_pass, Cond.static yL_pass, Cond.codeWith yL_pass cL_pass 4 (some .int) [(0, 9, 12, 13)], Cond.methodLink RL 38 yX5_pass, Cond.instanceMethod yX5_pass, Cond.selects RX5 yX5_pass yX5_pass, Cond.code yX5_pass cX5_pass 4 (some .int), Cond.methodLink RX5 161 yX5_rotationsOfAllFiles, Cond.instanceMethod yX5_rotationsOfAllFiles, Cond.selects RX5 yX5_rotationsOfAllFiles yX5_rotationsOfAllFiles, Cond.code yX5_rotationsOfAllFiles cX5_rotationsOfAllFiles 3 (some .int), Cond.fieldLink RX5 295 "LogSpooler$LogFile" "rotations" "I", Cond.methodLink RX5 164 yX5_passOneSecond, Cond.instanceMethod yX5_passOneSecond, Cond.selects RX5 yX5_passOneSecond yX5_passOneSecond, Cond.code yX5_passOneSecond cX5_passOneSecond 1 none, Cond.methodLink RX5 273 yX5_giveTokens, Cond.instanceMethod yX5_giveTokens]
def wsL_law0_r16 : List Cond := [Cond.selects RX5 yX5_giveTokens yX5_giveTokens, Cond.code yX5_giveTokens cX5_giveTokens 2 none, Cond.methodLink RX5 282 yX4_gainToken, Cond.instanceMethod yX4_gainToken, Cond.selects RX4 yX4_gainToken yX4_gainToken, Cond.code yX4_gainToken cX4_gainToken 2 none, Cond.methodLink RX5 276 yX5_tellDueRepeats, Cond.instanceMethod yX5_tellDueRepeats, Cond.selects RX5 yX5_tellDueRepeats yX5_tellDueRepeats, Cond.code yX5_tellDueRepeats cX5_tellDueRepeats 3 none, Cond.methodLink RX5 285 yX5_firstWithDueRepeats, Cond.instanceMethod yX5_firstWithDueRepeats, Cond.selects RX5 yX5_firstWithDueRepeats yX5_firstWithDueRepeats, Cond.code yX5_firstWithDueRepeats cX5_firstWithDueRepeats 5 (some (.object "LogSpooler$Sender")), Cond.fieldLink RX5 289 "LogSpooler$Sender" "firstRepeat" "I", Cond.methodLink RX5 279 yX5_rotateAgedFiles, Cond.instanceMethod yX5_rotateAgedFiles, Cond.selects RX5 yX5_rotateAgedFiles yX5_rotateAgedFiles, Cond.code yX5_rotateAgedFiles cX5_rotateAgedFiles 2 none, Cond.methodLink RX5 292 yX2_isAged, Cond.instanceMethod yX2_isAged, Cond.selects RX2 yX2_isAged yX2_isAged, Cond.code yX2_isAged cX2_isAged 2 (some .boolean), Cond.methodLink RX5 172 yX2_turnOver]
def wsL_law0_r17 : List Cond := [Cond.methodLink RL 121 yX6_pass, Cond.instanceMethod yX6_pass, Cond.selects RX6 yX6_pass yX6_pass, Cond.code yX6_pass cX6_pass 3 (some .int), Cond.methodLink RX6 154 yX6_passes, Cond.instanceMethod yX6_passes, Cond.selects RX6 yX6_passes yX6_passes, Cond.code yX6_passes cX6_passes 3 none, Cond.methodLink RX6 150 yX6_due, Cond.instanceMethod yX6_due, Cond.selects RX6 yX6_due yX6_due, Cond.code yX6_due cX6_due 4 (some .int), Cond.methodLink RL 122 yL_rotate, Cond.static yL_rotate, Cond.codeWith yL_rotate cL_rotate 4 (some .int) [(0, 9, 12, 23), (0, 9, 15, 36)], Cond.methodLink RL 41 yX5_rotate, Cond.instanceMethod yX5_rotate, Cond.selects RX5 yX5_rotate yX5_rotate, Cond.code yX5_rotate cX5_rotate 3 (some .int), Cond.fieldLink RX5 175 "LogSpooler$LogFile" "olderOnes" "I", Cond.methodLink RX5 167 yX2_isEmpty, Cond.methodLink RL 124 yX6_rotate, Cond.instanceMethod yX6_rotate, Cond.selects RX6 yX6_rotate yX6_rotate]
def wsL_law0_r18 : List Cond := [Cond.code yX6_rotate cX6_rotate 3 (some .int), Cond.methodLink RL 125 yL_connect, Cond.static yL_connect, Cond.codeWith yL_connect cL_connect 3 (some .int) [(0, 8, 11, 36)], Cond.methodLink RL 44 yX5_connect, Cond.instanceMethod yX5_connect, Cond.selects RX5 yX5_connect yX5_connect, Cond.code yX5_connect cX5_connect 1 (some .int), Cond.fieldLink RX5 178 "LogSpooler$Forwarder" "isConnected" "Z", Cond.methodLink RX5 183 yX0_waiting, Cond.instanceMethod yX0_waiting, Cond.selects RX0 yX0_waiting yX0_waiting, Cond.code yX0_waiting cX0_waiting 1 (some .int), Cond.methodLink RL 128 yX6_connect, Cond.instanceMethod yX6_connect, Cond.selects RX6 yX6_connect yX6_connect, Cond.code yX6_connect cX6_connect 1 (some .int), Cond.fieldLink RX6 157 "LogSpoolerModel" "isConnected" "Z", Cond.fieldLink RX6 161 "LogSpoolerModel" "sent" "I", Cond.methodLink RL 129 yL_disconnect, Cond.static yL_disconnect, Cond.codeWith yL_disconnect cL_disconnect 3 (some .int) [(0, 8, 11, 36)], Cond.methodLink RL 48 yX5_disconnect, Cond.instanceMethod yX5_disconnect]
def wsL_law0_r19 : List Cond := [Cond.selects RX5 yX5_disconnect yX5_disconnect, Cond.code yX5_disconnect cX5_disconnect 2 (some .int), Cond.methodLink RX5 188 yX0_flying, Cond.instanceMethod yX0_flying, Cond.selects RX0 yX0_flying yX0_flying, Cond.code yX0_flying cX0_flying 1 (some .int), Cond.methodLink RX5 191 yX0_loseConnection, Cond.instanceMethod yX0_loseConnection, Cond.selects RX0 yX0_loseConnection yX0_loseConnection, Cond.code yX0_loseConnection cX0_loseConnection 1 none, Cond.methodLink RL 131 yX6_disconnect, Cond.instanceMethod yX6_disconnect, Cond.selects RX6 yX6_disconnect yX6_disconnect, Cond.code yX6_disconnect cX6_disconnect 2 (some .int), Cond.methodLink RL 132 yL_send, Cond.static yL_send, Cond.codeWith yL_send cL_send 3 (some .int) [(0, 8, 11, 36)], Cond.methodLink RL 51 yX5_send, Cond.instanceMethod yX5_send, Cond.selects RX5 yX5_send yX5_send, Cond.code yX5_send cX5_send 1 (some .int), Cond.methodLink RX5 194 yX0_canSend, Cond.instanceMethod yX0_canSend, Cond.selects RX0 yX0_canSend yX0_canSend]
def wsL_law0_r20 : List Cond := [Cond.code yX0_canSend cX0_canSend 1 (some .boolean), Cond.methodLink RX0 32 yX0_waiting, Cond.methodLink RX0 36 yX0_flying, Cond.methodLink RX5 199 yX0_sendFirst, Cond.instanceMethod yX0_sendFirst, Cond.selects RX0 yX0_sendFirst yX0_sendFirst, Cond.code yX0_sendFirst cX0_sendFirst 2 (some .int), Cond.methodLink RX0 39 yX0_lineAt, Cond.instanceMethod yX0_lineAt, Cond.selects RX0 yX0_lineAt yX0_lineAt, Cond.code yX0_lineAt cX0_lineAt 2 (some .int), Cond.methodLink RL 134 yX6_send, Cond.instanceMethod yX6_send, Cond.selects RX6 yX6_send yX6_send, Cond.code yX6_send cX6_send 1 (some .int), Cond.methodLink RL 135 yL_acknowledge, Cond.static yL_acknowledge, Cond.codeWith yL_acknowledge cL_acknowledge 3 (some .int) [(0, 8, 11, 36)], Cond.methodLink RL 54 yX5_acknowledge, Cond.instanceMethod yX5_acknowledge, Cond.selects RX5 yX5_acknowledge yX5_acknowledge, Cond.code yX5_acknowledge cX5_acknowledge 1 (some .int), Cond.methodLink RX5 204 yX0_acknowledgeFirst, Cond.instanceMethod yX0_acknowledgeFirst]
def wsL_law0_r21 : List Cond := [Cond.selects RX0 yX0_acknowledgeFirst yX0_acknowledgeFirst, Cond.code yX0_acknowledgeFirst cX0_acknowledgeFirst 2 (some .int), Cond.methodLink RL 137 yX6_acknowledge, Cond.instanceMethod yX6_acknowledge, Cond.selects RX6 yX6_acknowledge yX6_acknowledge, Cond.code yX6_acknowledge cX6_acknowledge 1 (some .int), Cond.methodLink RL 138 yX5_time, Cond.instanceMethod yX5_time, Cond.selects RX5 yX5_time yX5_time, Cond.code yX5_time cX5_time 1 (some .int), Cond.methodLink RL 141 yX6_time, Cond.instanceMethod yX6_time, Cond.selects RX6 yX6_time yX6_time, Cond.code yX6_time cX6_time 1 (some .int), Cond.methodLink RL 142 yL_tokens, Cond.static yL_tokens, Cond.codeWith yL_tokens cL_tokens 4 (some .int) [(0, 9, 12, 23)], Cond.methodLink RL 57 yX5_tokens, Cond.instanceMethod yX5_tokens, Cond.selects RX5 yX5_tokens yX5_tokens, Cond.code yX5_tokens cX5_tokens 2 (some .int), Cond.methodLink RL 144 yX6_tokens, Cond.instanceMethod yX6_tokens, Cond.selects RX6 yX6_tokens yX6_tokens]
def wsL_law0_r22 : List Cond := [Cond.code yX6_tokens cX6_tokens 2 (some .int), Cond.methodLink RX6 164 yX6_isSender, Cond.instanceMethod yX6_isSender, Cond.selects RX6 yX6_isSender yX6_isSender, Cond.code yX6_isSender cX6_isSender 2 (some .boolean), Cond.methodLink RL 145 yL_repeats, Cond.static yL_repeats, Cond.codeWith yL_repeats cL_repeats 4 (some .int) [(0, 9, 12, 23)], Cond.methodLink RL 60 yX5_repeats, Cond.instanceMethod yX5_repeats, Cond.selects RX5 yX5_repeats yX5_repeats, Cond.code yX5_repeats cX5_repeats 2 (some .int), Cond.methodLink RL 147 yX6_repeats, Cond.instanceMethod yX6_repeats, Cond.selects RX6 yX6_repeats yX6_repeats, Cond.code yX6_repeats cX6_repeats 2 (some .int), Cond.methodLink RL 148 yL_drops, Cond.static yL_drops, Cond.codeWith yL_drops cL_drops 4 (some .int) [(0, 9, 12, 23)], Cond.methodLink RL 63 yX5_drops, Cond.instanceMethod yX5_drops, Cond.selects RX5 yX5_drops yX5_drops, Cond.code yX5_drops cX5_drops 2 (some .int), Cond.methodLink RL 150 yX6_drops]
def wsL_law0_r23 : List Cond := [Cond.instanceMethod yX6_drops, Cond.selects RX6 yX6_drops yX6_drops, Cond.code yX6_drops cX6_drops 2 (some .int), Cond.methodLink RL 151 yL_size, Cond.static yL_size, Cond.codeWith yL_size cL_size 4 (some .int) [(0, 9, 12, 23)], Cond.methodLink RL 66 yX5_size, Cond.instanceMethod yX5_size, Cond.selects RX5 yX5_size yX5_size, Cond.code yX5_size cX5_size 2 (some .int), Cond.methodLink RL 153 yX6_size, Cond.instanceMethod yX6_size, Cond.selects RX6 yX6_size yX6_size, Cond.code yX6_size cX6_size 2 (some .int), Cond.methodLink RL 154 yL_lines, Cond.static yL_lines, Cond.codeWith yL_lines cL_lines 5 (some .int) [(0, 10, 13, 23)], Cond.methodLink RL 69 yX5_lines, Cond.instanceMethod yX5_lines, Cond.selects RX5 yX5_lines yX5_lines, Cond.code yX5_lines cX5_lines 4 (some .int), Cond.methodLink RX5 210 yX2_has, Cond.instanceMethod yX2_has, Cond.selects RX2 yX2_has yX2_has]
def wsL_law0_r24 : List Cond := [Cond.code yX2_has cX2_has 2 (some .boolean), Cond.methodLink RX5 216 yX2_linesOf, Cond.instanceMethod yX2_linesOf, Cond.selects RX2 yX2_linesOf yX2_linesOf, Cond.code yX2_linesOf cX2_linesOf 3 (some .int), Cond.methodLink RX2 50 yX2_startOf, Cond.instanceMethod yX2_startOf, Cond.selects RX2 yX2_startOf yX2_startOf, Cond.code yX2_startOf cX2_startOf 3 (some .int), Cond.methodLink RL 156 yX6_lines, Cond.instanceMethod yX6_lines, Cond.selects RX6 yX6_lines yX6_lines, Cond.code yX6_lines cX6_lines 3 (some .int), Cond.methodLink RX6 167 yX6_isPart, Cond.instanceMethod yX6_isPart, Cond.selects RX6 yX6_isPart yX6_isPart, Cond.code yX6_isPart cX6_isPart 3 (some .boolean), Cond.methodLink RX6 171 yX6_endOf, Cond.instanceMethod yX6_endOf, Cond.selects RX6 yX6_endOf yX6_endOf, Cond.code yX6_endOf cX6_endOf 3 (some .int), Cond.methodLink RX6 174 yX6_startOf, Cond.instanceMethod yX6_startOf, Cond.selects RX6 yX6_startOf yX6_startOf]
def wsL_law0_r25 : List Cond := [Cond.code yX6_startOf cX6_startOf 3 (some .int), Cond.methodLink RL 157 yL_line, Cond.static yL_line, Cond.codeWith yL_line cL_line 6 (some .int) [(0, 12, 15, 23)], Cond.methodLink RL 72 yX5_line, Cond.instanceMethod yX5_line, Cond.selects RX5 yX5_line yX5_line, Cond.code yX5_line cX5_line 5 (some .int), Cond.methodLink RX5 222 yX2_lineAt, Cond.instanceMethod yX2_lineAt, Cond.selects RX2 yX2_lineAt yX2_lineAt, Cond.code yX2_lineAt cX2_lineAt 4 (some .int), Cond.methodLink RL 160 yX6_line, Cond.instanceMethod yX6_line, Cond.selects RX6 yX6_line yX6_line, Cond.code yX6_line cX6_line 5 (some .int), Cond.methodLink RL 161 yL_generations, Cond.static yL_generations, Cond.codeWith yL_generations cL_generations 4 (some .int) [(0, 9, 12, 23)], Cond.methodLink RL 76 yX5_generations, Cond.instanceMethod yX5_generations, Cond.selects RX5 yX5_generations yX5_generations, Cond.code yX5_generations cX5_generations 2 (some .int), Cond.methodLink RL 163 yX6_generations]
def wsL_law0_r26 : List Cond := [Cond.instanceMethod yX6_generations, Cond.selects RX6 yX6_generations yX6_generations, Cond.code yX6_generations cX6_generations 2 (some .int), Cond.methodLink RL 164 yX5_queued, Cond.instanceMethod yX5_queued, Cond.selects RX5 yX5_queued yX5_queued, Cond.code yX5_queued cX5_queued 1 (some .int), Cond.methodLink RL 167 yX6_queued, Cond.instanceMethod yX6_queued, Cond.selects RX6 yX6_queued yX6_queued, Cond.code yX6_queued cX6_queued 1 (some .int), Cond.methodLink RL 168 yX5_inFlight, Cond.instanceMethod yX5_inFlight, Cond.selects RX5 yX5_inFlight yX5_inFlight, Cond.code yX5_inFlight cX5_inFlight 1 (some .int), Cond.methodLink RL 171 yX6_inFlight, Cond.instanceMethod yX6_inFlight, Cond.selects RX6 yX6_inFlight yX6_inFlight, Cond.code yX6_inFlight cX6_inFlight 1 (some .int), Cond.methodLink RL 172 yX5_acknowledged, Cond.instanceMethod yX5_acknowledged, Cond.selects RX5 yX5_acknowledged yX5_acknowledged, Cond.code yX5_acknowledged cX5_acknowledged 1 (some .int), Cond.fieldLink RX5 225 "LogSpooler$Forwarder" "acknowledgedOnes" "I"]
def wsL_law0_r27 : List Cond := [Cond.methodLink RL 175 yX6_acknowledged, Cond.instanceMethod yX6_acknowledged, Cond.selects RX6 yX6_acknowledged yX6_acknowledged, Cond.code yX6_acknowledged cX6_acknowledged 1 (some .int), Cond.methodLink RL 176 yX5_lost, Cond.instanceMethod yX5_lost, Cond.selects RX5 yX5_lost yX5_lost, Cond.code yX5_lost cX5_lost 1 (some .int), Cond.fieldLink RX5 228 "LogSpooler$Forwarder" "lostOnes" "I", Cond.methodLink RL 179 yX6_lost, Cond.instanceMethod yX6_lost, Cond.selects RX6 yX6_lost yX6_lost, Cond.code yX6_lost cX6_lost 1 (some .int), Cond.methodLink RL 180 yX5_messages, Cond.instanceMethod yX5_messages, Cond.selects RX5 yX5_messages yX5_messages, Cond.code yX5_messages cX5_messages 1 (some .int), Cond.methodLink RL 183 yX6_messages, Cond.instanceMethod yX6_messages, Cond.selects RX6 yX6_messages yX6_messages, Cond.code yX6_messages cX6_messages 1 (some .int), Cond.methodLink RL 184 yL_fateOf, Cond.static yL_fateOf, Cond.codeWith yL_fateOf cL_fateOf 4 (some .int) [(0, 9, 12, 23)]]
def wsL_law0_r28 : List Cond := [Cond.methodLink RL 79 yX5_fateOf, Cond.instanceMethod yX5_fateOf, Cond.selects RX5 yX5_fateOf yX5_fateOf, Cond.code yX5_fateOf cX5_fateOf 2 (some .int), Cond.methodLink RX5 231 yX1_has, Cond.instanceMethod yX1_has, Cond.selects RX1 yX1_has yX1_has, Cond.code yX1_has cX1_has 2 (some .boolean), Cond.methodLink RX5 234 yX1_fateAt, Cond.instanceMethod yX1_fateAt, Cond.selects RX1 yX1_fateAt yX1_fateAt, Cond.code yX1_fateAt cX1_fateAt 2 (some .int), Cond.methodLink RL 186 yX6_fateOf, Cond.instanceMethod yX6_fateOf, Cond.selects RX6 yX6_fateOf yX6_fateOf, Cond.code yX6_fateOf cX6_fateOf 2 (some .int), Cond.methodLink RX6 177 yX6_isMessage, Cond.instanceMethod yX6_isMessage, Cond.selects RX6 yX6_isMessage yX6_isMessage, Cond.code yX6_isMessage cX6_isMessage 2 (some .boolean), Cond.methodLink RL 187 yL_count, Cond.static yL_count, Cond.codeWith yL_count cL_count 4 (some .int) [(0, 9, 12, 23)], Cond.methodLink RL 82 yX5_count]
def wsL_law0_r29 : List Cond := [Cond.instanceMethod yX5_count, Cond.selects RX5 yX5_count yX5_count, Cond.code yX5_count cX5_count 2 (some .int), Cond.methodLink RX5 239 yX1_entriesWith, Cond.instanceMethod yX1_entriesWith, Cond.selects RX1 yX1_entriesWith yX1_entriesWith, Cond.code yX1_entriesWith cX1_entriesWith 4 (some .int), Cond.methodLink RL 189 yX6_count, Cond.instanceMethod yX6_count, Cond.selects RX6 yX6_count yX6_count, Cond.code yX6_count cX6_count 4 (some .int), Cond.methodLink RL 190 yL_targetsOf, Cond.static yL_targetsOf, Cond.codeWith yL_targetsOf cL_targetsOf 4 (some .int) [(0, 9, 12, 23)], Cond.methodLink RL 85 yX5_targetsOf, Cond.instanceMethod yX5_targetsOf, Cond.selects RX5 yX5_targetsOf yX5_targetsOf, Cond.code yX5_targetsOf cX5_targetsOf 2 (some .int), Cond.methodLink RX5 242 yX1_targetsAt, Cond.instanceMethod yX1_targetsAt, Cond.selects RX1 yX1_targetsAt yX1_targetsAt, Cond.code yX1_targetsAt cX1_targetsAt 2 (some .int), Cond.methodLink RL 192 yX6_targetsOf, Cond.instanceMethod yX6_targetsOf]
def wsL_law0_r30 : List Cond := [Cond.selects RX6 yX6_targetsOf yX6_targetsOf, Cond.code yX6_targetsOf cX6_targetsOf 2 (some .int)]
def wsL_law0 : List Cond := (wsL_law0_r1 ++ (wsL_law0_r2 ++ (wsL_law0_r3 ++ (wsL_law0_r4 ++ (wsL_law0_r5 ++ (wsL_law0_r6 ++ (wsL_law0_r7 ++ (wsL_law0_r8 ++ (wsL_law0_r9 ++ (wsL_law0_r10 ++ (wsL_law0_r11 ++ (wsL_law0_r12 ++ (wsL_law0_r13 ++ (wsL_law0_r14 ++ (wsL_law0_r15 ++ (wsL_law0_r16 ++ (wsL_law0_r17 ++ (wsL_law0_r18 ++ (wsL_law0_r19 ++ (wsL_law0_r20 ++ (wsL_law0_r21 ++ (wsL_law0_r22 ++ (wsL_law0_r23 ++ (wsL_law0_r24 ++ (wsL_law0_r25 ++ (wsL_law0_r26 ++ (wsL_law0_r27 ++ (wsL_law0_r28 ++ (wsL_law0_r29 ++ wsL_law0_r30))))))))))))))))))))))))))))) ++ wsX50 ++ wsX60 ++ wsX00 ++ wsX10 ++ wsX40 ++ wsX30 ++ wsX20 ++ ([] : List Cond)
def wsL_law : List Cond := wsL_law0 ++ (vx_atS RX5 67 "java/lang/IllegalArgumentException" ["java/lang/RuntimeException", "java/lang/Exception"]).filter goodWord ++ (vx_atS RX5 84 "java/lang/IndexOutOfBoundsException" ["java/lang/RuntimeException", "java/lang/Exception"]).filter goodWord ++ (vx_atS RX5 126 "java/lang/IllegalStateException" ["java/lang/RuntimeException", "java/lang/Exception"]).filter goodWord
abbrev vwCl : List vw_C := [(RX0, TX0, 6), (RX1, TX1, 3), (RX2, TX2, 10), (RX3, TX3, 5), (RX4, TX4, 9), (RX5, TX5, 9), (RX6, TX6, 34)]
end
section
/-! THE STATIC WORLD: all objects of the class and of the reference are made in constructors; each has a number (its id); `ad` gives the address of an id; the whole mutable state is one function `xH`: id, place (slot or index) to int. -/
abbrev xH : Type := Nat → Nat → Int32
def xup (h : xH) (k j : Nat) (x : Int32) : xH := fun a b => if a = k then (if b = j then x else h a b) else h a b
theorem xup_same {h : xH} {k j : Nat} {x : Int32} : xup h k j x k j = x := by simp [xup]
theorem xup_ne {h : xH} {k j a b : Nat} {x : Int32} (hn : a ≠ k ∨ b ≠ j) : xup h k j x a b = h a b := by
  unfold xup
  by_cases h1 : a = k
  · by_cases h2 : b = j
    · exact absurd h2 (hn.resolve_left (fun q => q h1))
    · rw [if_pos h1, if_neg h2]
  · rw [if_neg h1]
abbrev xL : Type := List (Option Nat)
abbrev xSh : Type := (Nat × Nat × Option Nat) ⊕ (Nat × xL)
/-- the shape of each id: an array (kind, length, of references: the first id) or an object (class, fields: none an int, some q a reference to q) -/
def xsh (k : Nat) : Option xSh :=
  if 10 ≤ k ∧ k < 16 then some (.inr (4, [none, none, none, none, none, none, none, none, none]))
  else if 20 ≤ k ∧ k < 26 then some (.inr (3, [none, none, none, none, none]))
  else if 30 ≤ k ∧ k < 34 then some (.inr (2, [some (k + 10), some (k + 20), none, none, none, none, none, none, none, none]))
  else if 40 ≤ k ∧ k < 44 then some (.inl (0, 400, none))
  else if 50 ≤ k ∧ k < 54 then some (.inl (0, 6, none))
  else if k = 0 then some (.inr (5, [some 1, some 2, some 3, some 4, some 6, none, none, none, none]))
  else if k = 1 then some (.inl (3, 6, some 10))
  else if k = 2 then some (.inl (4, 6, some 20))
  else if k = 3 then some (.inl (5, 4, some 30))
  else if k = 4 then some (.inr (0, [some 5, none, none, none, none, none]))
  else if k = 5 ∨ k = 7 ∨ k = 8 then some (.inl (0, 400, none))
  else if k = 6 then some (.inr (1, [some 7, some 8, none]))
  else if k = 60 then some (.inr (6, [none, none, none, none, none, some 65, some 66, some 67, some 68, some 69, some 70, some 71, some 72, some 73, some 74, some 75, some 76, some 77, some 78, some 79, some 80, some 81, some 82, some 83, none, some 85, none, none, none, none, none, none, some 92, some 93]))
  else if 65 ≤ k ∧ k < 70 then some (.inl (0, 6, none))
  else if k = 70 then some (.inl (1, 6, none))
  else if 71 ≤ k ∧ k < 75 then some (.inl (0, 6, none))
  else if 75 ≤ k ∧ k < 81 then some (.inl (0, 4, none))
  else if k = 81 then some (.inl (0, 28, none))
  else if k = 82 ∨ k = 83 then some (.inl (0, 1600, none))
  else if k = 85 ∨ k = 92 ∨ k = 93 then some (.inl (0, 400, none))
  else if k = 100 then some (.inl (2, 1, none))
  else none
theorem xsS {k : Nat} (hk : 10 ≤ k ∧ k < 16) : xsh k = some (.inr (4, [none, none, none, none, none, none, none, none, none])) := by rw [xsh, if_pos hk]
theorem xsR {k : Nat} (hk : 20 ≤ k ∧ k < 26) : xsh k = some (.inr (3, [none, none, none, none, none])) := by rw [xsh, if_neg (by omega), if_pos hk]
theorem xsF {k : Nat} (hk : 30 ≤ k ∧ k < 34) : xsh k = some (.inr (2, [some (k + 10), some (k + 20), none, none, none, none, none, none, none, none])) := by rw [xsh, if_neg (by omega), if_neg (by omega), if_pos hk]
theorem xsFr {k : Nat} (hk : 30 ≤ k ∧ k < 34) : xsh (k + 10) = some (.inl (0, 400, none)) := by rw [xsh, if_neg (by omega), if_neg (by omega), if_neg (by omega), if_pos (by omega)]
theorem xsFs {k : Nat} (hk : 30 ≤ k ∧ k < 34) : xsh (k + 20) = some (.inl (0, 6, none)) := by rw [xsh, if_neg (by omega), if_neg (by omega), if_neg (by omega), if_neg (by omega), if_pos (by omega)]
theorem xs0 : xsh 0 = some (.inr (5, [some 1, some 2, some 3, some 4, some 6, none, none, none, none])) := by decide +kernel
theorem xs1 : xsh 1 = some (.inl (3, 6, some 10)) := by decide +kernel
theorem xs2 : xsh 2 = some (.inl (4, 6, some 20)) := by decide +kernel
theorem xs3 : xsh 3 = some (.inl (5, 4, some 30)) := by decide +kernel
theorem xs4 : xsh 4 = some (.inr (0, [some 5, none, none, none, none, none])) := by decide +kernel
theorem xs5 : xsh 5 = some (.inl (0, 400, none)) := by decide +kernel
theorem xs6 : xsh 6 = some (.inr (1, [some 7, some 8, none])) := by decide +kernel
theorem xs7 : xsh 7 = some (.inl (0, 400, none)) := by decide +kernel
theorem xs8 : xsh 8 = some (.inl (0, 400, none)) := by decide +kernel
theorem xs60 : xsh 60 = some (.inr (6, [none, none, none, none, none, some 65, some 66, some 67, some 68, some 69, some 70, some 71, some 72, some 73, some 74, some 75, some 76, some 77, some 78, some 79, some 80, some 81, some 82, some 83, none, some 85, none, none, none, none, none, none, some 92, some 93])) := by decide +kernel
theorem xs65 : xsh 65 = some (.inl (0, 6, none)) := by decide +kernel
theorem xs66 : xsh 66 = some (.inl (0, 6, none)) := by decide +kernel
theorem xs67 : xsh 67 = some (.inl (0, 6, none)) := by decide +kernel
theorem xs68 : xsh 68 = some (.inl (0, 6, none)) := by decide +kernel
theorem xs69 : xsh 69 = some (.inl (0, 6, none)) := by decide +kernel
theorem xs70 : xsh 70 = some (.inl (1, 6, none)) := by decide +kernel
theorem xs71 : xsh 71 = some (.inl (0, 6, none)) := by decide +kernel
theorem xs72 : xsh 72 = some (.inl (0, 6, none)) := by decide +kernel
theorem xs73 : xsh 73 = some (.inl (0, 6, none)) := by decide +kernel
theorem xs74 : xsh 74 = some (.inl (0, 6, none)) := by decide +kernel
theorem xs75 : xsh 75 = some (.inl (0, 4, none)) := by decide +kernel
theorem xs76 : xsh 76 = some (.inl (0, 4, none)) := by decide +kernel
theorem xs77 : xsh 77 = some (.inl (0, 4, none)) := by decide +kernel
theorem xs78 : xsh 78 = some (.inl (0, 4, none)) := by decide +kernel
theorem xs79 : xsh 79 = some (.inl (0, 4, none)) := by decide +kernel
theorem xs80 : xsh 80 = some (.inl (0, 4, none)) := by decide +kernel
theorem xs81 : xsh 81 = some (.inl (0, 28, none)) := by decide +kernel
theorem xs82 : xsh 82 = some (.inl (0, 1600, none)) := by decide +kernel
theorem xs83 : xsh 83 = some (.inl (0, 1600, none)) := by decide +kernel
theorem xs85 : xsh 85 = some (.inl (0, 400, none)) := by decide +kernel
theorem xs92 : xsh 92 = some (.inl (0, 400, none)) := by decide +kernel
theorem xs93 : xsh 93 = some (.inl (0, 400, none)) := by decide +kernel
theorem xs100 : xsh 100 = some (.inl (2, 1, none)) := by decide +kernel
def xfv (ad : Nat → Nat) (h : xH) (k j : Nat) (r : Option Nat) : Value := match r with
  | none => .int (h k j)
  | some q => .ref (ad q)
def xfs (ad : Nat → Nat) (h : xH) (k : Nat) (lay : xL) : List Value := lay.mapIdx (fun j r => xfv ad h k j r)
def xent (ad : Nat → Nat) (T : Nat → ClassId) (h : xH) (k : Nat) (sh : xSh) : va_E := match sh with
  | .inl (t, n, none) => if t = 2 then .inl (T t, n, .inr (.inl (fun j => (h k j).toInt64))) else .inl (T t, n, .inl (h k))
  | .inl (t, n, some b) => .inl (T t, n, .inr (.inr (.inr (.inr (fun j => some (ad (b + j)))))))
  | .inr (ci, lay) => .inr (ci, xfs ad h k lay)
theorem xfs_int {ad : Nat → Nat} {h : xH} {k j : Nat} {lay : xL} (hl : lay[j]? = some none) : (xfs ad h k lay)[j]? = some (.int (h k j)) := by
  simp [xfs, hl, xfv]
theorem xfs_ref {ad : Nat → Nat} {h : xH} {k j q : Nat} {lay : xL} (hl : lay[j]? = some (some q)) : (xfs ad h k lay)[j]? = some (.ref (ad q)) := by
  simp [xfs, hl, xfv]
theorem xfs_len {ad : Nat → Nat} {h : xH} {k : Nat} {lay : xL} : (xfs ad h k lay).length = lay.length := by simp [xfs]
theorem xfs_set {ad : Nat → Nat} {h : xH} {k j : Nat} {lay : xL} {x : Int32} (hl : lay[j]? = some none) : (xfs ad h k lay).set j (.int x) = xfs ad (xup h k j x) k lay := by
  apply List.ext_getElem?
  intro i
  have hj : j < lay.length := (List.getElem?_eq_some_iff.mp hl).1
  by_cases e : i = j
  · subst e
    rw [List.getElem?_set_self (by rw [xfs_len]; exact hj), xfs_int hl, xup_same]
  · rw [List.getElem?_set_ne (Ne.symm e)]
    simp only [xfs, List.getElem?_mapIdx]
    cases hq : lay[i]? with
    | none => rfl
    | some r =>
      cases r with
      | none => simp [xfv, xup_ne (Or.inr e)]
      | some q => simp [xfv]
theorem xfs_other {ad : Nat → Nat} {h : xH} {k k' j : Nat} {lay : xL} {x : Int32} (hk : k' ≠ k) : xfs ad (xup h k j x) k' lay = xfs ad h k' lay := by
  apply List.ext_getElem?
  intro i
  simp only [xfs, List.getElem?_mapIdx]
  cases hq : lay[i]? with
  | none => rfl
  | some r =>
    cases r with
    | none => simp [xfv, xup_ne (Or.inl hk)]
    | some q => simp [xfv]
theorem xup_row {h : xH} {k j k' : Nat} {x : Int32} (hk : k' ≠ k) : xup h k j x k' = h k' := by
  funext b
  exact xup_ne (Or.inl hk)
theorem xent_other {ad : Nat → Nat} {T : Nat → ClassId} {h : xH} {k k' j : Nat} {x : Int32} (sh : xSh) (hk : k' ≠ k) : xent ad T (xup h k j x) k' sh = xent ad T h k' sh := by
  match sh with
  | .inl (t, n, none) => simp only [xent, xup_row hk]
  | .inl (t, n, some b) => rfl
  | .inr (ci, lay) => simp only [xent, xfs_other hk]
def XP (ad : Nat → Nat) (D : va_G) (T : Nat → ClassId) (h : xH) (H : Heap) : Prop := ∀ (k : Nat) (sh : xSh), xsh k = some sh → va_at D vwCl (ad k, xent ad T h k sh) H
def XA (B0 : Nat) (ad : Nat → Nat) : Prop := (∀ (i j : Nat) (a b : xSh), xsh i = some a → xsh j = some b → ad i = ad j → i = j) ∧ ∀ (i : Nat) (a : xSh), xsh i = some a → B0 ≤ ad i
abbrev xtys (T : Nat → ClassId) : List (ClassId × FieldType) := [(T 0, .int), (T 1, .boolean), (T 2, .long), (T 3, .object RX4), (T 4, .object RX3), (T 5, .object RX2)]
abbrev XK (D : va_G) (T : Nat → ClassId) (U : State) : Prop := va_K D vwCl (xtys T) U
theorem XP.one {ad : Nat → Nat} {D : va_G} {T : Nat → ClassId} {h : xH} {H : Heap} (hP : XP ad D T h H) {k : Nat} {sh : xSh} (hs : xsh k = some sh) : va_P D vwCl [(ad k, xent ad T h k sh)] H := by
  intro i q hq
  match i, hq with
  | 0, hq => cases hq; exact hP k sh hs
  | i + 1, hq => simp at hq
theorem XP.set {ad : Nat → Nat} {D : va_G} {T : Nat → ClassId} {h : xH} {H H1 : Heap} {B0 : Nat} (hA : XA B0 ad) (hP : XP ad D T h H) {k j : Nat} {x : Int32} {sh : xSh} (hs : xsh k = some sh) (he : va_at D vwCl (ad k, xent ad T (xup h k j x) k sh) H1) (oq : ∀ q : Nat, q ≠ ad k → H1[q]? = H[q]?) : XP ad D T (xup h k j x) H1 := by
  intro k' sh' hs'
  by_cases e : k' = k
  · subst e
    cases hs.symm.trans hs'
    exact he
  · rw [xent_other sh' e]
    exact (hP k' sh' hs').kept (oq (ad k') (fun z => e (hA.1 _ _ _ _ hs' hs z)))
theorem XP.kept {ad : Nat → Nat} {D : va_G} {T : Nat → ClassId} {h : xH} {H H1 : Heap} (hP : XP ad D T h H) (hq : ∀ k sh, xsh k = some sh → H1[ad k]? = H[ad k]?) : XP ad D T h H1 := fun k sh hs => (hP k sh hs).kept (hq k sh hs)
theorem XP.lt {ad : Nat → Nat} {D : va_G} {T : Nat → ClassId} {h : xH} {H : Heap} (hP : XP ad D T h H) {k : Nat} {sh : xSh} (hs : xsh k = some sh) : ad k < H.size := (hP k sh hs).lt
-- what the throws need of the start: words that no method's list holds, texts, two statics
def xEa : String := "java/lang/IllegalArgumentException"
def xEs : String := "java/lang/IllegalStateException"
def xEi : String := "java/lang/IndexOutOfBoundsException"
def xnw : List Cond := [.castable "java/lang/IllegalArgumentException" "java/lang/IllegalArgumentException", .castable "java/lang/IllegalStateException" "java/lang/IllegalStateException", .castable "java/lang/IndexOutOfBoundsException" "java/lang/IndexOutOfBoundsException"]
def xstr : List (Nat × String) := [(65, "burst or seconds is out of range"), (74, "seconds is out of range"), (247, "no such rule"), (82, "no such sender, nor any"), (85, "facilities, severity or target is out of range"), (249, "no such file"), (103, "size, age or kept is out of range"), (245, "no such sender"), (116, "facility, severity, text or length is out of range"), (124, "no more messages can come"), (170, "the file has no lines"), (181, "it is connected"), (186, "it is not connected"), (197, "it is not connected, none is queued, or 5 are in flight"), (202, "none is in flight"), (214, "no such generation"), (220, "no such place"), (232, "no such message"), (237, "no such fate")]
def xncs : List (String × String) := [("java/lang/IllegalArgumentException", "java/lang/IndexOutOfBoundsException"), ("java/lang/IllegalStateException", "java/lang/IndexOutOfBoundsException"), ("java/lang/IllegalStateException", "java/lang/IllegalArgumentException")]
def XN (B0 : Nat) (U : State) (H : Heap) : Prop := (∀ w ∈ xnw, va_Nw w U) ∧ (∀ q ∈ xncs, va_Nc q.1 q.2 U) ∧ (∀ q ∈ xstr, ∃ sa : Nat, vk_R RX5 q.1 q.2 sa U) ∧ vx_Zq Bundle.tN "UNASSIGNED_STACK" Bundle.steD (fun q => B0 ≤ q) U H ∧ vx_Zq Bundle.tN "SUPPRESSED_SENTINEL" Bundle.listD (fun q => B0 ≤ q) U H
theorem xcast_moved {u U : State} (hvm : u.vm.Alike U.vm) {a b : String} (h : va_Nw (.castable a b) u) : va_Nw (.castable a b) U := by
  have h1 : (Cond.castable a b).before #[] (u.setVm U.vm) = true := by
    rw [Cond.castable_setVm hvm]; exact h
  exact va_tabs rfl (rfl : (u.setVm U.vm).vm = U.vm) h1
theorem XN.warm {B0 : Nat} {s U : State} {H : Heap} (hW : s.WarmedH U.vm) (h : XN B0 s H) : XN B0 U H := by
  obtain ⟨h1, h2, h3, h4, h5⟩ := h
  refine ⟨?_, fun q hq => (h2 q hq).moved hW.alike, fun q hq => ?_, h4.moved hW.alike, h5.moved hW.alike⟩
  · intro w hw
    have h9 := h1 w hw
    simp only [xnw, List.mem_cons, List.not_mem_nil, or_false] at hw
    rcases hw with rfl | rfl | rfl <;> exact xcast_moved hW.alike h9
  · obtain ⟨sa, h9⟩ := h3 q hq
    exact ⟨sa, vk_R.warm hW h9⟩
theorem XN.kept {B0 : Nat} {U : State} {H H1 : Heap} (h : XN B0 U H) (hq : ∀ a : Nat, a < H.size → ¬ B0 ≤ a → H1[a]? = H[a]?) : XN B0 U H1 := ⟨h.1, h.2.1, h.2.2.1, h.2.2.2.1.kept hq, h.2.2.2.2.kept hq⟩
theorem XN.call {B0 : Nat} {U : State} {H : Heap} {g : JFrame} {mk : MethodId} {a : Array Value} (h : XN B0 U H) : XN B0 (U.calling g mk a) H := XN.warm (s := U) (U := U.calling g mk a) (State.WarmedH.refl U) h
/-- THE WORLD of a state -/
def XW (B0 : Nat) (ad : Nat → Nat) (D : va_G) (T : Nat → ClassId) (h : xH) (U : State) : Prop := B0 ≤ U.heap.size ∧ XP ad D T h U.heap ∧ XK D T U ∧ XN B0 U U.heap
theorem XW.call {B0 : Nat} {ad : Nat → Nat} {D : va_G} {T : Nat → ClassId} {h : xH} {U : State} {g : JFrame} {mk : MethodId} {a : Array Value} (q : XW B0 ad D T h U) : XW B0 ad D T h (U.calling g mk a) := ⟨q.1, q.2.1, va_K.moved (u := U) (U := U.calling g mk a) (Vm.Alike.refl U.vm) q.2.2.1, q.2.2.2.call⟩
theorem XW.mk {B0 : Nat} {ad : Nat → Nat} {D : va_G} {T : Nat → ClassId} {h : xH} {s U : State} {H : Heap} {locs : List Loc} (hB0 : B0 ≤ s.heap.size) (hP : XP ad D T h H) (hK : XK D T s) (hN : XN B0 s s.heap) (hS : va_S (fun q => B0 ≤ q) s.heap H locs) (hU : U.heap = H) (hW : s.WarmedH U.vm) : XW B0 ad D T h U :=
  ⟨by rw [hU]; exact Nat.le_trans hB0 hS.1, by rw [hU]; exact hP, va_K.moved hW.alike hK, by rw [hU]; exact (hN.kept (fun a h1 h2 => hS.2.1 a h1 h2)).warm hW⟩
-- CONTRACTS: what a method does to the world, by a predicate K on its answer and the new world (its 'wp' is a premise of the contract's theorem)
def XQ {α : Type} (B0 : Nat) (ad : Nat → Nat) (D : va_G) (T : Nat → ClassId) (enc : α → Option Value) (K : α → xH → Prop) : Array Value → State → Outcome → State → Prop := fun _ st o t => (∃ (r : α) (h' : xH), o = .returned (enc r) ∧ K r h' ∧ XP ad D T h' t.heap) ∧ va_F (fun q => B0 ≤ q) st t
def XX (B0 : Nat) (ad : Nat → Nat) (D : va_G) (T : Nat → ClassId) (KX : String → xH → Prop) : String → State → State → Prop := fun E st t => (∃ h' : xH, KX E h' ∧ XP ad D T h' t.heap) ∧ va_F (fun q => B0 ≤ q) st t
abbrev xei : Int32 → Option Value := fun x => some (.int x)
abbrev xev : Unit → Option Value := fun _ => none
abbrev xer (ad : Nat → Nat) : Nat → Option Value := fun k => some (.ref (ad k))
abbrev xeq (ad : Nat → Nat) : Option Nat → Option Value := fun o => some (va_rf (o.map ad))
def XM {α : Type} (l : Launch) (y : MethodName) (ws : List Cond) (rm : Room) (B0 : Nat) (ad : Nat → Nat) (D : va_G) (T : Nat → ClassId) (h : xH) (As : List Value) (enc : α → Option Value) (K : α → xH → Prop) (mc ms : Nat) : Prop :=
  Met l y ws rm (va_Pc As (XW B0 ad D T h)) (XQ B0 ad D T enc K) mc ms (fun q => B0 ≤ q)
def XT {α : Type} (l : Launch) (y : MethodName) (ws : List Cond) (rm : Room) (B0 : Nat) (ad : Nat → Nat) (D : va_G) (T : Nat → ClassId) (h : xH) (As : List Value) (enc : α → Option Value) (K : α → xH → Prop) (KX : String → xH → Prop) (mc ms : Nat) : Prop :=
  vx_Met l y ws rm (va_Pc As (XW B0 ad D T h)) (XQ B0 ad D T enc K) (XX B0 ad D T KX) mc ms (fun q => B0 ≤ q)
theorem xblind {B0 : Nat} {ad : Nat → Nat} {D : va_G} {T : Nat → ClassId} {h : xH} {As : List Value} : FrameBlind (va_Pc As (XW B0 ad D T h)) := fun _ _ _ _ q => ⟨q.1, q.2.call⟩
section XROWS
variable {p : Program} {l : Launch} {e : Env} {R : Room} {s : State} {m : MethodId} {args : Array Value} {below : List Frame} {meth : Method} {c : Code} {H : Heap} {locs : List Loc} {cells slots : Nat} {Q : State → Prop}
variable {cc : ByteArray} {pc : Nat} {ls : Array Slot} {rest : List Value} {ad : Nat → Nat} {D : va_G} {T : Nat → ClassId} {h : xH} {B0 : Nat} {H0 : Heap}
theorem xg_get (hexec : p.tables.exec = Jvm.exec) (hb : c.code = cc) {own ref C : String} {TC : u_T} {N ci index : Nat} {Ts : List Cond} (hts : ∀ w ∈ Ts, w.before args s = true) (hin : ∀ w ∈ u_ws C TC N, w ∈ Ts) (hown : s.vm.findClass own = some m.cls) (hK : XK D T s) (hP : XP ad D T h H) {k : Nat} {lay : xL} (hsh : xsh k = some (.inr (ci, lay))) (hc : vwCl[ci]? = some (C, TC, N)) (j : Nat) (hj : j < N) (hlink : (Cond.fieldLink own index ref (TC j).2.1 (TC j).2.2.1).before args s = true) (hsame : ∀ x, s.fieldFound? (TC j).1 (TC j).2.1 (TC j).2.2.1 = some x → s.fieldFound? ref (TC j).2.1 (TC j).2.2.1 = some x) (hl : lay[j]? = some none) (hdg : decode cc pc = .ok (.getfield index, 3))
    (kk : W p l e R s m args below meth c H locs cells slots Q (F0 m (pc + 3) ls (.int (h k j) :: rest))) : W p l e R s m args below meth c H locs cells slots Q (F0 m pc ls (.ref (ad k) :: rest)) :=
  va_get hexec hb hts hin hown hK (hP.one hsh) 0 rfl hc j hj hlink hsame (xfs_int hl) hdg kk
theorem xg_getr (hexec : p.tables.exec = Jvm.exec) (hb : c.code = cc) {own ref C : String} {TC : u_T} {N ci index : Nat} {Ts : List Cond} (hts : ∀ w ∈ Ts, w.before args s = true) (hin : ∀ w ∈ u_ws C TC N, w ∈ Ts) (hown : s.vm.findClass own = some m.cls) (hK : XK D T s) (hP : XP ad D T h H) {k : Nat} {lay : xL} (hsh : xsh k = some (.inr (ci, lay))) (hc : vwCl[ci]? = some (C, TC, N)) (j : Nat) (hj : j < N) (hlink : (Cond.fieldLink own index ref (TC j).2.1 (TC j).2.2.1).before args s = true) (hsame : ∀ x, s.fieldFound? (TC j).1 (TC j).2.1 (TC j).2.2.1 = some x → s.fieldFound? ref (TC j).2.1 (TC j).2.2.1 = some x) {q : Nat} (hl : lay[j]? = some (some q)) (hdg : decode cc pc = .ok (.getfield index, 3))
    (kk : W p l e R s m args below meth c H locs cells slots Q (F0 m (pc + 3) ls (.ref (ad q) :: rest))) : W p l e R s m args below meth c H locs cells slots Q (F0 m pc ls (.ref (ad k) :: rest)) :=
  va_get hexec hb hts hin hown hK (hP.one hsh) 0 rfl hc j hj hlink hsame (xfs_ref hl) hdg kk
theorem xg_put (hexec : p.tables.exec = Jvm.exec) (hb : c.code = cc) {own ref C : String} {TC : u_T} {N ci index : Nat} {Ts : List Cond} (hts : ∀ w ∈ Ts, w.before args s = true) (hin : ∀ w ∈ u_ws C TC N, w ∈ Ts) (ty0 : Nat → FieldType) (hty : ∀ k, k < N → parseFieldDescriptor (TC k).2.2.1 = some (ty0 k)) (hnm : ∀ a, a < N → ∀ b, b < N → a ≠ b → (TC a).2.1 ≠ (TC b).2.1) (hown : s.vm.findClass own = some m.cls) (hK : XK D T s) (hP : XP ad D T h H) (hA : XA B0 ad) (hS0 : va_S (fun q => B0 ≤ q) H0 H locs) {k : Nat} {lay : xL} (hsh : xsh k = some (.inr (ci, lay))) (hc : vwCl[ci]? = some (C, TC, N)) (j : Nat) (hj : j < N) (hlink : (Cond.fieldLink own index ref (TC j).2.1 (TC j).2.2.1).before args s = true) (hsame : ∀ x, s.fieldFound? (TC j).1 (TC j).2.1 (TC j).2.2.1 = some x → s.fieldFound? ref (TC j).2.1 (TC j).2.2.1 = some x) (hl : lay[j]? = some none) (hfin : (TC j).2.2.2 = false) {ty : FieldType} {x : Int32} (hd : parseFieldDescriptor (TC j).2.2.1 = some ty) (hn : narrow ty (.int x) = .int x) (hfit : fits ty (.int x) = true)
    (hdg : decode cc pc = .ok (.putfield index, 3)) (kk : ∀ (H1 : Heap) (locs1 : List Loc) (h1 : xH), h1 = xup h k j x → XP ad D T h1 H1 → va_S (fun q => B0 ≤ q) H0 H1 locs1 → W p l e R s m args below meth c H1 locs1 cells slots Q (F0 m (pc + 3) ls rest)) : W p l e R s m args below meth c H locs cells slots Q (F0 m pc ls (.int x :: .ref (ad k) :: rest)) := by
  have hap := va_apart (own := own) hts hin ty0 hty hnm hK hc
  obtain ⟨r, h1, cell, q1, q2, q3, q4⟩ := hP k _ hsh
  have hr : r = (C, TC, N) := Option.some.inj (h1.symm.trans hc)
  subst hr
  obtain ⟨hSl, hfc, kC, hkC, hkind⟩ := hK.1 ci _ hc
  obtain ⟨cf, kf, fi, f, hi, hsl⟩ := hSl j hj
  have hlay := hts _ (hin _ (u_in_lay hj))
  unfold u_lay at hlay
  rw [if_neg (by rw [hfin]; decide)] at hlay
  have hst := (u_facts hfc hkC (u_lays hts hin hj) hi).1
  have h6 := u_store hfc hkC hkind hlay hi hd hn hfit
  have hjl : j < (xfs ad h k lay).length := by rw [xfs_len]; exact (List.getElem?_eq_some_iff.mp hl).1
  refine W.putK hexec hb (f := f) ⟨hown, hlink, ⟨_, _, _, hsame _ hi⟩, hst⟩ (by rw [q2]; exact h6) q1 q3 (by rw [hsl]; exact k2_hasslot (q4 j hj)) rfl rfl hdg fun H' e1 e2 e3 => ?_
  rw [hsl] at e1 ⊢
  refine kk H' _ _ rfl (XP.set hA hP hsh ?_ e3) (hS0.put e2 e3 (hA.2 k _ hsh))
  refine ⟨_, hc, ?_⟩
  rw [← xfs_set hl]
  exact t_OB.to (V := updV (vp_V (xfs ad h k lay)) j (.int x)) ⟨_, e1, q2, q3, t_set q4 hap hj (.int x)⟩ (fun i _ => vp_updV_set hjl (.int x) i)
theorem xcell_i {t n : Nat} {k : Nat} (ht : t ≠ 2) : xent ad T h k (.inl (t, n, none)) = .inl (T t, n, .inl (h k)) := by simp [xent, ht]
theorem xupd {k j : Nat} {x : Int32} : upd (h k) j x = xup h k j x k := by
  funext b
  simp only [upd, xup, if_true]
theorem xg_iald (hexec : p.tables.exec = Jvm.exec) (hb : c.code = cc) (hK : XK D T s) (hP : XP ad D T h H) {k n : Nat} (hsh : xsh k = some (.inl (0, n, none))) {i : Int32} (hin : vp_in i n) (hdg : decode cc pc = .ok (.iaload, 1))
    (kk : W p l e R s m args below meth c H locs cells slots Q (F0 m (pc + 1) ls (.int (h k i.toNatClampNeg) :: rest))) : W p l e R s m args below meth c H locs cells slots Q (F0 m pc ls (.int i :: .ref (ad k) :: rest)) :=
  va_iald hexec hb hK (hP.one hsh) 0 0 rfl rfl hin hdg kk
theorem xg_zald (hexec : p.tables.exec = Jvm.exec) (hb : c.code = cc) (hK : XK D T s) (hP : XP ad D T h H) {k n : Nat} (hsh : xsh k = some (.inl (1, n, none))) {i : Int32} (hin : vp_in i n) (hdg : decode cc pc = .ok (.baload, 1))
    (kk : W p l e R s m args below meth c H locs cells slots Q (F0 m (pc + 1) ls (.int (h k i.toNatClampNeg) :: rest))) : W p l e R s m args below meth c H locs cells slots Q (F0 m pc ls (.int i :: .ref (ad k) :: rest)) :=
  va_zald hexec hb hK (hP.one hsh) 0 1 rfl rfl hin hdg kk
theorem xg_lald (hexec : p.tables.exec = Jvm.exec) (hb : c.code = cc) (hK : XK D T s) (hP : XP ad D T h H) {k n : Nat} (hsh : xsh k = some (.inl (2, n, none))) {i : Int32} (hin : vp_in i n) (hdg : decode cc pc = .ok (.laload, 1))
    (kk : W p l e R s m args below meth c H locs cells slots Q (F0 m (pc + 1) ls (.long (h k i.toNatClampNeg).toInt64 :: rest))) : W p l e R s m args below meth c H locs cells slots Q (F0 m pc ls (.int i :: .ref (ad k) :: rest)) :=
  va_lald hexec hb hK (hP.one hsh) 0 2 rfl rfl hin hdg kk
theorem xg_aald (hexec : p.tables.exec = Jvm.exec) (hb : c.code = cc) (hK : XK D T s) (hP : XP ad D T h H) {k t n b : Nat} {C : String} (hsh : xsh k = some (.inl (t, n, some b))) (ht : (xtys T)[t]? = some (T t, .object C)) {i : Int32} (hin : vp_in i n) (hdg : decode cc pc = .ok (.aaload, 1))
    (kk : i.toNatClampNeg < n → W p l e R s m args below meth c H locs cells slots Q (F0 m (pc + 1) ls (.ref (ad (b + i.toNatClampNeg)) :: rest))) : W p l e R s m args below meth c H locs cells slots Q (F0 m pc ls (.int i :: .ref (ad k) :: rest)) :=
  va_aldq hexec hb hK (hP.one hsh) 0 t rfl ht hin hdg (kk (Nat.not_le.mp fun q => hin (Or.inr q)))
theorem xg_alen (hexec : p.tables.exec = Jvm.exec) (hb : c.code = cc) (hK : XK D T s) (hP : XP ad D T h H) {k n : Nat} (hsh : xsh k = some (.inl (0, n, none))) {v : Int32} (hv : Int32.ofNat n = v) (hdg : decode cc pc = .ok (.arraylength, 1))
    (kk : W p l e R s m args below meth c H locs cells slots Q (F0 m (pc + 1) ls (.int v :: rest))) : W p l e R s m args below meth c H locs cells slots Q (F0 m pc ls (.ref (ad k) :: rest)) :=
  va_alen hexec hb hK (hP.one hsh) 0 0 rfl rfl hv hdg kk
theorem xg_iast (hexec : p.tables.exec = Jvm.exec) (hb : c.code = cc) (hK : XK D T s) (hP : XP ad D T h H) (hA : XA B0 ad) (hS : va_S (fun q => B0 ≤ q) H0 H locs) {k n : Nat} (hsh : xsh k = some (.inl (0, n, none))) {i : Int32} {x : Int32} (hin : vp_in i n) (hdg : decode cc pc = .ok (.iastore, 1))
    (kk : ∀ (H1 : Heap) (locs1 : List Loc) (h1 : xH), h1 = xup h k i.toNatClampNeg x → XP ad D T h1 H1 → va_S (fun q => B0 ≤ q) H0 H1 locs1 → W p l e R s m args below meth c H1 locs1 cells slots Q (F0 m (pc + 1) ls rest)) : W p l e R s m args below meth c H locs cells slots Q (F0 m pc ls (.int x :: .int i :: .ref (ad k) :: rest)) := by
  refine W.iast hexec hb (hP k _ hsh) ((hK.2 0 _ rfl).1 n (fun j => .int (h k j))) (fun q => by cases q) (by show ¬ (i < 0 ∨ (arrV _ _ _).slots.size ≤ _); rw [arrV_size]; exact hin) rfl rfl hdg fun H1 e z oq => ?_
  refine kk H1 _ _ rfl (XP.set hA hP hsh ?_ oq) (hS.put z oq (hA.2 k _ hsh))
  rw [xcell_i (by decide)]
  show H1[ad k]? = some (vp_cell _ _)
  rw [e, ← xupd]
  show some ((vp_cell _ (n, .inl (h k))).setSlot _ _) = _
  rw [vp_cell_i, vp_cell_i, arrV_store]
  congr 2
  funext q
  by_cases hq : q = i.toNatClampNeg
  · subst hq
    simp [updV, upd]
  · simp [updV, upd, hq]
theorem xg_zast (hexec : p.tables.exec = Jvm.exec) (hb : c.code = cc) (hK : XK D T s) (hP : XP ad D T h H) (hA : XA B0 ad) (hS : va_S (fun q => B0 ≤ q) H0 H locs) {k n : Nat} (hsh : xsh k = some (.inl (1, n, none))) {i : Int32} {x : Int32} (hx : vp_nar .boolean x = x) (hin : vp_in i n) (hdg : decode cc pc = .ok (.bastore, 1))
    (kk : ∀ (H1 : Heap) (locs1 : List Loc) (h1 : xH), h1 = xup h k i.toNatClampNeg x → XP ad D T h1 H1 → va_S (fun q => B0 ≤ q) H0 H1 locs1 → W p l e R s m args below meth c H1 locs1 cells slots Q (F0 m (pc + 1) ls rest)) : W p l e R s m args below meth c H locs cells slots Q (F0 m pc ls (.int x :: .int i :: .ref (ad k) :: rest)) := by
  refine W.zast hexec hb (hP k _ hsh) ((hK.2 1 _ rfl).1 n (fun j => .int (h k j))) (fun q => by cases q) (by show ¬ (i < 0 ∨ (arrV _ _ _).slots.size ≤ _); rw [arrV_size]; exact hin) rfl rfl hdg fun H1 e z oq => ?_
  refine kk H1 _ _ rfl (XP.set hA hP hsh ?_ oq) (hS.put z oq (hA.2 k _ hsh))
  rw [xcell_i (by decide)]
  show H1[ad k]? = some (vp_cell _ _)
  rw [e, ← xupd]
  show some ((vp_cell _ (n, .inl (h k))).setSlot _ _) = _
  rw [vp_cell_i, vp_cell_i, arrV_store]
  congr 2
  funext q
  by_cases hq : q = i.toNatClampNeg
  · subst hq
    rw [show narrow .boolean (.int x) = .int (vp_nar .boolean x) from rfl, hx]
    simp [updV, upd]
  · simp [updV, upd, hq]
theorem xg_last (hexec : p.tables.exec = Jvm.exec) (hb : c.code = cc) (hK : XK D T s) (hP : XP ad D T h H) (hA : XA B0 ad) (hS : va_S (fun q => B0 ≤ q) H0 H locs) {k n : Nat} (hsh : xsh k = some (.inl (2, n, none))) {i : Int32} {x : Int32} (hin : vp_in i n) (hdg : decode cc pc = .ok (.lastore, 1))
    (kk : ∀ (H1 : Heap) (locs1 : List Loc) (h1 : xH), h1 = xup h k i.toNatClampNeg x → XP ad D T h1 H1 → va_S (fun q => B0 ≤ q) H0 H1 locs1 → W p l e R s m args below meth c H1 locs1 cells slots Q (F0 m (pc + 1) ls rest)) : W p l e R s m args below meth c H locs cells slots Q (F0 m pc ls (.long x.toInt64 :: .int i :: .ref (ad k) :: rest)) := by
  refine W.last hexec hb (hP k _ hsh) ((hK.2 2 _ rfl).1 n (fun j => .long (h k j).toInt64)) (fun q => by cases q) (by show ¬ (i < 0 ∨ (arrV _ _ _).slots.size ≤ _); rw [arrV_size]; exact hin) rfl rfl hdg fun H1 e z oq => ?_
  refine kk H1 _ _ rfl (XP.set hA hP hsh ?_ oq) (hS.put z oq (hA.2 k _ hsh))
  show H1[ad k]? = some (vp_cell _ _)
  rw [e]
  show some ((vp_cell _ (n, .inr (.inl (fun j => (h k j).toInt64)))).setSlot _ _) = _
  rw [vp_cell_l, vp_cell_l, arrV_store]
  congr 2
  funext q
  by_cases hq : q = i.toNatClampNeg
  · subst hq
    simp [updV, xup]
  · simp [updV, xup, hq]
theorem xg_recv {k ci : Nat} {lay : xL} {C : String} {TC : u_T} {N : Nat} (hK : XK D T s) (hP : XP ad D T h H) (hsh : xsh k = some (.inr (ci, lay))) (hc : vwCl[ci]? = some (C, TC, N)) : ∃ cell : Cell, H[ad k]? = some cell ∧ cell.vm.isStatics = false ∧ s.vm.findClass C = some cell.cls :=
  va_recv hK (hP.one hsh) hc (q0 := 0) rfl
theorem xg_preV {k ci : Nat} {lay : xL} {C : String} {TC : u_T} {N : Nat} {As : List Value} (hB0 : B0 ≤ s.heap.size) (hP : XP ad D T h H) (hK : XK D T s) (hN : XN B0 s s.heap) (hS : va_S (fun q => B0 ≤ q) s.heap H locs) (hsh : xsh k = some (.inr (ci, lay))) (hc : vwCl[ci]? = some (C, TC, N)) : PreV s H C (ad k) (va_Pc (.ref (ad k) :: As) (XW B0 ad D T h)) As :=
  ⟨xblind, xg_recv hK hP hsh hc, fun U hU hW => ⟨rfl, XW.mk hB0 hP hK hN hS hU hW⟩⟩
theorem xg_preS {As : List Value} (hB0 : B0 ≤ s.heap.size) (hP : XP ad D T h H) (hK : XK D T s) (hN : XN B0 s s.heap) (hS : va_S (fun q => B0 ≤ q) s.heap H locs) : PreS s H (va_Pc As (XW B0 ad D T h)) As :=
  ⟨xblind, fun U hU hW => ⟨rfl, XW.mk hB0 hP hK hN hS hU hW⟩⟩
variable {mc ms : Nat} {a : Array Value} {st0 : List Value}
theorem xg_keep {st₀ t T' : State} {L : List Loc} (h0 : st₀.heap = H) (e1 : T'.heap = t.heap) (hS : va_S (fun q => B0 ≤ q) H0 H locs) (hL : ∀ q ∈ L, B0 ≤ q.base) (hF : va_F (fun q => B0 ≤ q) st₀ t) : va_S (fun q => B0 ≤ q) H0 T'.heap (locs ++ L) :=
  (vx_keep h0 e1 hS (fun _ _ q => q) (fun _ q => q) hL hF).2.2
theorem xg_call {α : Type} {enc : α → Option Value} {K : α → xH → Prop} (hr : va_Run p l e R s m args below meth c H locs cells slots mc ms (F0 m pc ls st0) rest (XQ B0 ad D T enc K a) (fun q => B0 ≤ q)) (hS : va_S (fun q => B0 ≤ q) H0 H locs)
    (kk : ∀ (r : α) (h' : xH) (H1 : Heap) (locs1 : List Loc), K r h' → XP ad D T h' H1 → va_S (fun q => B0 ≤ q) H0 H1 locs1 → W p l e R s m args below meth c H1 locs1 (cells + mc) (slots + ms) Q (F0 m (pc + 3) ls ((enc r).toList ++ rest))) : W p l e R s m args below meth c H locs cells slots Q (F0 m pc ls st0) := by
  intro U hU X
  obtain ⟨v, st₀, t, T', L, h0, X', hL, e1, e2, ⟨⟨r, h', hv, hq, hw⟩, hF⟩, st⟩ := hr U hU X
  cases hv
  obtain ⟨t2, a1, b1⟩ := kk r h' T'.heap (locs ++ L) hq (by rw [e1]; exact hw) (xg_keep h0 e1 hS hL hF) T' rfl X'
  exact ⟨t2, st t2 a1, b1⟩
theorem xg_calli {K : Int32 → xH → Prop} (hr : va_Run p l e R s m args below meth c H locs cells slots mc ms (F0 m pc ls st0) rest (XQ B0 ad D T xei K a) (fun q => B0 ≤ q)) (hS : va_S (fun q => B0 ≤ q) H0 H locs)
    (kk : ∀ (r : Int32) (h' : xH) (H1 : Heap) (locs1 : List Loc), K r h' → XP ad D T h' H1 → va_S (fun q => B0 ≤ q) H0 H1 locs1 → W p l e R s m args below meth c H1 locs1 (cells + mc) (slots + ms) Q (F0 m (pc + 3) ls (.int r :: rest))) : W p l e R s m args below meth c H locs cells slots Q (F0 m pc ls st0) := xg_call hr hS kk
theorem xg_callv {K : Unit → xH → Prop} (hr : va_Run p l e R s m args below meth c H locs cells slots mc ms (F0 m pc ls st0) rest (XQ B0 ad D T xev K a) (fun q => B0 ≤ q)) (hS : va_S (fun q => B0 ≤ q) H0 H locs)
    (kk : ∀ (r : Unit) (h' : xH) (H1 : Heap) (locs1 : List Loc), K r h' → XP ad D T h' H1 → va_S (fun q => B0 ≤ q) H0 H1 locs1 → W p l e R s m args below meth c H1 locs1 (cells + mc) (slots + ms) Q (F0 m (pc + 3) ls rest)) : W p l e R s m args below meth c H locs cells slots Q (F0 m pc ls st0) := xg_call hr hS kk
theorem xg_callr {K : Nat → xH → Prop} (hr : va_Run p l e R s m args below meth c H locs cells slots mc ms (F0 m pc ls st0) rest (XQ B0 ad D T (xer ad) K a) (fun q => B0 ≤ q)) (hS : va_S (fun q => B0 ≤ q) H0 H locs)
    (kk : ∀ (r : Nat) (h' : xH) (H1 : Heap) (locs1 : List Loc), K r h' → XP ad D T h' H1 → va_S (fun q => B0 ≤ q) H0 H1 locs1 → W p l e R s m args below meth c H1 locs1 (cells + mc) (slots + ms) Q (F0 m (pc + 3) ls (.ref (ad r) :: rest))) : W p l e R s m args below meth c H locs cells slots Q (F0 m pc ls st0) := xg_call hr hS kk
theorem xg_callq {K : Option Nat → xH → Prop} (hr : va_Run p l e R s m args below meth c H locs cells slots mc ms (F0 m pc ls st0) rest (XQ B0 ad D T (xeq ad) K a) (fun q => B0 ≤ q)) (hS : va_S (fun q => B0 ≤ q) H0 H locs)
    (kk : ∀ (r : Option Nat) (h' : xH) (H1 : Heap) (locs1 : List Loc), K r h' → XP ad D T h' H1 → va_S (fun q => B0 ≤ q) H0 H1 locs1 → W p l e R s m args below meth c H1 locs1 (cells + mc) (slots + ms) Q (F0 m (pc + 3) ls (va_rf (r.map ad) :: rest))) : W p l e R s m args below meth c H locs cells slots Q (F0 m pc ls st0) := xg_call hr hS kk
theorem xg_callX {α : Type} {enc : α → Option Value} {K : α → xH → Prop} {KX : String → xH → Prop} (hr : vx_Run p l e R s m args below meth c H locs cells slots mc ms (F0 m pc ls st0) rest (XQ B0 ad D T enc K a) (XX B0 ad D T KX) (fun q => B0 ≤ q)) (hS : va_S (fun q => B0 ≤ q) H0 H locs)
    (kx : ∀ (E : String) (ce : Cell) (q9 : Addr) (h' : xH) (H1 : Heap) (locs1 : List Loc), KX E h' → XP ad D T h' H1 → va_S (fun q => B0 ≤ q) H0 H1 locs1 → H1[q9]? = some ce → ce.vm = .none → s.vm.findClass E = some ce.cls → vx_W p l e R s m args below meth c H1 locs1 (cells + mc) (slots + ms) Q (F0 m pc ls rest) q9)
    (kk : ∀ (r : α) (h' : xH) (H1 : Heap) (locs1 : List Loc), K r h' → XP ad D T h' H1 → va_S (fun q => B0 ≤ q) H0 H1 locs1 → W p l e R s m args below meth c H1 locs1 (cells + mc) (slots + ms) Q (F0 m (pc + 3) ls ((enc r).toList ++ rest))) : W p l e R s m args below meth c H locs cells slots Q (F0 m pc ls st0) := by
  intro U hU X
  rcases hr U hU X with ⟨v, st₀, t, T', L, h0, X', hL, e1, e2, ⟨⟨r, h', hv, hq, hw⟩, hF⟩, st⟩ | ⟨q, st₀, t, T', L, E, ce, h0, X', hL, e1, e2, ⟨⟨h', hq, hw⟩, hF⟩, hce, hcv, hcl, st⟩
  · cases hv
    obtain ⟨t2, a1, b1⟩ := kk r h' T'.heap (locs ++ L) hq (by rw [e1]; exact hw) (xg_keep h0 e1 hS hL hF) T' rfl X'
    exact ⟨t2, st t2 a1, b1⟩
  · obtain ⟨t2, a1, b1⟩ := kx E ce q h' T'.heap (locs ++ L) hq (by rw [e1]; exact hw) (xg_keep h0 e1 hS hL hF) (by rw [e1]; exact hce) hcv hcl T' rfl X'
    exact ⟨t2, st.trans a1, b1⟩
theorem xg_callXi {K : Int32 → xH → Prop} {KX : String → xH → Prop} (hr : vx_Run p l e R s m args below meth c H locs cells slots mc ms (F0 m pc ls st0) rest (XQ B0 ad D T xei K a) (XX B0 ad D T KX) (fun q => B0 ≤ q)) (hS : va_S (fun q => B0 ≤ q) H0 H locs)
    (kx : ∀ (E : String) (ce : Cell) (q9 : Addr) (h' : xH) (H1 : Heap) (locs1 : List Loc), KX E h' → XP ad D T h' H1 → va_S (fun q => B0 ≤ q) H0 H1 locs1 → H1[q9]? = some ce → ce.vm = .none → s.vm.findClass E = some ce.cls → vx_W p l e R s m args below meth c H1 locs1 (cells + mc) (slots + ms) Q (F0 m pc ls rest) q9)
    (kk : ∀ (r : Int32) (h' : xH) (H1 : Heap) (locs1 : List Loc), K r h' → XP ad D T h' H1 → va_S (fun q => B0 ≤ q) H0 H1 locs1 → W p l e R s m args below meth c H1 locs1 (cells + mc) (slots + ms) Q (F0 m (pc + 3) ls (.int r :: rest))) : W p l e R s m args below meth c H locs cells slots Q (F0 m pc ls st0) := xg_callX hr hS kx kk
theorem xg_callXr {K : Nat → xH → Prop} {KX : String → xH → Prop} (hr : vx_Run p l e R s m args below meth c H locs cells slots mc ms (F0 m pc ls st0) rest (XQ B0 ad D T (xer ad) K a) (XX B0 ad D T KX) (fun q => B0 ≤ q)) (hS : va_S (fun q => B0 ≤ q) H0 H locs)
    (kx : ∀ (E : String) (ce : Cell) (q9 : Addr) (h' : xH) (H1 : Heap) (locs1 : List Loc), KX E h' → XP ad D T h' H1 → va_S (fun q => B0 ≤ q) H0 H1 locs1 → H1[q9]? = some ce → ce.vm = .none → s.vm.findClass E = some ce.cls → vx_W p l e R s m args below meth c H1 locs1 (cells + mc) (slots + ms) Q (F0 m pc ls rest) q9)
    (kk : ∀ (r : Nat) (h' : xH) (H1 : Heap) (locs1 : List Loc), K r h' → XP ad D T h' H1 → va_S (fun q => B0 ≤ q) H0 H1 locs1 → W p l e R s m args below meth c H1 locs1 (cells + mc) (slots + ms) Q (F0 m (pc + 3) ls (.ref (ad r) :: rest))) : W p l e R s m args below meth c H locs cells slots Q (F0 m pc ls st0) := xg_callX hr hS kx kk
-- ends
theorem xg_irets {K : Int32 → xH → Prop} {v : Int32} {ty : FieldType} (hexec : p.tables.exec = Jvm.exec) (hb : c.code = cc) (hr : meth.sig.returnType = some ty) (hn : narrow ty (.int v) = .int v) (hlocks : meth.locks = false) (hB0 : B0 ≤ s.heap.size) (hP : XP ad D T h H) (hK : XK D T s) (hN : XN B0 s s.heap) (hS : va_S (fun q => B0 ≤ q) s.heap H locs) (hdg : decode cc pc = .ok (.ireturn, 1)) (hc : cells ≤ mc) (hs : slots ≤ ms) (hw : K v h) : W p l e R s m args below meth c H locs cells slots (MQ below (XQ B0 ad D T xei K) args s mc ms (fun q => B0 ≤ q)) (F0 m pc ls [.int v]) :=
  W.widen hc hs (W.zret hexec hb hr hn (fun t ht hW => ⟨⟨v, h, rfl, hw, by rw [ht]; exact hP⟩, hS.F ht⟩) hS.2.2 hdg)
theorem xg_vrets {K : Unit → xH → Prop} (hexec : p.tables.exec = Jvm.exec) (hb : c.code = cc) (hr : meth.sig.returnType = none) (hlocks : meth.locks = false) (hB0 : B0 ≤ s.heap.size) (hP : XP ad D T h H) (hK : XK D T s) (hN : XN B0 s s.heap) (hS : va_S (fun q => B0 ≤ q) s.heap H locs) (hdg : decode cc pc = .ok (.return_, 1)) (hc : cells ≤ mc) (hs : slots ≤ ms) (hw : K () h) : W p l e R s m args below meth c H locs cells slots (MQ below (XQ B0 ad D T xev K) args s mc ms (fun q => B0 ≤ q)) (F0 m pc ls []) :=
  W.widen hc hs (W.vret hexec hb hr (fun t ht hW => ⟨⟨(), h, rfl, hw, by rw [ht]; exact hP⟩, hS.F ht⟩) hS.2.2 hdg)
theorem xg_throw {α : Type} {enc : α → Option Value} {K : α → xH → Prop} {KX : String → xH → Prop} (hexec : p.tables.exec = Jvm.exec) (hb : c.code = cc) (hl : l.stackTraces = false) {cls text : String} {ik is ic : Nat}
    (hown : s.vm.findClass RX5 = some m.cls) (hcls : Bundle.fit cls = true)
    (hk : (Cond.classLink RX5 ik cls).before args s = true) (hini : (Cond.initialized cls).before args s = true) (hat : ∀ w ∈ (vx_atS RX5 ic cls ["java/lang/RuntimeException", "java/lang/Exception"]).filter goodWord, w.before args s = true)
    (hng : ∀ w ∈ (vx_atS RX5 ic cls ["java/lang/RuntimeException", "java/lang/Exception"]).filter (fun w => !goodWord w), w ∈ xnw) (hgood : ∀ w ∈ Cond.classLink RX5 ik cls :: Cond.initialized cls :: vx_atS RX5 ic cls ["java/lang/RuntimeException", "java/lang/Exception"], vx_ot w = true)
    (hstr : (is, text) ∈ xstr) (hB0 : B0 ≤ s.heap.size) (hP : XP ad D T h H) (hK : XK D T s) (hN : XN B0 s s.heap) (hS : va_S (fun q => B0 ≤ q) s.heap H locs) (hsize : ls.size = c.maxLocals)
    (d0 : decode cc pc = .ok (.new ik, 3)) (d3 : decode cc (pc + 3) = .ok (.dup, 1)) (d4 : decode cc (pc + 4) = .ok (.ldc is, 2)) (d6 : decode cc (pc + 6) = .ok (.invokespecial ic, 3)) (d9 : decode cc (pc + 9) = .ok (.athrow, 1))
    (hout : ∀ x ∈ c.exceptionTable.toList, False)
    (hRframes : 5 < R.frames) (hRlocals : (rest.map fun v => v.category).sum + 82 ≤ R.locals) (hRcells : cells + 1 ≤ R.cells) (hRslots : slots + 6 ≤ R.slots) (hlocks : meth.locks = false)
    (hc : cells + 1 ≤ mc) (hs : slots + 6 ≤ ms) (hw : KX cls h) :
    W p l e R s m args below meth c H locs cells slots (vx_MQ below (XQ B0 ad D T enc K) (XX B0 ad D T KX) args s mc ms (fun q => B0 ≤ q)) (F0 m pc ls rest) := by
  obtain ⟨sa, hsa⟩ := hN.2.2.1 _ hstr
  have hat' : ∀ w ∈ vx_atS RX5 ic cls ["java/lang/RuntimeException", "java/lang/Exception"], w.before args s = true := by
    intro w hwm
    by_cases g : goodWord w = true
    · exact hat w (List.mem_filter.mpr ⟨hwm, g⟩)
    · have hm := hng w (List.mem_filter.mpr ⟨hwm, by cases hgw : goodWord w; rfl; exact absurd hgw g⟩)
      have h9 := hN.1 w hm
      simp only [xnw, List.mem_cons, List.not_mem_nil, or_false] at hm
      rcases hm with rfl | rfl | rfl <;> exact va_tabs rfl rfl h9
  refine vx_throwS (names := ["java/lang/RuntimeException", "java/lang/Exception"]) (A := fun q => B0 ≤ q) hexec hb hl hown hcls (by decide +kernel) hk hini hsa hat' hgood hN.2.2.2.1 hN.2.2.2.2 hS hsize d0 d3 d4 d6 d9 (fun x hx => (hout x hx).elim) hRframes hRlocals hRcells hRslots hlocks ?_ hS.2.2 hc hs
  intro t hvm hz hq
  have hF : va_F (fun q => B0 ≤ q) s t := ⟨Nat.le_trans hS.1 hz, fun q h1 h2 => by rw [hq q (Nat.lt_of_lt_of_le h1 hS.1)]; exact hS.2.1 q h1 h2⟩
  exact ⟨⟨h, hw, hP.kept (fun k sh hs => hq _ (hP.lt hs))⟩, hF⟩
end XROWS
end
