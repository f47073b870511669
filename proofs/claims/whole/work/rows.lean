section
-- ===== PART A: goes FIRST, ahead of the names: the tables' words, and 'selects' of the private methods out of them =====
/-- a private method of a class that the tables say can be made, by its rows of tables_1 -/
def lw_okq (q : MethodName × Nat) : Prop := (q.1.cls ≠ "java/lang/invoke/MethodHandle" ∧ q.1.cls ≠ "java/lang/invoke/VarHandle") ∧ Cond.instantiable q.1.cls q.2 ∈ tables_1 ∧ Cond.privateMethod q.1 ∈ tables_1 ∧ Cond.instanceMethod q.1 ∈ tables_1
theorem lw_p0 : lw_okq (⟨"java/lang/Throwable", "fillInStackTrace", "(I)Ljava/lang/Throwable;"⟩, 6) := ⟨⟨by decide +kernel, by decide +kernel⟩, List.mem_of_getElem? (i := 286) (by decide +kernel), List.mem_of_getElem? (i := 284) (by decide +kernel), List.mem_of_getElem? (i := 285) (by decide +kernel)⟩
theorem lw_p1 : lw_okq (⟨"LogSpooler", "ruleAt", "(I)LLogSpooler$Rule;"⟩, 9) := ⟨⟨by decide +kernel, by decide +kernel⟩, List.mem_of_getElem? (i := 15) (by decide +kernel), List.mem_of_getElem? (i := 336) (by decide +kernel), List.mem_of_getElem? (i := 337) (by decide +kernel)⟩
theorem lw_p2 : lw_okq (⟨"LogSpooler", "rulesThatAreSet", "()I"⟩, 9) := ⟨⟨by decide +kernel, by decide +kernel⟩, List.mem_of_getElem? (i := 15) (by decide +kernel), List.mem_of_getElem? (i := 362) (by decide +kernel), List.mem_of_getElem? (i := 363) (by decide +kernel)⟩
theorem lw_p3 : lw_okq (⟨"LogSpooler", "fileAt", "(I)LLogSpooler$LogFile;"⟩, 9) := ⟨⟨by decide +kernel, by decide +kernel⟩, List.mem_of_getElem? (i := 15) (by decide +kernel), List.mem_of_getElem? (i := 380) (by decide +kernel), List.mem_of_getElem? (i := 381) (by decide +kernel)⟩
theorem lw_p4 : lw_okq (⟨"LogSpooler", "senderAt", "(I)LLogSpooler$Sender;"⟩, 9) := ⟨⟨by decide +kernel, by decide +kernel⟩, List.mem_of_getElem? (i := 15) (by decide +kernel), List.mem_of_getElem? (i := 398) (by decide +kernel), List.mem_of_getElem? (i := 399) (by decide +kernel)⟩
theorem lw_p5 : lw_okq (⟨"LogSpooler", "tellRepeats", "(LLogSpooler$Sender;)V"⟩, 9) := ⟨⟨by decide +kernel, by decide +kernel⟩, List.mem_of_getElem? (i := 15) (by decide +kernel), List.mem_of_getElem? (i := 436) (by decide +kernel), List.mem_of_getElem? (i := 437) (by decide +kernel)⟩
theorem lw_p6 : lw_okq (⟨"LogSpooler", "route", "(IIIII)I"⟩, 9) := ⟨⟨by decide +kernel, by decide +kernel⟩, List.mem_of_getElem? (i := 15) (by decide +kernel), List.mem_of_getElem? (i := 440) (by decide +kernel), List.mem_of_getElem? (i := 441) (by decide +kernel)⟩
theorem lw_p7 : lw_okq (⟨"LogSpooler", "tellDrops", "(LLogSpooler$Sender;)V"⟩, 9) := ⟨⟨by decide +kernel, by decide +kernel⟩, List.mem_of_getElem? (i := 15) (by decide +kernel), List.mem_of_getElem? (i := 464) (by decide +kernel), List.mem_of_getElem? (i := 465) (by decide +kernel)⟩
theorem lw_p8 : lw_okq (⟨"LogSpooler", "rotationsOfAllFiles", "()I"⟩, 9) := ⟨⟨by decide +kernel, by decide +kernel⟩, List.mem_of_getElem? (i := 15) (by decide +kernel), List.mem_of_getElem? (i := 480) (by decide +kernel), List.mem_of_getElem? (i := 481) (by decide +kernel)⟩
theorem lw_p9 : lw_okq (⟨"LogSpooler", "passOneSecond", "()V"⟩, 9) := ⟨⟨by decide +kernel, by decide +kernel⟩, List.mem_of_getElem? (i := 15) (by decide +kernel), List.mem_of_getElem? (i := 484) (by decide +kernel), List.mem_of_getElem? (i := 485) (by decide +kernel)⟩
theorem lw_p10 : lw_okq (⟨"LogSpooler", "giveTokens", "()V"⟩, 9) := ⟨⟨by decide +kernel, by decide +kernel⟩, List.mem_of_getElem? (i := 15) (by decide +kernel), List.mem_of_getElem? (i := 488) (by decide +kernel), List.mem_of_getElem? (i := 489) (by decide +kernel)⟩
theorem lw_p11 : lw_okq (⟨"LogSpooler", "tellDueRepeats", "()V"⟩, 9) := ⟨⟨by decide +kernel, by decide +kernel⟩, List.mem_of_getElem? (i := 15) (by decide +kernel), List.mem_of_getElem? (i := 496) (by decide +kernel), List.mem_of_getElem? (i := 497) (by decide +kernel)⟩
theorem lw_p12 : lw_okq (⟨"LogSpooler", "firstWithDueRepeats", "()LLogSpooler$Sender;"⟩, 9) := ⟨⟨by decide +kernel, by decide +kernel⟩, List.mem_of_getElem? (i := 15) (by decide +kernel), List.mem_of_getElem? (i := 500) (by decide +kernel), List.mem_of_getElem? (i := 501) (by decide +kernel)⟩
theorem lw_p13 : lw_okq (⟨"LogSpooler", "rotateAgedFiles", "()V"⟩, 9) := ⟨⟨by decide +kernel, by decide +kernel⟩, List.mem_of_getElem? (i := 15) (by decide +kernel), List.mem_of_getElem? (i := 504) (by decide +kernel), List.mem_of_getElem? (i := 505) (by decide +kernel)⟩
theorem lw_p14 : lw_okq (⟨"LogSpooler$Forwarder", "lineAt", "(I)I"⟩, 6) := ⟨⟨by decide +kernel, by decide +kernel⟩, List.mem_of_getElem? (i := 29) (by decide +kernel), List.mem_of_getElem? (i := 560) (by decide +kernel), List.mem_of_getElem? (i := 561) (by decide +kernel)⟩
theorem lw_p15 : lw_okq (⟨"LogSpooler$LogFile", "startOf", "(I)I"⟩, 10) := ⟨⟨by decide +kernel, by decide +kernel⟩, List.mem_of_getElem? (i := 137) (by decide +kernel), List.mem_of_getElem? (i := 620) (by decide +kernel), List.mem_of_getElem? (i := 621) (by decide +kernel)⟩
def lw_privs_1 : List (MethodName × Nat) := [(⟨"java/lang/Throwable", "fillInStackTrace", "(I)Ljava/lang/Throwable;"⟩, 6), (⟨"LogSpooler", "ruleAt", "(I)LLogSpooler$Rule;"⟩, 9), (⟨"LogSpooler", "rulesThatAreSet", "()I"⟩, 9), (⟨"LogSpooler", "fileAt", "(I)LLogSpooler$LogFile;"⟩, 9), (⟨"LogSpooler", "senderAt", "(I)LLogSpooler$Sender;"⟩, 9), (⟨"LogSpooler", "tellRepeats", "(LLogSpooler$Sender;)V"⟩, 9), (⟨"LogSpooler", "route", "(IIIII)I"⟩, 9), (⟨"LogSpooler", "tellDrops", "(LLogSpooler$Sender;)V"⟩, 9), (⟨"LogSpooler", "rotationsOfAllFiles", "()I"⟩, 9), (⟨"LogSpooler", "passOneSecond", "()V"⟩, 9), (⟨"LogSpooler", "giveTokens", "()V"⟩, 9), (⟨"LogSpooler", "tellDueRepeats", "()V"⟩, 9), (⟨"LogSpooler", "firstWithDueRepeats", "()LLogSpooler$Sender;"⟩, 9), (⟨"LogSpooler", "rotateAgedFiles", "()V"⟩, 9), (⟨"LogSpooler$Forwarder", "lineAt", "(I)I"⟩, 6), (⟨"LogSpooler$LogFile", "startOf", "(I)I"⟩, 10)]
theorem lw_r1 : ∀ q ∈ lw_privs_1, lw_okq q := List.forall_mem_cons.mpr ⟨lw_p0, List.forall_mem_cons.mpr ⟨lw_p1, List.forall_mem_cons.mpr ⟨lw_p2, List.forall_mem_cons.mpr ⟨lw_p3, List.forall_mem_cons.mpr ⟨lw_p4, List.forall_mem_cons.mpr ⟨lw_p5, List.forall_mem_cons.mpr ⟨lw_p6, List.forall_mem_cons.mpr ⟨lw_p7, List.forall_mem_cons.mpr ⟨lw_p8, List.forall_mem_cons.mpr ⟨lw_p9, List.forall_mem_cons.mpr ⟨lw_p10, List.forall_mem_cons.mpr ⟨lw_p11, List.forall_mem_cons.mpr ⟨lw_p12, List.forall_mem_cons.mpr ⟨lw_p13, List.forall_mem_cons.mpr ⟨lw_p14, List.forall_mem_cons.mpr ⟨lw_p15, fun _ h => absurd h List.not_mem_nil⟩⟩⟩⟩⟩⟩⟩⟩⟩⟩⟩⟩⟩⟩⟩⟩
theorem lw_p16 : lw_okq (⟨"LogSpoolerModel", "holds", "(I)Z"⟩, 34) := ⟨⟨by decide +kernel, by decide +kernel⟩, List.mem_of_getElem? (i := 682) (by decide +kernel), List.mem_of_getElem? (i := 803) (by decide +kernel), List.mem_of_getElem? (i := 804) (by decide +kernel)⟩
theorem lw_p17 : lw_okq (⟨"LogSpoolerModel", "notes", "(II)I"⟩, 34) := ⟨⟨by decide +kernel, by decide +kernel⟩, List.mem_of_getElem? (i := 682) (by decide +kernel), List.mem_of_getElem? (i := 831) (by decide +kernel), List.mem_of_getElem? (i := 832) (by decide +kernel)⟩
theorem lw_p18 : lw_okq (⟨"LogSpoolerModel", "tellsRepeats", "(I)V"⟩, 34) := ⟨⟨by decide +kernel, by decide +kernel⟩, List.mem_of_getElem? (i := 682) (by decide +kernel), List.mem_of_getElem? (i := 835) (by decide +kernel), List.mem_of_getElem? (i := 836) (by decide +kernel)⟩
theorem lw_p19 : lw_okq (⟨"LogSpoolerModel", "goes", "(IIIII)I"⟩, 34) := ⟨⟨by decide +kernel, by decide +kernel⟩, List.mem_of_getElem? (i := 682) (by decide +kernel), List.mem_of_getElem? (i := 839) (by decide +kernel), List.mem_of_getElem? (i := 840) (by decide +kernel)⟩
theorem lw_p20 : lw_okq (⟨"LogSpoolerModel", "forwards", "(I)V"⟩, 34) := ⟨⟨by decide +kernel, by decide +kernel⟩, List.mem_of_getElem? (i := 682) (by decide +kernel), List.mem_of_getElem? (i := 843) (by decide +kernel), List.mem_of_getElem? (i := 844) (by decide +kernel)⟩
theorem lw_p21 : lw_okq (⟨"LogSpoolerModel", "comesTo", "(III)V"⟩, 34) := ⟨⟨by decide +kernel, by decide +kernel⟩, List.mem_of_getElem? (i := 682) (by decide +kernel), List.mem_of_getElem? (i := 847) (by decide +kernel), List.mem_of_getElem? (i := 848) (by decide +kernel)⟩
theorem lw_p22 : lw_okq (⟨"LogSpoolerModel", "linesOf", "(I)I"⟩, 34) := ⟨⟨by decide +kernel, by decide +kernel⟩, List.mem_of_getElem? (i := 682) (by decide +kernel), List.mem_of_getElem? (i := 851) (by decide +kernel), List.mem_of_getElem? (i := 852) (by decide +kernel)⟩
theorem lw_p23 : lw_okq (⟨"LogSpoolerModel", "rotates", "(I)V"⟩, 34) := ⟨⟨by decide +kernel, by decide +kernel⟩, List.mem_of_getElem? (i := 682) (by decide +kernel), List.mem_of_getElem? (i := 855) (by decide +kernel), List.mem_of_getElem? (i := 856) (by decide +kernel)⟩
theorem lw_p24 : lw_okq (⟨"LogSpoolerModel", "tellsDrops", "(I)V"⟩, 34) := ⟨⟨by decide +kernel, by decide +kernel⟩, List.mem_of_getElem? (i := 682) (by decide +kernel), List.mem_of_getElem? (i := 859) (by decide +kernel), List.mem_of_getElem? (i := 860) (by decide +kernel)⟩
theorem lw_p25 : lw_okq (⟨"LogSpoolerModel", "passes", "()V"⟩, 34) := ⟨⟨by decide +kernel, by decide +kernel⟩, List.mem_of_getElem? (i := 682) (by decide +kernel), List.mem_of_getElem? (i := 868) (by decide +kernel), List.mem_of_getElem? (i := 869) (by decide +kernel)⟩
theorem lw_p26 : lw_okq (⟨"LogSpoolerModel", "due", "()I"⟩, 34) := ⟨⟨by decide +kernel, by decide +kernel⟩, List.mem_of_getElem? (i := 682) (by decide +kernel), List.mem_of_getElem? (i := 872) (by decide +kernel), List.mem_of_getElem? (i := 873) (by decide +kernel)⟩
theorem lw_p27 : lw_okq (⟨"LogSpoolerModel", "isSender", "(I)Z"⟩, 34) := ⟨⟨by decide +kernel, by decide +kernel⟩, List.mem_of_getElem? (i := 682) (by decide +kernel), List.mem_of_getElem? (i := 904) (by decide +kernel), List.mem_of_getElem? (i := 905) (by decide +kernel)⟩
theorem lw_p28 : lw_okq (⟨"LogSpoolerModel", "isPart", "(II)Z"⟩, 34) := ⟨⟨by decide +kernel, by decide +kernel⟩, List.mem_of_getElem? (i := 682) (by decide +kernel), List.mem_of_getElem? (i := 924) (by decide +kernel), List.mem_of_getElem? (i := 925) (by decide +kernel)⟩
theorem lw_p29 : lw_okq (⟨"LogSpoolerModel", "endOf", "(II)I"⟩, 34) := ⟨⟨by decide +kernel, by decide +kernel⟩, List.mem_of_getElem? (i := 682) (by decide +kernel), List.mem_of_getElem? (i := 928) (by decide +kernel), List.mem_of_getElem? (i := 929) (by decide +kernel)⟩
theorem lw_p30 : lw_okq (⟨"LogSpoolerModel", "startOf", "(II)I"⟩, 34) := ⟨⟨by decide +kernel, by decide +kernel⟩, List.mem_of_getElem? (i := 682) (by decide +kernel), List.mem_of_getElem? (i := 932) (by decide +kernel), List.mem_of_getElem? (i := 933) (by decide +kernel)⟩
theorem lw_p31 : lw_okq (⟨"LogSpoolerModel", "isMessage", "(I)Z"⟩, 34) := ⟨⟨by decide +kernel, by decide +kernel⟩, List.mem_of_getElem? (i := 682) (by decide +kernel), List.mem_of_getElem? (i := 968) (by decide +kernel), List.mem_of_getElem? (i := 969) (by decide +kernel)⟩
def lw_privs_2 : List (MethodName × Nat) := [(⟨"LogSpoolerModel", "holds", "(I)Z"⟩, 34), (⟨"LogSpoolerModel", "notes", "(II)I"⟩, 34), (⟨"LogSpoolerModel", "tellsRepeats", "(I)V"⟩, 34), (⟨"LogSpoolerModel", "goes", "(IIIII)I"⟩, 34), (⟨"LogSpoolerModel", "forwards", "(I)V"⟩, 34), (⟨"LogSpoolerModel", "comesTo", "(III)V"⟩, 34), (⟨"LogSpoolerModel", "linesOf", "(I)I"⟩, 34), (⟨"LogSpoolerModel", "rotates", "(I)V"⟩, 34), (⟨"LogSpoolerModel", "tellsDrops", "(I)V"⟩, 34), (⟨"LogSpoolerModel", "passes", "()V"⟩, 34), (⟨"LogSpoolerModel", "due", "()I"⟩, 34), (⟨"LogSpoolerModel", "isSender", "(I)Z"⟩, 34), (⟨"LogSpoolerModel", "isPart", "(II)Z"⟩, 34), (⟨"LogSpoolerModel", "endOf", "(II)I"⟩, 34), (⟨"LogSpoolerModel", "startOf", "(II)I"⟩, 34), (⟨"LogSpoolerModel", "isMessage", "(I)Z"⟩, 34)]
theorem lw_r2 : ∀ q ∈ lw_privs_2, lw_okq q := List.forall_mem_cons.mpr ⟨lw_p16, List.forall_mem_cons.mpr ⟨lw_p17, List.forall_mem_cons.mpr ⟨lw_p18, List.forall_mem_cons.mpr ⟨lw_p19, List.forall_mem_cons.mpr ⟨lw_p20, List.forall_mem_cons.mpr ⟨lw_p21, List.forall_mem_cons.mpr ⟨lw_p22, List.forall_mem_cons.mpr ⟨lw_p23, List.forall_mem_cons.mpr ⟨lw_p24, List.forall_mem_cons.mpr ⟨lw_p25, List.forall_mem_cons.mpr ⟨lw_p26, List.forall_mem_cons.mpr ⟨lw_p27, List.forall_mem_cons.mpr ⟨lw_p28, List.forall_mem_cons.mpr ⟨lw_p29, List.forall_mem_cons.mpr ⟨lw_p30, List.forall_mem_cons.mpr ⟨lw_p31, fun _ h => absurd h List.not_mem_nil⟩⟩⟩⟩⟩⟩⟩⟩⟩⟩⟩⟩⟩⟩⟩⟩
def lw_privs : List (MethodName × Nat) := lw_privs_1 ++ (lw_privs_2)
def lw_tbl : List Cond := k2_sels lw_privs ++ tables_1
theorem lw_privs_ok : ∀ q ∈ lw_privs, lw_okq q := by
  show ∀ q ∈ lw_privs_1 ++ (lw_privs_2), lw_okq q
  exact List.forall_mem_append.mpr ⟨lw_r1, lw_r2⟩
-- ===== end of PART A; then your names; then what follows =====
/-! ===== BEGIN words of one list among another's, by their places ===== -/
theorem goodIn_r {big : List Cond} (ws : List Cond) (ps : List Nat) (hp : ws = ps.filterMap (fun i => big[i]?)) (h : ws.all goodWord = true) : GoodIn big ws := by
  intro w hw
  have h1 := List.all_eq_true.mp h w hw
  rw [hp] at hw
  obtain ⟨i, -, hi⟩ := List.mem_filterMap.mp hw
  have hm : w ∈ big := by first | exact List.mem_of_getElem? hi | exact List.getElem?_mem hi
  exact ⟨hm, good_of_word h1⟩
theorem goodIn_app {big a b : List Cond} (ha : GoodIn big a) (hb : GoodIn big b) : GoodIn big (a ++ b) := fun w h => (List.mem_append.mp h).elim (ha w) (hb w)
theorem goodIn_ca {big a b : List Cond} {c : Cond} (ha : GoodIn big (c :: a)) (hb : GoodIn big b) : GoodIn big (c :: (a ++ b)) := fun w h => (List.mem_cons.mp h).elim (fun e => ha w (List.mem_cons.mpr (Or.inl e))) (fun h => (List.mem_append.mp h).elim (fun h => ha w (List.mem_cons.mpr (Or.inr h))) (hb w))
theorem goodIn_sub {big ws : List Cond} (hm : ∀ w ∈ ws, w ∈ big) (h : ws.all goodWord = true) : GoodIn big ws := fun w hw => ⟨hm w hw, good_of_word (List.all_eq_true.mp h w hw)⟩
/-! ===== END ===== -/

/-! ===== BEGIN exceptions that leave a method, and their catching by the caller (launches without stack traces) ===== -/
section VXA
/-! The laws vx_back, vx_callV, vx_callS, vx_callSW, vx_throw0, vx_throwS follow proofs of the library, with one case more: JvmDerived/Free/Laws.lean (Back.of_free), Shelf42/LK1.lean (callV, callS), Shelf/KitTraced.lean (throwNew0V, throwNewS). -/
/-- where a method has thrown q: the class by its name, the cell, what was written, the world -/
def vx_T (XC : String → State → State → Prop) (st : State) (q : Addr) (t : State) (mc ms : Nat) (free : Addr → Prop) : Prop :=
  ∃ (E : String) (ce : Cell) (L : List Loc), XC E st t ∧ t.heap[q]? = some ce ∧ ce.vm = .none ∧ st.vm.findClass E = some ce.cls ∧ st.WarmedH t.vm ∧ st.sameButNew ({ t with vm := st.vm } : State) L mc ms ∧ ∀ z ∈ L, free z.base
def vx_Q (Qc : Array Value → State → Outcome → State → Prop) (XC : String → State → State → Prop) (mc ms : Nat) (free : Addr → Prop) : Array Value → State → Outcome → State → Prop := fun a st o t =>
  (Qc a st o t ∧ ∃ L, FrameEnd st o t L mc ms ∧ ∀ q ∈ L, free q.base) ∨ ∃ q, o = .threw q ∧ vx_T XC st q t mc ms free
/-- a callee that returns or throws -/
def vx_Met (l : Launch) (y : MethodName) (ws : List Cond) (rm : Room) (Pc : Array Value → State → Prop) (Qc : Array Value → State → Outcome → State → Prop) (XC : String → State → State → Prop) (mc ms : Nat) (free : Addr → Prop) : Prop :=
  MetFree l y (headSpec ws rm) Pc (fun _ _ _ _ _ => True) (vx_Q Qc XC mc ms free)
def vx_Post (XC : String → State → State → Prop) (mc ms : Nat) (free : Addr → Prop) : Pt → Array Value → Addr → Pt → Prop := fun A a q B =>
  ∃ (g : JFrame) (mk : MethodId) (t : State) (L : List Loc) (E : String) (ce : Cell), B.U.heap = t.heap ∧ B.U.vm = t.vm ∧ XC E (A.U.calling g mk a) t ∧ t.heap[q]? = some ce ∧ ce.vm = .none ∧ A.U.vm.findClass E = some ce.cls ∧ B.locs = A.locs ++ L ∧ (∀ z ∈ L, free z.base) ∧ B.cells = A.cells + mc ∧ B.slots = A.slots + ms
def vx_Back (l : Launch) (R : Room) (p : Program) (e : Env) (below : List Frame) (s : State) (sargs : Array Value) (y : MethodName) (len W9 : Nat)
    (Pre : Pt → Array Value → Prop) (Post : Pt → Array Value → Option Value → Pt → Prop) (PostX : Pt → Array Value → Addr → Pt → Prop) : Prop :=
  ∀ (m : MethodId) (meth : Method) (c : Code) (A : Pt) (g : JFrame) (ig : Instr) (mk : MethodId) (a : Array Value),
    Stand p l e R s m sargs below meth c A.U A.locs A.cells A.slots → g.method = m → g.locals.size = c.maxLocals → decode c.code g.pc = .ok (ig, len) →
    2 * g.monitorRoom + (g.stack.map fun v => v.category).sum ≤ W9 → A.U.methodNamed? y = some mk → Pre A a →
    (∃ (v : Option Value) (B : Pt), Stand p l e R s m sargs below meth c B.U B.locs B.cells B.slots ∧ Post A a v B ∧
      Steps p.tables e below (doInvoke e (A.U.setTop g) [] mk a).1 (B.U.setTop { g with pc := g.pc + len, stack := v.toList ++ g.stack })) ∨
    (∃ (q : Addr) (B : Pt), Stand p l e R s m sargs below meth c B.U B.locs B.cells B.slots ∧ PostX A a q B ∧
      Steps p.tables e below (doInvoke e (A.U.setTop g) [] mk a).1 ((B.U.setTop g).pushFrame (.throwing q)))
section Payer
variable {l : Launch} {R : Room} {p : Program} {e : Env} {below : List Frame} {s : State} {sargs : Array Value} {y : MethodName} {len W9 : Nat}
theorem vx_back {ws : List Cond} {rm : Room} {Pc : Array Value → State → Prop} {Qc : Array Value → State → Outcome → State → Prop} {XC : String → State → State → Prop} {mc ms : Nat} {free : Addr → Prop} {bytes : ByteArray} {maxL : Nat} {ret : Option FieldType}
    (hM : vx_Met l y ws rm Pc Qc XC mc ms free) (hblind : FrameBlind Pc) (hrc : rm.cells = mc) (hrs : rm.slots = ms)
    (hframes : rm.frames + 1 ≤ R.frames) (hlocals : W9 + (maxL + 11) + rm.locals ≤ R.locals)
    (hws : ∀ w ∈ ws, ∀ a' U, s.WarmedH U.vm → w.before a' U = true) (hcode : Cond.code y bytes maxL ret ∈ ws) (hinit : ∀ a' U, s.WarmedH U.vm → (Cond.initialized y.cls).before a' U = true) :
    vx_Back l R p e below s sargs y len W9 (PreOf R mc ms Pc) (PostOf Qc mc ms free) (vx_Post XC mc ms free) := by
  intro m meth c A g ig mk a X hg hsize hdg hW hn hp
  have h1 : (headSpec ws rm).pre.before a A.U = true := atoms_intro fun w hw => hws w hw _ _ X.warmed
  have h2 : (Cond.code y bytes maxL ret).before a A.U = true := hws _ hcode _ _ X.warmed
  have h3 : (Cond.initialized y.cls).before a A.U = true := hinit _ _ X.warmed
  have h4 : A.cells + (headSpec ws rm).room.cells ≤ R.cells := by rw [show (headSpec ws rm).room.cells = mc from hrc]; exact hp.1
  have h5 : A.slots + (headSpec ws rm).room.slots ≤ R.slots := by rw [show (headSpec ws rm).room.slots = ms from hrs]; exact hp.2.1
  have hPc : Pc a (A.U.calling g mk a) := hblind _ _ _ _ hp.2.2
  obtain ⟨U, Ls, c0, s0⟩ := A
  dsimp only [Pt.U, Pt.locs, Pt.cells, Pt.slots] at h1 h2 h3 h4 h5 X hn hPc ⊢
  obtain ⟨methY, cY, hmY, hcY, -, hlY, -, -, -, -⟩ := Cond.code_spec hn h2
  obtain ⟨kY, hkY, -⟩ := className_of_methodNamed hn
  have hinitY : kY.init = .initialized := Cond.initialized_spec (findClass_of_methodNamed hn) hkY h3
  have h : At U g.method c below := by rw [hg]; exact X.here
  have hlocals9 : W9 + (maxL + 11) + (headSpec ws rm).room.locals ≤ R.locals := hlocals
  have happ : (headSpec ws rm).appliesLoose y e.platform (U.calling g mk a) = true :=
    Spec.appliesLoose_calling (g := g) h hdg hn hkY hinitY
      (X.room_calling (g := g) (R' := (headSpec ws rm).room) hsize hmY hcY hframes (by rw [hlY]; omega) h4 h5) h1
  obtain ⟨mid, hmid⟩ := h.above
  have hfr : (U.setTop g).frames = (.java g :: mid) ++ below := by rw [State.frames_setTop' g h.top, hmid]; rfl
  obtain ⟨o, s₂, hsteps, -, hend, hq⟩ := Steps.callFree hM p X.admits X.cas X.clock (acts := []) hfr happ hPc trivial
  have hq' : vx_Q Qc XC mc ms free a (U.calling g mk a) o s₂ := hq
  rw [State.frames_setTop' g h.top] at hend
  obtain ⟨g₀, hg0⟩ := Option.isSome_iff_exists.mp h.top
  obtain ⟨r, hr⟩ := State.topJava?_eq_some.mp hg0
  have hr' : (({ U with heap := s₂.heap, slotsUsed := s₂.slotsUsed } : State).setVm s₂.vm).frames = .java g₀ :: r := hr
  rcases hq' with ⟨hqc, L, hfe, hL⟩ | ⟨q, rfl, E, ce, L, hx, hce, hcv, hcl, hW₂, hsm, hL⟩
  · obtain ⟨⟨v, rfl⟩, hW₂, e2, q2, q3, q4, q5, q6⟩ := id hfe
    have e3 : s₂ = ({ (U.calling g mk a).setFrames s₂.frames with heap := s₂.heap, slotsUsed := s₂.slotsUsed } : State).setVm s₂.vm := by
      have : s₂ = ({ s₂ with vm := (U.calling g mk a).vm } : State).setVm s₂.vm := rfl
      rw [e2] at this
      exact this
    obtain ⟨c₂, i₂, len₂, hc₂, hd₂, hf₂⟩ := hend
    have hW' : U.WarmedH s₂.vm := hW₂
    have hcc : c₂ = c := by
      have h1 : s₂.code? g.method = U.code? g.method := by
        rw [State.code?_eq, State.code?_eq, hW'.alike.method?]
      exact Option.some.inj (hc₂.symm.trans (h1.trans h.code))
    subst hcc
    have hlen : len₂ = len := by rw [hdg] at hd₂; cases hd₂; rfl
    subst hlen
    have hs₂ : s₂ = (({ U with heap := s₂.heap, slotsUsed := s₂.slotsUsed } : State).setVm s₂.vm).setTop { g with pc := g.pc + len₂, stack := v.toList ++ g.stack } := by
      refine e3.trans ?_
      rw [hf₂, State.calling_eq h.top, State.setFrames_setFrames, State.setTop_of_frames _ hr', hr]
      rfl
    have hsame : U.sameButNew ({ U with heap := s₂.heap, slotsUsed := s₂.slotsUsed } : State) L mc ms := by
      refine ⟨?_, q2, q3, q4, q5, q6⟩
      obtain ⟨t, ht, -⟩ := State.frames_cons hr
      show ({ U with heap := s₂.heap, slotsUsed := s₂.slotsUsed } : State) = { U.setFrames U.frames with heap := s₂.heap, slotsUsed := s₂.slotsUsed }
      rw [State.setFrames_self ht]
    subst hg
    refine Or.inl ⟨v, ⟨(({ U with heap := s₂.heap, slotsUsed := s₂.slotsUsed } : State).setVm s₂.vm), Ls ++ L, c0 + mc, s0 + ms⟩,
      ⟨X.admits, X.cas, X.clock, X.frames, X.room, X.hears, X.method, X.code, (X.here.setHeapUsed s₂.heap s₂.slotsUsed).setVm hW'.alike, X.tail, State.WarmedH.trans X.warmed hW', X.limits, X.bytes, X.same.trans (hsame.setVm s.vm)⟩,
      ⟨g, mk, s₂, L, rfl, rfl, hqc, rfl, hL, rfl, rfl⟩, ?_⟩
    show Steps p.tables e below _ ((({ U with heap := s₂.heap, slotsUsed := s₂.slotsUsed } : State).setVm s₂.vm).setTop { g with pc := g.pc + len₂, stack := v.toList ++ g.stack })
    rw [← hs₂]
    exact hsteps
  · obtain ⟨e2, q2, q3, q4, q5, q6⟩ := id hsm
    have e3 : s₂ = ({ (U.calling g mk a).setFrames s₂.frames with heap := s₂.heap, slotsUsed := s₂.slotsUsed } : State).setVm s₂.vm := by
      have : s₂ = ({ s₂ with vm := (U.calling g mk a).vm } : State).setVm s₂.vm := rfl
      rw [e2] at this
      exact this
    have hf₂ : s₂.frames = .throwing q :: .java g :: U.frames.tail := hend
    have hW' : U.WarmedH s₂.vm := hW₂
    have hs₂ : s₂ = ((({ U with heap := s₂.heap, slotsUsed := s₂.slotsUsed } : State).setVm s₂.vm).setTop g).pushFrame (.throwing q) := by
      refine e3.trans ?_
      rw [hf₂, State.calling_eq h.top, State.setFrames_setFrames, State.pushFrame, State.frames_setTop _ hr', State.setTop_of_frames _ hr', State.setFrames_setFrames, hr]
      rfl
    have hsame : U.sameButNew ({ U with heap := s₂.heap, slotsUsed := s₂.slotsUsed } : State) L mc ms := by
      refine ⟨?_, q2, q3, q4, q5, q6⟩
      obtain ⟨t, ht, -⟩ := State.frames_cons hr
      show ({ U with heap := s₂.heap, slotsUsed := s₂.slotsUsed } : State) = { U.setFrames U.frames with heap := s₂.heap, slotsUsed := s₂.slotsUsed }
      rw [State.setFrames_self ht]
    subst hg
    refine Or.inr ⟨q, ⟨(({ U with heap := s₂.heap, slotsUsed := s₂.slotsUsed } : State).setVm s₂.vm), Ls ++ L, c0 + mc, s0 + ms⟩,
      ⟨X.admits, X.cas, X.clock, X.frames, X.room, X.hears, X.method, X.code, (X.here.setHeapUsed s₂.heap s₂.slotsUsed).setVm hW'.alike, X.tail, State.WarmedH.trans X.warmed hW', X.limits, X.bytes, X.same.trans (hsame.setVm s.vm)⟩,
      ⟨g, mk, s₂, L, E, ce, rfl, rfl, hx, hce, hcv, hcl, rfl, hL, rfl, rfl⟩, ?_⟩
    show Steps p.tables e below _ (((({ U with heap := s₂.heap, slotsUsed := s₂.slotsUsed } : State).setVm s₂.vm).setTop g).pushFrame (.throwing q))
    rw [← hs₂]
    exact hsteps
end Payer
section Calls
variable {p : Program} {l : Launch} {e : Env} {R : Room} {s : State} {m : MethodId} {args : Array Value} {below : List Frame} {meth : Method} {c : Code} {T : State} {locs : List Loc} {cells slots : Nat}
theorem vx_callV (X : Stand p l e R s m args below meth c T locs cells slots) (hexec : p.tables.exec = Jvm.exec) {own C : String} {index : Nat} {y : MethodName} {bytes : ByteArray} {maxL : Nat} {ret : Option FieldType}
    (hown : s.vm.findClass own = some m.cls) (hlink : (Cond.methodLink own index y).before args s = true) (hinst : (Cond.instanceMethod y).before args s = true) (hsel : (Cond.selects C y y).before args s = true)
    (hcode : (Cond.code y bytes maxL ret).before args s = true) (hy : y.cls ≠ "java/lang/invoke/MethodHandle" ∧ y.cls ≠ "java/lang/invoke/VarHandle")
    {W9 : Nat} {Pre : Pt → Array Value → Prop} {Post : Pt → Array Value → Option Value → Pt → Prop} {PostX : Pt → Array Value → Addr → Pt → Prop} (hK : vx_Back l R p e below s args y 3 W9 Pre Post PostX)
    {b : Addr} {cellB : Cell} (hcell : T.heap[b]? = some cellB) (hobj : cellB.vm.isStatics = false) (hcls : s.vm.findClass C = some cellB.cls)
    {g : JFrame} (hg : g.method = m) (hsize : g.locals.size = c.maxLocals) {argsL rest : List Value} (hlen : ∀ sig, parseMethodDescriptor y.desc = some sig → argsL.length = sig.parameters.length)
    (hstack : g.stack = argsL.reverse ++ .ref b :: rest) (hW : 2 * g.monitorRoom + (rest.map fun v => v.category).sum ≤ W9) (hdg : decode c.code g.pc = .ok (.invokevirtual index, 3))
    (hpre : ∀ vm₁, s.WarmedH vm₁ → Pre ⟨T.setVm vm₁, locs, cells, slots⟩ (Value.ref b :: argsL).toArray) :
    (∃ (v : Option Value) (vm₁ : Vm) (B : Pt), s.WarmedH vm₁ ∧ Stand p l e R s m args below meth c B.U B.locs B.cells B.slots ∧ Post ⟨T.setVm vm₁, locs, cells, slots⟩ (Value.ref b :: argsL).toArray v B ∧
      ∀ target, Steps p.tables e below (B.U.setTop { g with pc := g.pc + 3, stack := v.toList ++ rest }) target → Steps p.tables e below (T.setTop g) target) ∨
    (∃ (q : Addr) (vm₁ : Vm) (B : Pt), s.WarmedH vm₁ ∧ Stand p l e R s m args below meth c B.U B.locs B.cells B.slots ∧ PostX ⟨T.setVm vm₁, locs, cells, slots⟩ (Value.ref b :: argsL).toArray q B ∧
      Steps p.tables e below (T.setTop g) ((B.U.setTop { g with stack := rest }).pushFrame (.throwing q))) := by
  obtain ⟨mk, methM, hnamed, hmethM, hstM, habM⟩ := Cond.instanceMethod_spec hinst
  obtain ⟨methM', cM, hmethM', -, -, -, -, -, -, hsigM⟩ := Cond.code_spec hnamed hcode
  cases hmethM.symm.trans hmethM'
  obtain ⟨c2, r2, m2, q1, q2, q3, q4, kP, hkP, hkPi⟩ := Cond.selects_spec hsel
  cases hcls.symm.trans q1
  cases (State.methodFound?_of_named hnamed hy).symm.trans q2
  cases hnamed.symm.trans q3
  have hselP : selectMethod e.platform s.vm cellB.cls mk = .method mk := by rw [Launch.admits_selectMethod X.admits]; exact q4
  obtain ⟨vm₁, X₁, hstep₁⟩ := X.invokevirtual hexec hown hlink hnamed hmethM hstM hkP hkPi hy (a := b) (cell := cellB) hcell
    (fun z h => by rw [h] at hobj; cases hobj) hselP hmethM habM hkP hkPi (g := g) hg (argsL := argsL) (rest := rest) (hlen _ hsigM) hstack hdg
  rcases hK m meth c ⟨T.setVm vm₁, locs, cells, slots⟩ { g with stack := rest } (.invokevirtual index) mk (Value.ref b :: argsL).toArray X₁ hg hsize hdg hW (X₁.named hnamed) (hpre vm₁ X₁.warmed) with ⟨v, B, X', hpost, hsteps⟩ | ⟨q, B, X', hpost, hsteps⟩
  · exact Or.inl ⟨v, vm₁, B, X₁.warmed, X', hpost, fun target h => hstep₁ _ fun acts => by rw [doInvoke_state]; exact hsteps.trans h⟩
  · exact Or.inr ⟨q, vm₁, B, X₁.warmed, X', hpost, hstep₁ _ fun acts => by rw [doInvoke_state]; exact hsteps⟩
theorem vx_callS (X : Stand p l e R s m args below meth c T locs cells slots) (hexec : p.tables.exec = Jvm.exec) {own : String} {index : Nat} {y : MethodName} {bytes : ByteArray} {maxL : Nat} {ret : Option FieldType}
    (hown : s.vm.findClass own = some m.cls) (hlink : (Cond.methodLink own index y).before args s = true) (hstat : (Cond.static y).before args s = true) (hinit : (Cond.initialized y.cls).before args s = true)
    (hcode : (Cond.code y bytes maxL ret).before args s = true) (hy : y.cls ≠ "java/lang/invoke/MethodHandle" ∧ y.cls ≠ "java/lang/invoke/VarHandle")
    {W9 : Nat} {Pre : Pt → Array Value → Prop} {Post : Pt → Array Value → Option Value → Pt → Prop} {PostX : Pt → Array Value → Addr → Pt → Prop} (hK : vx_Back l R p e below s args y 3 W9 Pre Post PostX)
    {g : JFrame} (hg : g.method = m) (hsize : g.locals.size = c.maxLocals) {argsL rest : List Value} (hlen : ∀ sig, parseMethodDescriptor y.desc = some sig → argsL.length = sig.parameters.length)
    (hstack : g.stack = argsL.reverse ++ rest) (hW : 2 * g.monitorRoom + (rest.map fun v => v.category).sum ≤ W9) (hdg : decode c.code g.pc = .ok (.invokestatic index, 3))
    (hpre : ∀ vm₁, s.WarmedH vm₁ → Pre ⟨T.setVm vm₁, locs, cells, slots⟩ argsL.toArray) :
    (∃ (v : Option Value) (vm₁ : Vm) (B : Pt), s.WarmedH vm₁ ∧ Stand p l e R s m args below meth c B.U B.locs B.cells B.slots ∧ Post ⟨T.setVm vm₁, locs, cells, slots⟩ argsL.toArray v B ∧
      ∀ target, Steps p.tables e below (B.U.setTop { g with pc := g.pc + 3, stack := v.toList ++ rest }) target → Steps p.tables e below (T.setTop g) target) ∨
    (∃ (q : Addr) (vm₁ : Vm) (B : Pt), s.WarmedH vm₁ ∧ Stand p l e R s m args below meth c B.U B.locs B.cells B.slots ∧ PostX ⟨T.setVm vm₁, locs, cells, slots⟩ argsL.toArray q B ∧
      Steps p.tables e below (T.setTop g) ((B.U.setTop { g with stack := rest }).pushFrame (.throwing q))) := by
  obtain ⟨mk, hnamed⟩ := Cond.code_named hcode
  obtain ⟨methM, cM, hmethM, -, -, -, -, -, -, hsigM⟩ := Cond.code_spec hnamed hcode
  have hstatic : methM.isStatic = true := Cond.static_spec hnamed hmethM hstat
  obtain ⟨kP, hkP, -⟩ := className_of_methodNamed hnamed
  have hinitP : kP.init = .initialized := Cond.initialized_spec (findClass_of_methodNamed hnamed) hkP hinit
  obtain ⟨vm₁, X₁, hstep₁⟩ := X.invokestatic hexec hown hlink hnamed hmethM hstatic hkP hinitP hy (g := g) hg (argsL := argsL) (rest := rest) (hlen _ hsigM) hstack hdg
  rcases hK m meth c ⟨T.setVm vm₁, locs, cells, slots⟩ { g with stack := rest } (.invokestatic index) mk argsL.toArray X₁ hg hsize hdg hW (X₁.named hnamed) (hpre vm₁ X₁.warmed) with ⟨v, B, X', hpost, hsteps⟩ | ⟨q, B, X', hpost, hsteps⟩
  · exact Or.inl ⟨v, vm₁, B, X₁.warmed, X', hpost, fun target h => hstep₁ _ fun acts => by rw [doInvoke_state]; exact hsteps.trans h⟩
  · exact Or.inr ⟨q, vm₁, B, X₁.warmed, X', hpost, hstep₁ _ fun acts => by rw [doInvoke_state]; exact hsteps⟩
end Calls
theorem vx_cls {s : State} {T : State} {vm₁ : Vm} {E : String} {k : ClassId} (hW : s.WarmedH vm₁) (h : (T.setVm vm₁).vm.findClass E = some k) : s.vm.findClass E = some k := by
  have h1 : vm₁.findClass E = some k := h
  rw [hW.alike.findClass] at h1
  exact h1
/-- the method's frame g, with q thrown over it -/
def vx_W (p : Program) (l : Launch) (e : Env) (R : Room) (s : State) (m : MethodId) (args : Array Value) (below : List Frame) (meth : Method) (c : Code) (H : Heap) (locs : List Loc) (cells slots : Nat) (Q : State → Prop) (g : JFrame) (q : Addr) : Prop :=
  ∀ T : State, T.heap = H → Stand p l e R s m args below meth c T locs cells slots → ∃ t, Steps p.tables e below ((T.setTop g).pushFrame (.throwing q)) t ∧ Q t
def vx_Run (p : Program) (l : Launch) (e : Env) (R : Room) (s : State) (m : MethodId) (args : Array Value) (below : List Frame) (meth : Method) (c : Code) (H : Heap) (locs : List Loc) (cells slots mc ms : Nat) (g : JFrame) (rest : List Value) (Qa : State → Outcome → State → Prop) (XC : String → State → State → Prop) (free : Addr → Prop) : Prop :=
  ∀ T : State, T.heap = H → Stand p l e R s m args below meth c T locs cells slots →
    (∃ (v : Option Value) (st₀ t T' : State) (L : List Loc), st₀.heap = H ∧ Stand p l e R s m args below meth c T' (locs ++ L) (cells + mc) (slots + ms) ∧ (∀ q ∈ L, free q.base) ∧ T'.heap = t.heap ∧ T'.vm = t.vm ∧ Qa st₀ (.returned v) t ∧
      Goes p e below T g T' { g with pc := g.pc + 3, stack := v.toList ++ rest }) ∨
    (∃ (q : Addr) (st₀ t T' : State) (L : List Loc) (E : String) (ce : Cell), st₀.heap = H ∧ Stand p l e R s m args below meth c T' (locs ++ L) (cells + mc) (slots + ms) ∧ (∀ z ∈ L, free z.base) ∧ T'.heap = t.heap ∧ T'.vm = t.vm ∧ XC E st₀ t ∧ t.heap[q]? = some ce ∧ ce.vm = .none ∧ s.vm.findClass E = some ce.cls ∧
      Steps p.tables e below (T.setTop g) ((T'.setTop { g with stack := rest }).pushFrame (.throwing q)))
def vx_X {S : Type} (px : S → Prop) (B : String → S → State → Prop) (A : Nat → Prop) : String → State → State → Prop := fun E st t => ∃ u : S, px u ∧ B E u t ∧ va_F A st t
section Runs
variable {p : Program} {l : Launch} {e : Env} {R : Room} {s : State} {m : MethodId} {args : Array Value} {below : List Frame} {meth : Method} {c : Code} {H : Heap} {locs : List Loc} {cells slots : Nat}
variable {y : MethodName} {bytes cc : ByteArray} {maxL nL mc ms n index : Nat} {ret : Option FieldType} {ws : List Cond} {rm : Room} {Pc : Array Value → State → Prop} {Qc : Array Value → State → Outcome → State → Prop} {XC : String → State → State → Prop} {free : Addr → Prop} {Ts : List Cond} {own C : String} {b : Addr} {As rest : List Value} {g : JFrame}
theorem vx_callBack (cb : CallB R s args own index y bytes maxL ret ws rm mc ms n) (hM : vx_Met l y ws rm Pc Qc XC mc ms free) (hbl : FrameBlind Pc) : vx_Back l R p e below s args y 3 8 (PreOf R mc ms Pc) (PostOf Qc mc ms free) (vx_Post XC mc ms free) := by
  obtain ⟨hrc, hrs, hfr, hlo, hws, hcw, -, hini, -⟩ := cb
  exact vx_back (bytes := bytes) (maxL := maxL) (ret := ret) hM hbl hrc hrs hfr hlo hws hcw (fun a' U hW => word_at hW (Or.inl (by first | rfl | simp [Cond.onTables, Cond.keeps, Cond.steady])) hini)
theorem vx_runV (S : CallFix p m c cc nL s args Ts own) (hM : vx_Met l y ws rm Pc Qc XC mc ms free) (cw : CallW R s args own C index y bytes maxL ret ws rm mc ms n) (hp : PreV s H C b Pc As)
    (hg : g.method = m) (hn : As.length = n) (hsize : g.locals.size = nL) (hstack : g.stack = As.reverse ++ .ref b :: rest) (hW : 2 * g.monitorRoom + (rest.map fun v => v.category).sum ≤ 8) (hdg : decode cc g.pc = .ok (.invokevirtual index, 3)) (hf : cells + mc ≤ R.cells ∧ slots + ms ≤ R.slots) :
    vx_Run p l e R s m args below meth c H locs cells slots mc ms g rest (Qc (Value.ref b :: As).toArray) XC free := by
  have hK : vx_Back l R p e below s args y 3 8 (PreOf R mc ms Pc) (PostOf Qc mc ms free) (vx_Post XC mc ms free) := vx_callBack cw.1 hM hp.1
  obtain ⟨⟨-, -, -, -, -, -, hcode, -, hy, hlen, hl⟩, hin, hse⟩ := cw
  obtain ⟨hx, hb, hml, ho, -⟩ := S
  obtain ⟨-, ⟨cellB, hcB, hoB, hclB⟩, hPc⟩ := hp
  intro T hT X
  rcases vx_callV X hx (C := C) (bytes := bytes) (maxL := maxL) (ret := ret) ho hl hin hse hcode hy hK (by rw [hT]; exact hcB) hoB hclB hg (hsize.trans hml.symm) (argsL := As) (rest := rest) (fun sig h => hn.trans (hlen sig h)) hstack hW (by rw [hb]; exact hdg)
    (fun vm₁ hW₁ => ⟨hf.1, hf.2, hPc (T.setVm vm₁) hT hW₁⟩) with ⟨v, vm₁, ⟨U', l2, c2, s2⟩, hW₁, X', ⟨g', mk, t, L, e1, e2, hq, h1, hL, h2, h3⟩, st⟩ | ⟨q, vm₁, ⟨U', l2, c2, s2⟩, hW₁, X', ⟨g', mk, t, L, E, ce, e1, e2, hq, hce, hcv, hcl, h1, hL, h2, h3⟩, st⟩
  · dsimp only [Pt.U, Pt.locs, Pt.cells, Pt.slots] at X' e1 e2 h1 h2 h3 st
    subst h1; subst h2; subst h3
    exact Or.inl ⟨v, (T.setVm vm₁).calling g' mk (Value.ref b :: As).toArray, t, U', L, hT, X', hL, e1, e2, hq, st⟩
  · dsimp only [Pt.U, Pt.locs, Pt.cells, Pt.slots] at X' e1 e2 h1 h2 h3 st hcl
    subst h1; subst h2; subst h3
    exact Or.inr ⟨q, (T.setVm vm₁).calling g' mk (Value.ref b :: As).toArray, t, U', L, E, ce, hT, X', hL, e1, e2, hq, hce, hcv, vx_cls hW₁ hcl, st⟩
theorem vx_runS (S : CallFix p m c cc nL s args Ts own) (hM : vx_Met l y ws rm Pc Qc XC mc ms free) (cw : CallB R s args own index y bytes maxL ret ws rm mc ms n ∧ (Cond.static y).before args s = true) (hp : PreS s H Pc As)
    (hg : g.method = m) (hn : As.length = n) (hsize : g.locals.size = nL) (hstack : g.stack = As.reverse ++ rest) (hW : 2 * g.monitorRoom + (rest.map fun v => v.category).sum ≤ 8) (hdg : decode cc g.pc = .ok (.invokestatic index, 3)) (hf : cells + mc ≤ R.cells ∧ slots + ms ≤ R.slots) :
    vx_Run p l e R s m args below meth c H locs cells slots mc ms g rest (Qc As.toArray) XC free := by
  have hK : vx_Back l R p e below s args y 3 8 (PreOf R mc ms Pc) (PostOf Qc mc ms free) (vx_Post XC mc ms free) := vx_callBack cw.1 hM hp.1
  obtain ⟨⟨-, -, -, -, -, -, hcode, hini, hy, hlen, hl⟩, hstt⟩ := cw
  obtain ⟨hx, hb, hml, ho, -⟩ := S
  intro T hT X
  rcases vx_callS X hx (bytes := bytes) (maxL := maxL) (ret := ret) ho hl hstt hini hcode hy hK hg (hsize.trans hml.symm) (argsL := As) (rest := rest) (fun sig h => hn.trans (hlen sig h)) hstack hW (by rw [hb]; exact hdg)
    (fun vm₁ hW₁ => ⟨hf.1, hf.2, hp.2 (T.setVm vm₁) hT hW₁⟩) with ⟨v, vm₁, ⟨U', l2, c2, s2⟩, hW₁, X', ⟨g', mk, t, L, e1, e2, hq, h1, hL, h2, h3⟩, st⟩ | ⟨q, vm₁, ⟨U', l2, c2, s2⟩, hW₁, X', ⟨g', mk, t, L, E, ce, e1, e2, hq, hce, hcv, hcl, h1, hL, h2, h3⟩, st⟩
  · dsimp only [Pt.U, Pt.locs, Pt.cells, Pt.slots] at X' e1 e2 h1 h2 h3 st
    subst h1; subst h2; subst h3
    exact Or.inl ⟨v, (T.setVm vm₁).calling g' mk As.toArray, t, U', L, hT, X', hL, e1, e2, hq, st⟩
  · dsimp only [Pt.U, Pt.locs, Pt.cells, Pt.slots] at X' e1 e2 h1 h2 h3 st hcl
    subst h1; subst h2; subst h3
    exact Or.inr ⟨q, (T.setVm vm₁).calling g' mk As.toArray, t, U', L, E, ce, hT, X', hL, e1, e2, hq, hce, hcv, vx_cls hW₁ hcl, st⟩
end Runs
section Rows
variable {p : Program} {l : Launch} {e : Env} {R : Room} {s : State} {m : MethodId} {args : Array Value} {below : List Frame} {meth : Method} {c : Code} {H : Heap} {locs : List Loc} {cells slots : Nat} {Q : State → Prop}
variable {mc ms : Nat} {free : Addr → Prop} {A0 A1 : Nat → Prop} {H0 : Heap} {a : Array Value} {pc : Nat} {ls : Array Slot} {st0 rest : List Value}
theorem vx_keep {st₀ t T' : State} {L : List Loc} (h0 : st₀.heap = H) (e1 : T'.heap = t.heap) (hS : va_S A0 H0 H locs) (hA : ∀ q, q < H.size → A1 q → A0 q) (hf : ∀ q, free q → A0 q) (hL : ∀ q ∈ L, free q.base) (hF : va_F A1 st₀ t) :
    H.size ≤ T'.heap.size ∧ (∀ q : Nat, q < H.size → ¬ A1 q → T'.heap[q]? = H[q]?) ∧ va_S A0 H0 T'.heap (locs ++ L) := by
  obtain ⟨hz, hk⟩ := hF
  rw [h0] at hz hk
  exact ⟨by rw [e1]; exact hz, fun q h1 h2 => by rw [e1]; exact hk q h1 h2,
    ⟨Nat.le_trans hS.1 (by rw [e1]; exact hz), fun q h1 h2 => by rw [e1, hk q (Nat.lt_of_lt_of_le h1 hS.1) (fun z => h2 (hA q (Nat.lt_of_lt_of_le h1 hS.1) z))]; exact hS.2.1 q h1 h2, fun q hq => by
      rcases List.mem_append.mp hq with h | h
      · exact hS.2.2 q h
      · exact hf _ (hL q h)⟩⟩
theorem vx_calli {S SX : Type} {post : Int32 → S → Prop} {px : SX → Prop} {B : S → State → Prop} {BX : String → SX → State → Prop} {AX : Nat → Prop} (hr : vx_Run p l e R s m args below meth c H locs cells slots mc ms (F0 m pc ls st0) rest (va_Qi post B A1 a) (vx_X px BX AX) free) (hS : va_S A0 H0 H locs) (hA : ∀ q, q < H.size → A1 q → A0 q) (hf : ∀ q, free q → A0 q) (hAX : ∀ q, q < H.size → AX q → A0 q)
    (kx : ∀ (E : String) (ce : Cell) (q9 : Addr) (u : SX) (t : State) (H1 : Heap) (locs1 : List Loc), t.heap = H1 → s.vm.Alike t.vm → px u → BX E u t → H.size ≤ H1.size → (∀ q : Nat, q < H.size → ¬ AX q → H1[q]? = H[q]?) → va_S A0 H0 H1 locs1 → H1[q9]? = some ce → ce.vm = .none → s.vm.findClass E = some ce.cls → vx_W p l e R s m args below meth c H1 locs1 (cells + mc) (slots + ms) Q (F0 m pc ls rest) q9)
    (kk : ∀ (r : Int32) (u : S) (t : State) (H1 : Heap) (locs1 : List Loc), t.heap = H1 → s.vm.Alike t.vm → post r u → B u t → H.size ≤ H1.size → (∀ q : Nat, q < H.size → ¬ A1 q → H1[q]? = H[q]?) → va_S A0 H0 H1 locs1 → W p l e R s m args below meth c H1 locs1 (cells + mc) (slots + ms) Q (F0 m (pc + 3) ls (.int r :: rest))) : W p l e R s m args below meth c H locs cells slots Q (F0 m pc ls st0) := by
  intro T hT X
  rcases hr T hT X with ⟨v, st₀, t, T', L, h0, X', hL, e1, e2, ⟨⟨r, u, hv, hp, hb⟩, hF⟩, st⟩ | ⟨q, st₀, t, T', L, E, ce, h0, X', hL, e1, e2, ⟨u, hp, hb, hF⟩, hce, hcv, hcl, st⟩
  · cases hv
    obtain ⟨k1, k2, k3⟩ := vx_keep h0 e1 hS hA hf hL hF
    obtain ⟨t2, a1, b1⟩ := kk r u t T'.heap (locs ++ L) e1.symm (by rw [← e2]; exact X'.warmed.alike) hp hb k1 k2 k3 T' rfl X'
    exact ⟨t2, st t2 a1, b1⟩
  · obtain ⟨k1, k2, k3⟩ := vx_keep h0 e1 hS hAX hf hL hF
    obtain ⟨t2, a1, b1⟩ := kx E ce q u t T'.heap (locs ++ L) e1.symm (by rw [← e2]; exact X'.warmed.alike) hp hb k1 k2 k3 (by rw [e1]; exact hce) hcv hcl T' rfl X'
    exact ⟨t2, st.trans a1, b1⟩
theorem vx_calll {S SX : Type} {post : Int64 → S → Prop} {px : SX → Prop} {B : S → State → Prop} {BX : String → SX → State → Prop} {AX : Nat → Prop} (hr : vx_Run p l e R s m args below meth c H locs cells slots mc ms (F0 m pc ls st0) rest (va_Ql post B A1 a) (vx_X px BX AX) free) (hS : va_S A0 H0 H locs) (hA : ∀ q, q < H.size → A1 q → A0 q) (hf : ∀ q, free q → A0 q) (hAX : ∀ q, q < H.size → AX q → A0 q)
    (kx : ∀ (E : String) (ce : Cell) (q9 : Addr) (u : SX) (t : State) (H1 : Heap) (locs1 : List Loc), t.heap = H1 → s.vm.Alike t.vm → px u → BX E u t → H.size ≤ H1.size → (∀ q : Nat, q < H.size → ¬ AX q → H1[q]? = H[q]?) → va_S A0 H0 H1 locs1 → H1[q9]? = some ce → ce.vm = .none → s.vm.findClass E = some ce.cls → vx_W p l e R s m args below meth c H1 locs1 (cells + mc) (slots + ms) Q (F0 m pc ls rest) q9)
    (kk : ∀ (r : Int64) (u : S) (t : State) (H1 : Heap) (locs1 : List Loc), t.heap = H1 → s.vm.Alike t.vm → post r u → B u t → H.size ≤ H1.size → (∀ q : Nat, q < H.size → ¬ A1 q → H1[q]? = H[q]?) → va_S A0 H0 H1 locs1 → W p l e R s m args below meth c H1 locs1 (cells + mc) (slots + ms) Q (F0 m (pc + 3) ls (.long r :: rest))) : W p l e R s m args below meth c H locs cells slots Q (F0 m pc ls st0) := by
  intro T hT X
  rcases hr T hT X with ⟨v, st₀, t, T', L, h0, X', hL, e1, e2, ⟨⟨r, u, hv, hp, hb⟩, hF⟩, st⟩ | ⟨q, st₀, t, T', L, E, ce, h0, X', hL, e1, e2, ⟨u, hp, hb, hF⟩, hce, hcv, hcl, st⟩
  · cases hv
    obtain ⟨k1, k2, k3⟩ := vx_keep h0 e1 hS hA hf hL hF
    obtain ⟨t2, a1, b1⟩ := kk r u t T'.heap (locs ++ L) e1.symm (by rw [← e2]; exact X'.warmed.alike) hp hb k1 k2 k3 T' rfl X'
    exact ⟨t2, st t2 a1, b1⟩
  · obtain ⟨k1, k2, k3⟩ := vx_keep h0 e1 hS hAX hf hL hF
    obtain ⟨t2, a1, b1⟩ := kx E ce q u t T'.heap (locs ++ L) e1.symm (by rw [← e2]; exact X'.warmed.alike) hp hb k1 k2 k3 (by rw [e1]; exact hce) hcv hcl T' rfl X'
    exact ⟨t2, st.trans a1, b1⟩
theorem vx_callf {S SX : Type} {post : UInt32 → S → Prop} {px : SX → Prop} {B : S → State → Prop} {BX : String → SX → State → Prop} {AX : Nat → Prop} (hr : vx_Run p l e R s m args below meth c H locs cells slots mc ms (F0 m pc ls st0) rest (va_Qf post B A1 a) (vx_X px BX AX) free) (hS : va_S A0 H0 H locs) (hA : ∀ q, q < H.size → A1 q → A0 q) (hf : ∀ q, free q → A0 q) (hAX : ∀ q, q < H.size → AX q → A0 q)
    (kx : ∀ (E : String) (ce : Cell) (q9 : Addr) (u : SX) (t : State) (H1 : Heap) (locs1 : List Loc), t.heap = H1 → s.vm.Alike t.vm → px u → BX E u t → H.size ≤ H1.size → (∀ q : Nat, q < H.size → ¬ AX q → H1[q]? = H[q]?) → va_S A0 H0 H1 locs1 → H1[q9]? = some ce → ce.vm = .none → s.vm.findClass E = some ce.cls → vx_W p l e R s m args below meth c H1 locs1 (cells + mc) (slots + ms) Q (F0 m pc ls rest) q9)
    (kk : ∀ (r : UInt32) (u : S) (t : State) (H1 : Heap) (locs1 : List Loc), t.heap = H1 → s.vm.Alike t.vm → post r u → B u t → H.size ≤ H1.size → (∀ q : Nat, q < H.size → ¬ A1 q → H1[q]? = H[q]?) → va_S A0 H0 H1 locs1 → W p l e R s m args below meth c H1 locs1 (cells + mc) (slots + ms) Q (F0 m (pc + 3) ls (.float r :: rest))) : W p l e R s m args below meth c H locs cells slots Q (F0 m pc ls st0) := by
  intro T hT X
  rcases hr T hT X with ⟨v, st₀, t, T', L, h0, X', hL, e1, e2, ⟨⟨r, u, hv, hp, hb⟩, hF⟩, st⟩ | ⟨q, st₀, t, T', L, E, ce, h0, X', hL, e1, e2, ⟨u, hp, hb, hF⟩, hce, hcv, hcl, st⟩
  · cases hv
    obtain ⟨k1, k2, k3⟩ := vx_keep h0 e1 hS hA hf hL hF
    obtain ⟨t2, a1, b1⟩ := kk r u t T'.heap (locs ++ L) e1.symm (by rw [← e2]; exact X'.warmed.alike) hp hb k1 k2 k3 T' rfl X'
    exact ⟨t2, st t2 a1, b1⟩
  · obtain ⟨k1, k2, k3⟩ := vx_keep h0 e1 hS hAX hf hL hF
    obtain ⟨t2, a1, b1⟩ := kx E ce q u t T'.heap (locs ++ L) e1.symm (by rw [← e2]; exact X'.warmed.alike) hp hb k1 k2 k3 (by rw [e1]; exact hce) hcv hcl T' rfl X'
    exact ⟨t2, st.trans a1, b1⟩
theorem vx_calld {S SX : Type} {post : UInt64 → S → Prop} {px : SX → Prop} {B : S → State → Prop} {BX : String → SX → State → Prop} {AX : Nat → Prop} (hr : vx_Run p l e R s m args below meth c H locs cells slots mc ms (F0 m pc ls st0) rest (va_Qd post B A1 a) (vx_X px BX AX) free) (hS : va_S A0 H0 H locs) (hA : ∀ q, q < H.size → A1 q → A0 q) (hf : ∀ q, free q → A0 q) (hAX : ∀ q, q < H.size → AX q → A0 q)
    (kx : ∀ (E : String) (ce : Cell) (q9 : Addr) (u : SX) (t : State) (H1 : Heap) (locs1 : List Loc), t.heap = H1 → s.vm.Alike t.vm → px u → BX E u t → H.size ≤ H1.size → (∀ q : Nat, q < H.size → ¬ AX q → H1[q]? = H[q]?) → va_S A0 H0 H1 locs1 → H1[q9]? = some ce → ce.vm = .none → s.vm.findClass E = some ce.cls → vx_W p l e R s m args below meth c H1 locs1 (cells + mc) (slots + ms) Q (F0 m pc ls rest) q9)
    (kk : ∀ (r : UInt64) (u : S) (t : State) (H1 : Heap) (locs1 : List Loc), t.heap = H1 → s.vm.Alike t.vm → post r u → B u t → H.size ≤ H1.size → (∀ q : Nat, q < H.size → ¬ A1 q → H1[q]? = H[q]?) → va_S A0 H0 H1 locs1 → W p l e R s m args below meth c H1 locs1 (cells + mc) (slots + ms) Q (F0 m (pc + 3) ls (.double r :: rest))) : W p l e R s m args below meth c H locs cells slots Q (F0 m pc ls st0) := by
  intro T hT X
  rcases hr T hT X with ⟨v, st₀, t, T', L, h0, X', hL, e1, e2, ⟨⟨r, u, hv, hp, hb⟩, hF⟩, st⟩ | ⟨q, st₀, t, T', L, E, ce, h0, X', hL, e1, e2, ⟨u, hp, hb, hF⟩, hce, hcv, hcl, st⟩
  · cases hv
    obtain ⟨k1, k2, k3⟩ := vx_keep h0 e1 hS hA hf hL hF
    obtain ⟨t2, a1, b1⟩ := kk r u t T'.heap (locs ++ L) e1.symm (by rw [← e2]; exact X'.warmed.alike) hp hb k1 k2 k3 T' rfl X'
    exact ⟨t2, st t2 a1, b1⟩
  · obtain ⟨k1, k2, k3⟩ := vx_keep h0 e1 hS hAX hf hL hF
    obtain ⟨t2, a1, b1⟩ := kx E ce q u t T'.heap (locs ++ L) e1.symm (by rw [← e2]; exact X'.warmed.alike) hp hb k1 k2 k3 (by rw [e1]; exact hce) hcv hcl T' rfl X'
    exact ⟨t2, st.trans a1, b1⟩
theorem vx_callv {S SX : Type} {post : S → Prop} {px : SX → Prop} {B : S → State → Prop} {BX : String → SX → State → Prop} {AX : Nat → Prop} (hr : vx_Run p l e R s m args below meth c H locs cells slots mc ms (F0 m pc ls st0) rest (va_Qv post B A1 a) (vx_X px BX AX) free) (hS : va_S A0 H0 H locs) (hA : ∀ q, q < H.size → A1 q → A0 q) (hf : ∀ q, free q → A0 q) (hAX : ∀ q, q < H.size → AX q → A0 q)
    (kx : ∀ (E : String) (ce : Cell) (q9 : Addr) (u : SX) (t : State) (H1 : Heap) (locs1 : List Loc), t.heap = H1 → s.vm.Alike t.vm → px u → BX E u t → H.size ≤ H1.size → (∀ q : Nat, q < H.size → ¬ AX q → H1[q]? = H[q]?) → va_S A0 H0 H1 locs1 → H1[q9]? = some ce → ce.vm = .none → s.vm.findClass E = some ce.cls → vx_W p l e R s m args below meth c H1 locs1 (cells + mc) (slots + ms) Q (F0 m pc ls rest) q9)
    (kk : ∀ (u : S) (t : State) (H1 : Heap) (locs1 : List Loc), t.heap = H1 → s.vm.Alike t.vm → post u → B u t → H.size ≤ H1.size → (∀ q : Nat, q < H.size → ¬ A1 q → H1[q]? = H[q]?) → va_S A0 H0 H1 locs1 → W p l e R s m args below meth c H1 locs1 (cells + mc) (slots + ms) Q (F0 m (pc + 3) ls (rest))) : W p l e R s m args below meth c H locs cells slots Q (F0 m pc ls st0) := by
  intro T hT X
  rcases hr T hT X with ⟨v, st₀, t, T', L, h0, X', hL, e1, e2, ⟨⟨u, hv, hp, hb⟩, hF⟩, st⟩ | ⟨q, st₀, t, T', L, E, ce, h0, X', hL, e1, e2, ⟨u, hp, hb, hF⟩, hce, hcv, hcl, st⟩
  · cases hv
    obtain ⟨k1, k2, k3⟩ := vx_keep h0 e1 hS hA hf hL hF
    obtain ⟨t2, a1, b1⟩ := kk u t T'.heap (locs ++ L) e1.symm (by rw [← e2]; exact X'.warmed.alike) hp hb k1 k2 k3 T' rfl X'
    exact ⟨t2, st t2 a1, b1⟩
  · obtain ⟨k1, k2, k3⟩ := vx_keep h0 e1 hS hAX hf hL hF
    obtain ⟨t2, a1, b1⟩ := kx E ce q u t T'.heap (locs ++ L) e1.symm (by rw [← e2]; exact X'.warmed.alike) hp hb k1 k2 k3 (by rw [e1]; exact hce) hcv hcl T' rfl X'
    exact ⟨t2, st.trans a1, b1⟩
/-- caught by the row x of this method's table; the rows ahead don't take it -/
theorem vx_catch {own name : String} {E : String} {ce : Cell} {q : Addr} (hown : s.vm.findClass own = some m.cls) (pre : List ExceptionTableEntry) (x : ExceptionTableEntry) (suf : List ExceptionTableEntry) (hsplit : c.exceptionTable.toList = pre ++ x :: suf)
    (hpass : ∀ z ∈ pre, covers z pc = false ∨ (z.catchType ≠ 0 ∧ ∃ nm : String, (Cond.classLink own z.catchType nm).before args s = true ∧ va_Nc E nm s)) (hx : covers x pc = true) (h0 : x.catchType ≠ 0)
    (hlink : (Cond.classLink own x.catchType name).before args s = true) (hcast : (Cond.castable E name).before args s = true) (hcell : H[q]? = some ce) (hv : ce.vm = .none) (hcl : s.vm.findClass E = some ce.cls)
    (kk : W p l e R s m args below meth c H locs cells slots Q (F0 m x.handlerPc ls [.ref q])) : vx_W p l e R s m args below meth c H locs cells slots Q (F0 m pc ls rest) q := by
  intro T hT X
  have hpl : e.platform.magicAccessors = ({} : Platform).magicAccessors := by rw [X.admits.platform]
  obtain ⟨c3, c4, hc3, hc4, hasg⟩ := Cond.castable_spec hcast
  cases Option.some.inj (hc3.symm.trans hcl)
  obtain ⟨c5, hc5, hcl5⟩ := Cond.classLink_spec hown hlink e.platform hpl
  cases Option.some.inj (hc4.symm.trans hc5)
  obtain ⟨vm', X', st⟩ := X.thenCaughtThrough q (g := F0 m pc ls rest) rfl (Steps.refl _) (by rw [hT]; exact hcell) (by rw [hv]; rfl) (by obtain ⟨k9, h9, -⟩ := Vm.findClass_spec hcl; exact ⟨k9, h9⟩) pre x suf hsplit
    (fun z hz => by
      rcases hpass z hz with h | ⟨hz0, nm, hl1, hn1⟩
      · exact Or.inl h
      · obtain ⟨c6, hc6, hcl6⟩ := Cond.classLink_spec hown hl1 e.platform hpl
        obtain ⟨a8, b8, h1, h2, h3⟩ := hn1
        cases Option.some.inj (h1.symm.trans hcl)
        cases Option.some.inj (h2.symm.trans hc6)
        exact Or.inr ⟨hz0, _, hcl6, h3⟩) hx (Or.inr ⟨h0, c4, hcl5, hasg⟩)
  obtain ⟨t, a1, b1⟩ := kk (T.setVm vm') hT X'
  exact ⟨t, st.trans a1, b1⟩
end Rows
section Ends
variable {p : Program} {l : Launch} {e : Env} {R : Room} {s : State} {m : MethodId} {args : Array Value} {below : List Frame} {meth : Method} {c : Code} {H : Heap} {locs : List Loc} {cells slots : Nat} {Q : State → Prop}
variable {mc ms : Nat} {free : Addr → Prop} {A0 A1 : Nat → Prop} {H0 : Heap} {a : Array Value} {ls : Array Slot} {st0 rest : List Value}
variable {Qc : Array Value → State → Outcome → State → Prop} {XC : String → State → State → Prop}
/-- what a body that may throw owes at its end -/
def vx_MQ (below : List Frame) (Qc : Array Value → State → Outcome → State → Prop) (XC : String → State → State → Prop) (a : Array Value) (s : State) (mc ms : Nat) (free : Addr → Prop) : State → Prop := fun t =>
  ∃ o, t.status = .running ∧ Ended t below o ∧ vx_Q Qc XC mc ms free a s o t
theorem vx_ret {g : JFrame} {mc ms : Nat} (k : W p l e R s m args below meth c H locs cells slots (MQ below Qc args s mc ms free) g) : W p l e R s m args below meth c H locs cells slots (vx_MQ below Qc XC args s mc ms free) g := by
  intro T hT X
  obtain ⟨t, a1, o, b1, b2, b3, b4⟩ := k T hT X
  exact ⟨t, a1, o, b1, b2, Or.inl ⟨b3, b4⟩⟩
/-- not caught here: it goes on to the caller -/
theorem vx_widen {g : JFrame} {q : Addr} {k n : Nat} (h1 : cells ≤ k) (h2 : slots ≤ n) (kk : vx_W p l e R s m args below meth c H locs k n Q g q) : vx_W p l e R s m args below meth c H locs cells slots Q g q := fun T hT X => kk T hT (stand_widen X h1 h2)
theorem vx_out {pc : Nat} {E : String} {ce : Cell} {q : Addr} {mc ms : Nat} (hout : ∀ x ∈ c.exceptionTable.toList, covers x pc = false) (hlocks : meth.locks = false) (hcell : H[q]? = some ce) (hv : ce.vm = .none) (hcl : s.vm.findClass E = some ce.cls)
    (hx : ∀ t : State, t.heap = H → s.vm.Alike t.vm → XC E s t) (hf : ∀ z ∈ locs, free z.base) (hc : cells ≤ mc) (hs : slots ≤ ms) :
    vx_W p l e R s m args below meth c H locs cells slots (vx_MQ below Qc XC args s mc ms free) (F0 m pc ls rest) q := by
  intro T hT X
  obtain ⟨st1, hrun, hend, hW, hsm⟩ := X.leaveThrown q (g := F0 m pc ls rest) rfl rfl rfl hout hlocks
  have hcell9 : (T.setFrames (.throwing q :: below)).heap[q]? = some ce := by
    show T.heap[q]? = some ce
    rw [hT]; exact hcell
  exact ⟨_, st1, .threw q, hrun, hend, Or.inr ⟨q, rfl, E, ce, locs, hx _ hT hW.alike, hcell9, hv, hcl, hW, hsm.mono hc hs, hf⟩⟩
theorem vx_frame {U : State} {k n : Nat} (h : s.sameButNew ({ U with vm := s.vm } : State) locs k n) : s.heap.size ≤ U.heap.size ∧ ∀ q : Nat, q < s.heap.size → (∀ z ∈ locs, z.base ≠ q) → U.heap[q]? = s.heap[q]? := by
  obtain ⟨-, h2, -, -, -, h6⟩ := h
  refine ⟨h2, fun q hq hz => ?_⟩
  obtain ⟨c9, e1, e2, e3, e4⟩ := h6 q _ (Array.getElem?_eq_getElem hq)
  have hs : c9.slots = (s.heap[q]).slots := Array.ext_getElem? fun i => e4 i fun hm => hz _ hm rfl
  have h9 : c9 = s.heap[q] := by
    rw [hs] at e2
    exact e2
  have e5 : U.heap[q]? = some c9 := e1
  rw [e5, h9, Array.getElem?_eq_getElem hq]
/-- the words of a throw but the four that speak of the heap -/
def vx_no (w : Cond) : Bool := decide (w ≠ .isRef (.static Bundle.tN "UNASSIGNED_STACK" Bundle.steD)) && decide (w ≠ .isRef (.static Bundle.tN "SUPPRESSED_SENTINEL" Bundle.listD)) && decide (w ≠ .laysStatic Bundle.tN "UNASSIGNED_STACK" Bundle.steD) && decide (w ≠ .laysStatic Bundle.tN "SUPPRESSED_SENTINEL" Bundle.listD)
def vx_at0 (own : String) (ic : Nat) (X : String) (names : List String) : List Cond := (Bundle.ownAtoms0 own ic X names).filter vx_no
def vx_atS (own : String) (ic : Nat) (X : String) (names : List String) : List Cond := (Bundle.ownAtoms own ic X names).filter vx_no
/-- a word that the tables alone decide, or a good one -/
def vx_ot (w : Cond) : Bool := w.onTables || goodWord w
theorem vx_ot_at {args a' : Array Value} {s U : State} {w : Cond} (hW : s.WarmedH U.vm) (hvm : s.vm = U.vm) (hg : vx_ot w = true) (h : w.before args s = true) : w.before a' U = true := by
  simp only [vx_ot, Bool.or_eq_true] at hg
  rcases hg with hg | hg
  · exact va_tabs hg hvm h
  · exact word_at hW (good_of_word hg) h
/-- a list's words: the good ones out of the method's own list, the others by premises of their own -/
theorem vx_hat {args : Array Value} {s : State} {L B : List Cond} (h1 : ∀ w ∈ L.filter goodWord, w.before args s = true) (h2 : ∀ w ∈ L.filter (fun w => !goodWord w), w ∈ B) (h3 : ∀ w ∈ B, w.before args s = true) : ∀ w ∈ L, w.before args s = true := by
  intro w hw
  by_cases g : goodWord w = true
  · exact h1 w (List.mem_filter.mpr ⟨hw, g⟩)
  · refine h3 w (h2 w (List.mem_filter.mpr ⟨hw, ?_⟩))
    show (!goodWord w) = true
    cases hgw : goodWord w
    · rfl
    · exact absurd hgw g
theorem vx_c {args : Array Value} {s : State} {w : Cond} {B : List Cond} (h : w.before args s = true) (t : ∀ w ∈ B, w.before args s = true) : ∀ w' ∈ w :: B, w'.before args s = true := fun w' h' => (List.mem_cons.mp h').elim (fun e => by rw [e]; exact h) (t w')
theorem vx_n {args : Array Value} {s : State} : ∀ w ∈ ([] : List Cond), w.before args s = true := fun _ h => nomatch h
theorem vx_own {args : Array Value} {s : State} {L : List Cond} (h1 : ∀ w ∈ L.filter vx_no, w.before args s = true)
    (hU : (Cond.isRef (.static Bundle.tN "UNASSIGNED_STACK" Bundle.steD)).before args s = true) (hN : (Cond.isRef (.static Bundle.tN "SUPPRESSED_SENTINEL" Bundle.listD)).before args s = true)
    (lU : (Cond.laysStatic Bundle.tN "UNASSIGNED_STACK" Bundle.steD).before args s = true) (lN : (Cond.laysStatic Bundle.tN "SUPPRESSED_SENTINEL" Bundle.listD).before args s = true) : ∀ w ∈ L, w.before args s = true := by
  intro w hw
  by_cases e1 : w = .isRef (.static Bundle.tN "UNASSIGNED_STACK" Bundle.steD)
  · rw [e1]; exact hU
  · by_cases e2 : w = .isRef (.static Bundle.tN "SUPPRESSED_SENTINEL" Bundle.listD)
    · rw [e2]; exact hN
    · by_cases e3 : w = .laysStatic Bundle.tN "UNASSIGNED_STACK" Bundle.steD
      · rw [e3]; exact lU
      · by_cases e4 : w = .laysStatic Bundle.tN "SUPPRESSED_SENTINEL" Bundle.listD
        · rw [e4]; exact lN
        · exact h1 w (List.mem_filter.mpr ⟨hw, by unfold vx_no; rw [decide_eq_true e1, decide_eq_true e2, decide_eq_true e3, decide_eq_true e4]; rfl⟩)
/-- where a static field lies, its class's statics cell in H -/
def vx_L (C n d : String) (A : Nat → Prop) (U : State) (H : Heap) : Prop := ∃ (c : ClassId) (k : Class) (i : Nat) (f : Field) (a : Nat) (cell : Cell), U.vm.findClass C = some c ∧ U.fieldFound? C n d = some (c, k, i, f) ∧ f.isStatic = true ∧ k.statics = some a ∧ H[a]? = some cell ∧ cell.vm.isStatics = true ∧ cell.cls = c ∧ f.slot < cell.slots.size ∧ k.staticTypes[f.slot]? = some f.type ∧ ¬ A a
theorem vx_L.moved {C n d : String} {A : Nat → Prop} {u U : State} {H : Heap} (hvm : u.vm.Alike U.vm) (h : vx_L C n d A u H) : vx_L C n d A U H := by
  obtain ⟨c, k, i, f, a, cell, h1, h2, h3, h4, h5, h6, h7, h8, h9, h10⟩ := h
  obtain ⟨k', hi', he⟩ := State.fieldFound?_setVm hvm h2
  exact ⟨c, k', i, f, a, cell, by rw [hvm.findClass]; exact h1, hi', h3, by rw [he]; exact h4, h5, h6, h7, h8, by rw [he]; exact h9, h10⟩
theorem vx_L.kept {C n d : String} {A : Nat → Prop} {U : State} {H H1 : Heap} (h : vx_L C n d A U H) (hq : ∀ a : Nat, a < H.size → ¬ A a → H1[a]? = H[a]?) : vx_L C n d A U H1 := by
  obtain ⟨c, k, i, f, a, cell, h1, h2, h3, h4, h5, h6, h7, h8, h9, h10⟩ := h
  exact ⟨c, k, i, f, a, cell, h1, h2, h3, h4, by rw [hq a (Array.getElem?_eq_some_iff.mp h5).1 h10]; exact h5, h6, h7, h8, h9, h10⟩
theorem vx_L.narrow {C n d : String} {A B : Nat → Prop} {U : State} {H : Heap} (h : vx_L C n d A U H) (hAB : ∀ q, B q → A q) : vx_L C n d B U H := by
  obtain ⟨c, k, i, f, a, cell, h1, h2, h3, h4, h5, h6, h7, h8, h9, h10⟩ := h
  exact ⟨c, k, i, f, a, cell, h1, h2, h3, h4, h5, h6, h7, h8, h9, fun z => h10 (hAB _ z)⟩
theorem vx_L.word {C n d : String} {A : Nat → Prop} {s : State} {args : Array Value} (h : vx_L C n d A s s.heap) : (Cond.laysStatic C n d).before args s = true := by
  obtain ⟨c, k, i, f, a, cell, h1, h2, h3, h4, h5, h6, h7, h8, h9, -⟩ := h
  show (Cond.laysStatic C n d).holds args s none s [] = true
  exact Cond.laysStatic_of h1 h2 h3 h4 h5 h6 h7 h8 h9
/-- .. and what it holds: null or some reference -/
def vx_Zq (C n d : String) (A : Nat → Prop) (U : State) (H : Heap) : Prop := va_Zq C n d A U H ∧ vx_L C n d A U H
theorem vx_Zq.moved {C n d : String} {A : Nat → Prop} {u U : State} {H : Heap} (hvm : u.vm.Alike U.vm) (h : vx_Zq C n d A u H) : vx_Zq C n d A U H := ⟨va_Zq.moved hvm h.1, vx_L.moved hvm h.2⟩
theorem vx_Zq.kept {C n d : String} {A : Nat → Prop} {U : State} {H H1 : Heap} (h : vx_Zq C n d A U H) (hq : ∀ a : Nat, a < H.size → ¬ A a → H1[a]? = H[a]?) : vx_Zq C n d A U H1 := ⟨va_Zq.kept h.1 hq, vx_L.kept h.2 hq⟩
theorem vx_Zq.narrow {C n d : String} {A B : Nat → Prop} {U : State} {H : Heap} (h : vx_Zq C n d A U H) (hAB : ∀ q, B q → A q) : vx_Zq C n d B U H := ⟨va_Zq.narrow h.1 hAB, vx_L.narrow h.2 hAB⟩
theorem vx_Zqof {args : Array Value} {s : State} {C n d : String} {A : Nat → Prop} (hl : (Cond.laysStatic C n d).before args s = true) (hini : (Cond.initialized C).before args s = true) (h : (Cond.isRef (.static C n d)).before args s = true) (hA : ∀ a : Nat, a < s.heap.size → ¬ A a) : vx_Zq C n d A s s.heap := by
  refine ⟨va_Zqof hl hini h hA, ?_⟩
  obtain ⟨c, k, i, f, a, cell, h1, h2, h3, h4, h5, h6, h7, h8, h9⟩ := Cond.laysStatic_spec hl
  exact ⟨c, k, i, f, a, cell, h1, h2, h3, h4, h5, h6, h7, h8, h9, hA a (Array.getElem?_eq_some_iff.mp h5).1⟩
theorem vx_isRef {C n d : String} {v : Value} {A : Nat → Prop} {s : State} {args : Array Value} (h : va_Z C n d v A s s.heap) (hv : v.isRef = true) : (Cond.isRef (.static C n d)).before args s = true := by
  obtain ⟨cf, kf, fi, f, a, cell, h1, h2, h3, h4, h5, h6, h7, -⟩ := h
  have he : (Term.static C n d).eval args s none [] s = some v := by
    simp [Term.eval, State.fieldNamed?, h1, h2, h4, h5, h6, h7]
  simp only [Cond.before, Cond.holds, Cond.value, he]
  cases v <;> simp_all [Value.isRef]
theorem vx_isRefq {C n d : String} {A : Nat → Prop} {s : State} {args : Array Value} (h : va_Zq C n d A s s.heap) : (Cond.isRef (.static C n d)).before args s = true := by
  rcases h with h | ⟨t, h⟩
  · exact vx_isRef h rfl
  · exact vx_isRef h rfl
/-- the same frame, seen from here: as if the method were called anew in this heap -/
theorem vx_rebase {T : State} (X : Stand p l e R s m args below meth c T locs cells slots) {R' : Room} (hf : R'.frames ≤ R.frames) (hl : R'.locals ≤ R.locals) (hc : cells + R'.cells ≤ R.cells) (hs : slots + R'.slots ≤ R.slots) :
    Stand p l e R' ((T.setVm s.vm).setFrames (.invoking m args :: below)) m args below meth c T [] 0 0 := by
  have htop : (T.setVm s.vm).topJava?.isSome := X.here.top
  have hF : ((T.setVm s.vm).setFrames (.invoking m args :: below)).frames = .invoking m args :: below := State.frames_setFrames _ (State.cur_lt_of_top htop)
  obtain ⟨g₀, hg0⟩ := Option.isSome_iff_exists.mp htop
  obtain ⟨r, hr⟩ := State.topJava?_eq_some.mp hg0
  have hl9 : e.platform.stackLimits (T.setVm s.vm).me = e.platform.stackLimits s.me := X.limits
  have hb9 : (T.setVm s.vm).me.stackBytes = s.me.stackBytes := X.bytes
  refine ⟨X.admits, X.cas, X.clock, hF, ?_, X.hears, X.method, X.code, X.here, X.tail, X.warmed, ?_, ?_, ?_⟩
  · have h := X.room
    have hU : ((T.setVm s.vm).setFrames (.invoking m args :: below)).localsInUse = s.localsInUse := by
      rw [State.localsInUse_invoking hF (meth := meth) (c := c) X.method X.code, State.localsInUse_invoking X.frames X.method X.code]
    simp only [State.hasRoom, Bool.and_eq_true, decide_eq_true_eq] at h ⊢
    obtain ⟨⟨⟨⟨h1, h2, h3, h4, h5, h6⟩, h7⟩, h8⟩, h9⟩ := h
    rw [X.frames, List.length_cons] at h2 h3
    have q1 := X.heapSize
    have q2 := X.used
    simp only [hF, hU, List.length_cons, State.stackLimits_setFrames, State.stackBytes_setFrames, hl9, hb9]
    refine ⟨⟨⟨⟨by omega, by omega, by omega, by omega, by omega, h6⟩, ?_⟩, ?_⟩, X.book⟩
    · show T.heap.size + R'.cells ≤ e.platform.maxCells
      omega
    · show T.slotsUsed + R'.slots ≤ e.platform.maxSlots
      omega
  · rw [State.stackLimits_setFrames]; rfl
  · rw [State.stackBytes_setFrames]; rfl
  · refine ⟨?_, Nat.le_refl _, Nat.le_refl _, ?_, ?_, fun a c9 h9 => ⟨c9, h9, rfl, rfl, fun _ _ => rfl⟩⟩
    · obtain ⟨t, ht, -⟩ := State.frames_cons hr
      show T.setVm s.vm = { ((T.setVm s.vm).setFrames (.invoking m args :: below)).setFrames (T.setVm s.vm).frames with heap := T.heap, slotsUsed := T.slotsUsed }
      rw [State.setFrames_setFrames, State.setFrames_self ht]
      rfl
    · show T.slotsUsed = T.slotsUsed + ((T.heap.toList.drop T.heap.size).map (·.slots.size)).sum
      rw [List.drop_eq_nil_of_le (Nat.le_of_eq Array.length_toList)]
      rfl
    · show ((T.heap.toList.drop T.heap.size).map (·.slots.size)).sum ≤ 0
      rw [List.drop_eq_nil_of_le (Nat.le_of_eq Array.length_toList)]
      exact Nat.le_refl _
/-- 'throw new E()': new; dup; invokespecial; athrow -/
theorem vx_throw0 {cc : ByteArray} {pc : Nat} (hexec : p.tables.exec = Jvm.exec) (hb : c.code = cc) (hl : l.stackTraces = false) {own cls : String} {names : List String} {ik ic mc ms : Nat} {A : Nat → Prop}
    (hown : s.vm.findClass own = some m.cls) (hcls : Bundle.fit cls = true) (hnames : ∀ n ∈ names, Bundle.fit n = true)
    (hk : (Cond.classLink own ik cls).before args s = true) (hini : (Cond.initialized cls).before args s = true) (hat : ∀ w ∈ vx_at0 own ic cls names, w.before args s = true)
    (hgood : ∀ w ∈ Cond.classLink own ik cls :: Cond.initialized cls :: vx_at0 own ic cls names, vx_ot w = true)
    (hU : vx_Zq Bundle.tN "UNASSIGNED_STACK" Bundle.steD A s s.heap) (hN : vx_Zq Bundle.tN "SUPPRESSED_SENTINEL" Bundle.listD A s s.heap) (hS : va_S A s.heap H locs) (hsize : ls.size = c.maxLocals)
    (d0 : decode cc pc = .ok (.new ik, 3)) (d3 : decode cc (pc + 3) = .ok (.dup, 1)) (d4 : decode cc (pc + 4) = .ok (.invokespecial ic, 3)) (d7 : decode cc (pc + 7) = .ok (.athrow, 1))
    (hout : ∀ x ∈ c.exceptionTable.toList, covers x (pc + 7) = false)
    (hRframes : names.length + 3 < R.frames) (hRlocals : (rest.map fun v => v.category).sum + (13 * (names.length + 1) + 42) ≤ R.locals) (hRcells : cells + 1 ≤ R.cells) (hRslots : slots + 6 ≤ R.slots) (hlocks : meth.locks = false)
    (hx : ∀ t : State, s.vm.Alike t.vm → H.size ≤ t.heap.size → (∀ q : Nat, q < H.size → t.heap[q]? = H[q]?) → XC cls s t)
    (hf : ∀ z ∈ locs, free z.base) (hc : cells + 1 ≤ mc) (hs : slots + 6 ≤ ms) :
    W p l e R s m args below meth c H locs cells slots (vx_MQ below Qc XC args s mc ms free) (F0 m pc ls rest) := by
  intro T hT X
  have htr : e.platform.stackTraces = false := (show e.platform.stackTraces = l.stackTraces by rw [X.admits.platform]).trans hl
  have Y := vx_rebase X (R' := { frames := R.frames, locals := R.locals, cells := 1, slots := 6 }) (Nat.le_refl _) (Nat.le_refl _) hRcells hRslots
  obtain ⟨s', hA⟩ : ∃ z, z = (T.setVm s.vm).setFrames (.invoking m args :: below) := ⟨_, rfl⟩
  rw [← hA] at Y
  have hvm : s'.vm = s.vm := by rw [hA]; rfl
  have hhp : s'.heap = H := by rw [hA]; exact hT
  have hW0 : s.WarmedH s'.vm := by rw [hvm]; exact State.WarmedH.refl s
  have hat' : ∀ w ∈ vx_at0 own ic cls names, w.before args s' = true := fun w hw => vx_ot_at hW0 hvm.symm (hgood w (List.mem_cons_of_mem _ (List.mem_cons_of_mem _ hw))) (hat w hw)
  have hk' : (Cond.classLink own ik cls).before args s' = true := vx_ot_at hW0 hvm.symm (hgood _ List.mem_cons_self) hk
  have hini' : (Cond.initialized cls).before args s' = true := vx_ot_at hW0 hvm.symm (hgood _ (List.mem_cons_of_mem _ List.mem_cons_self)) hini
  have hU' : vx_Zq Bundle.tN "UNASSIGNED_STACK" Bundle.steD A s' s'.heap := by rw [hhp]; exact vx_Zq.moved hW0.alike (hU.kept hS.2.1)
  have hN' : vx_Zq Bundle.tN "SUPPRESSED_SENTINEL" Bundle.listD A s' s'.heap := by rw [hhp]; exact vx_Zq.moved hW0.alike (hN.kept hS.2.1)
  have h : ∀ w ∈ Bundle.ownAtoms0 own ic cls names, w.before args s' = true := vx_own hat' (vx_isRefq hU'.1) (vx_isRefq hN'.1) hU'.2.word hN'.2.word
  have hown' : s'.vm.findClass own = some m.cls := by rw [hvm]; exact hown
  have hins : (Cond.instantiable cls 6).before args s' = true := h _ (by simp [Bundle.ownAtoms0])
  obtain ⟨vm₁, cX, kX, hfX, hkX, -, -, X₁, st1⟩ := Y.newCold hexec (own := own) (C := cls) (index := ik) (n := 6) hown' hk' hins hini'
    (g := F0 m pc ls rest) rfl (by rw [hb]; exact d0) (Nat.le_refl _) (Nat.le_refl _)
  generalize hT1 : (T.setVm vm₁).pushCell { cls := cX, slots := kX.instanceTypes.map defaultValue, vm := .none } = T1 at X₁ st1
  have hcat : (Value.ref T.heap.size).category = 1 := rfl
  have hcellA : T1.heap[T.heap.size]? = some (freshCell cX kX) := by rw [← hT1]; exact State.heap_pushCell_size _ _
  have d3' : decode c.code (pc + 3) = .ok (.dup, 1) := by rw [hb]; exact d3
  obtain ⟨U, hsteps, hrun, hend, hW, hsame, ce, hce, hO⟩ := X₁.ctorThrow0 hexec htr (own := own) (cls := cls) (names := names) (ic := ic) hown' hcls hnames h (fun x hx => nomatch hx) hfX hkX hcellA (by rw [hhp, hT]; exact Nat.le_refl _)
    (g := { method := m, pc := pc + 4, locals := ls, stack := .ref T.heap.size :: .ref T.heap.size :: rest, locked := none }) rfl hsize rfl rfl (rest := rest) rfl
    (by rw [hb]; exact d4) (by rw [hb]; exact d7) hout hRframes (by simp only [List.map_cons, List.sum_cons, hcat]; omega) hlocks
  obtain ⟨f1, f2⟩ := vx_frame hsame
  rw [hhp] at f1 f2
  have hWs : s.WarmedH U.vm := State.WarmedH.trans hW0 hW
  have hcl : s.vm.findClass cls = some ce.cls := by
    have h9 := hO.cls
    rw [hvm] at h9
    exact h9
  have hall : s.sameButNew ({ U with vm := s.vm } : State) locs mc ms := by
    subst hA
    obtain ⟨e1, e2⟩ := hsame
    rw [State.setFrames_setFrames] at e1
    have h2 : (T.setVm s.vm).sameButNew ({ U with vm := s.vm } : State) [] (0 + 1) (0 + 6) := ⟨e1, e2⟩
    have h3 := X.same.trans h2
    rw [List.append_nil] at h3
    exact h3.mono hc hs
  refine ⟨U, ?_, .threw T.heap.size, hrun, hend, Or.inr ⟨T.heap.size, rfl, cls, ce, locs, hx U hWs.alike f1 (fun q hq => f2 q hq (fun z hz => nomatch hz)), hce, hO.vm, hcl, hWs, hall, hf⟩⟩
  refine st1 _ ?_
  show Steps p.tables e below (T1.setTop { method := m, pc := pc + 3, locals := ls, stack := .ref T.heap.size :: rest, locked := none }) _
  jvm_step X₁.here [X₁.here.top, hexec, d3', Value.category]
  exact hsteps
/-- 'throw new E("text")': new; dup; ldc; invokespecial; athrow -/
theorem vx_throwS {cc : ByteArray} {pc : Nat} (hexec : p.tables.exec = Jvm.exec) (hb : c.code = cc) (hl : l.stackTraces = false) {own cls text : String} {names : List String} {ik is ic mc ms sa : Nat} {A : Nat → Prop}
    (hown : s.vm.findClass own = some m.cls) (hcls : Bundle.fit cls = true) (hnames : ∀ n ∈ names, Bundle.fit n = true)
    (hk : (Cond.classLink own ik cls).before args s = true) (hini : (Cond.initialized cls).before args s = true) (hstr : vk_R own is text sa s) (hat : ∀ w ∈ vx_atS own ic cls names, w.before args s = true)
    (hgood : ∀ w ∈ Cond.classLink own ik cls :: Cond.initialized cls :: vx_atS own ic cls names, vx_ot w = true)
    (hU : vx_Zq Bundle.tN "UNASSIGNED_STACK" Bundle.steD A s s.heap) (hN : vx_Zq Bundle.tN "SUPPRESSED_SENTINEL" Bundle.listD A s s.heap) (hS : va_S A s.heap H locs) (hsize : ls.size = c.maxLocals)
    (d0 : decode cc pc = .ok (.new ik, 3)) (d3 : decode cc (pc + 3) = .ok (.dup, 1)) (d4 : decode cc (pc + 4) = .ok (.ldc is, 2)) (d6 : decode cc (pc + 6) = .ok (.invokespecial ic, 3)) (d9 : decode cc (pc + 9) = .ok (.athrow, 1))
    (hout : ∀ x ∈ c.exceptionTable.toList, covers x (pc + 9) = false)
    (hRframes : names.length + 3 < R.frames) (hRlocals : (rest.map fun v => v.category).sum + (13 * (names.length + 1) + 43) ≤ R.locals) (hRcells : cells + 1 ≤ R.cells) (hRslots : slots + 6 ≤ R.slots) (hlocks : meth.locks = false)
    (hx : ∀ t : State, s.vm.Alike t.vm → H.size ≤ t.heap.size → (∀ q : Nat, q < H.size → t.heap[q]? = H[q]?) → XC cls s t)
    (hf : ∀ z ∈ locs, free z.base) (hc : cells + 1 ≤ mc) (hs : slots + 6 ≤ ms) :
    W p l e R s m args below meth c H locs cells slots (vx_MQ below Qc XC args s mc ms free) (F0 m pc ls rest) := by
  intro T hT X
  have htr : e.platform.stackTraces = false := (show e.platform.stackTraces = l.stackTraces by rw [X.admits.platform]).trans hl
  have Y := vx_rebase X (R' := { frames := R.frames, locals := R.locals, cells := 1, slots := 6 }) (Nat.le_refl _) (Nat.le_refl _) hRcells hRslots
  obtain ⟨s', hA⟩ : ∃ z, z = (T.setVm s.vm).setFrames (.invoking m args :: below) := ⟨_, rfl⟩
  rw [← hA] at Y
  have hvm : s'.vm = s.vm := by rw [hA]; rfl
  have hhp : s'.heap = H := by rw [hA]; exact hT
  have hW0 : s.WarmedH s'.vm := by rw [hvm]; exact State.WarmedH.refl s
  have hat' : ∀ w ∈ vx_atS own ic cls names, w.before args s' = true := fun w hw => vx_ot_at hW0 hvm.symm (hgood w (List.mem_cons_of_mem _ (List.mem_cons_of_mem _ hw))) (hat w hw)
  have hk' : (Cond.classLink own ik cls).before args s' = true := vx_ot_at hW0 hvm.symm (hgood _ List.mem_cons_self) hk
  have hini' : (Cond.initialized cls).before args s' = true := vx_ot_at hW0 hvm.symm (hgood _ (List.mem_cons_of_mem _ List.mem_cons_self)) hini
  have hU' : vx_Zq Bundle.tN "UNASSIGNED_STACK" Bundle.steD A s' s'.heap := by rw [hhp]; exact vx_Zq.moved hW0.alike (hU.kept hS.2.1)
  have hN' : vx_Zq Bundle.tN "SUPPRESSED_SENTINEL" Bundle.listD A s' s'.heap := by rw [hhp]; exact vx_Zq.moved hW0.alike (hN.kept hS.2.1)
  have h : ∀ w ∈ Bundle.ownAtoms own ic cls names, w.before args s' = true := vx_own hat' (vx_isRefq hU'.1) (vx_isRefq hN'.1) hU'.2.word hN'.2.word
  have hown' : s'.vm.findClass own = some m.cls := by rw [hvm]; exact hown
  have hins : (Cond.instantiable cls 6).before args s' = true := h _ (by simp [Bundle.ownAtoms])
  obtain ⟨vm₁, cX, kX, hfX, hkX, -, -, X₁, st1⟩ := Y.newCold hexec (own := own) (C := cls) (index := ik) (n := 6) hown' hk' hins hini'
    (g := F0 m pc ls rest) rfl (by rw [hb]; exact d0) (Nat.le_refl _) (Nat.le_refl _)
  generalize hT1 : (T.setVm vm₁).pushCell { cls := cX, slots := kX.instanceTypes.map defaultValue, vm := .none } = T1 at X₁ st1
  have hcat : (Value.ref T.heap.size).category = 1 := rfl
  have hcellA : T1.heap[T.heap.size]? = some (freshCell cX kX) := by rw [← hT1]; exact State.heap_pushCell_size _ _
  have d3' : decode c.code (pc + 3) = .ok (.dup, 1) := by rw [hb]; exact d3
  have d4' : decode c.code (pc + 4) = .ok (.ldc is, 2) := by rw [hb]; exact d4
  have hstr' : vk_R own is text sa s' := vk_R.warm hW0 hstr
  obtain ⟨U, hsteps, hrun, hend, hW, hsame, ce, hce, hO⟩ := X₁.ctorThrowS hexec htr (own := own) (cls := cls) (names := names) (ic := ic) hown' hcls hnames h (fun x hx => nomatch hx) hfX hkX hcellA (by rw [hhp, hT]; exact Nat.le_refl _) (msg := .ref sa) rfl
    (g := { method := m, pc := pc + 6, locals := ls, stack := .ref sa :: .ref T.heap.size :: .ref T.heap.size :: rest, locked := none }) rfl hsize rfl rfl (rest := rest) rfl
    (by rw [hb]; exact d6) (by rw [hb]; exact d9) hout hRframes (by simp only [List.map_cons, List.sum_cons, hcat]; omega) hlocks
  obtain ⟨f1, f2⟩ := vx_frame hsame
  rw [hhp] at f1 f2
  have hWs : s.WarmedH U.vm := State.WarmedH.trans hW0 hW
  have hcl : s.vm.findClass cls = some ce.cls := by
    have h9 := hO.cls
    rw [hvm] at h9
    exact h9
  have hall : s.sameButNew ({ U with vm := s.vm } : State) locs mc ms := by
    subst hA
    obtain ⟨e1, e2⟩ := hsame
    rw [State.setFrames_setFrames] at e1
    have h2 : (T.setVm s.vm).sameButNew ({ U with vm := s.vm } : State) [] (0 + 1) (0 + 6) := ⟨e1, e2⟩
    have h3 := X.same.trans h2
    rw [List.append_nil] at h3
    exact h3.mono hc hs
  refine ⟨U, ?_, .threw T.heap.size, hrun, hend, Or.inr ⟨T.heap.size, rfl, cls, ce, locs, hx U hWs.alike f1 (fun q hq => f2 q hq (fun z hz => nomatch hz)), hce, hO.vm, hcl, hWs, hall, hf⟩⟩
  refine st1 _ ?_
  show Steps p.tables e below (T1.setTop { method := m, pc := pc + 3, locals := ls, stack := .ref T.heap.size :: rest, locked := none }) _
  jvm_step X₁.here [X₁.here.top, hexec, d3', Value.category]
  exact X₁.ldcString hexec (own := own) (text := text) (index := is) (a := sa) hown' hstr'.1 hstr'.2
    (g := { method := m, pc := pc + 4, locals := ls, stack := .ref T.heap.size :: .ref T.heap.size :: rest, locked := none }) rfl d4' _ hsteps
/-- 'throw new E("text")', the text by a wide index -/
theorem vx_throwSW {cc : ByteArray} {pc : Nat} (hexec : p.tables.exec = Jvm.exec) (hb : c.code = cc) (hl : l.stackTraces = false) {own cls text : String} {names : List String} {ik is ic mc ms sa : Nat} {A : Nat → Prop}
    (hown : s.vm.findClass own = some m.cls) (hcls : Bundle.fit cls = true) (hnames : ∀ n ∈ names, Bundle.fit n = true)
    (hk : (Cond.classLink own ik cls).before args s = true) (hini : (Cond.initialized cls).before args s = true) (hstr : vk_R own is text sa s) (hat : ∀ w ∈ vx_atS own ic cls names, w.before args s = true)
    (hgood : ∀ w ∈ Cond.classLink own ik cls :: Cond.initialized cls :: vx_atS own ic cls names, vx_ot w = true)
    (hU : vx_Zq Bundle.tN "UNASSIGNED_STACK" Bundle.steD A s s.heap) (hN : vx_Zq Bundle.tN "SUPPRESSED_SENTINEL" Bundle.listD A s s.heap) (hS : va_S A s.heap H locs) (hsize : ls.size = c.maxLocals)
    (d0 : decode cc pc = .ok (.new ik, 3)) (d3 : decode cc (pc + 3) = .ok (.dup, 1)) (d4 : decode cc (pc + 4) = .ok (.ldc_w is, 3)) (d7 : decode cc (pc + 7) = .ok (.invokespecial ic, 3)) (d10 : decode cc (pc + 10) = .ok (.athrow, 1))
    (hout : ∀ x ∈ c.exceptionTable.toList, covers x (pc + 10) = false)
    (hRframes : names.length + 3 < R.frames) (hRlocals : (rest.map fun v => v.category).sum + (13 * (names.length + 1) + 43) ≤ R.locals) (hRcells : cells + 1 ≤ R.cells) (hRslots : slots + 6 ≤ R.slots) (hlocks : meth.locks = false)
    (hx : ∀ t : State, s.vm.Alike t.vm → H.size ≤ t.heap.size → (∀ q : Nat, q < H.size → t.heap[q]? = H[q]?) → XC cls s t)
    (hf : ∀ z ∈ locs, free z.base) (hc : cells + 1 ≤ mc) (hs : slots + 6 ≤ ms) :
    W p l e R s m args below meth c H locs cells slots (vx_MQ below Qc XC args s mc ms free) (F0 m pc ls rest) := by
  intro T hT X
  have htr : e.platform.stackTraces = false := (show e.platform.stackTraces = l.stackTraces by rw [X.admits.platform]).trans hl
  have Y := vx_rebase X (R' := { frames := R.frames, locals := R.locals, cells := 1, slots := 6 }) (Nat.le_refl _) (Nat.le_refl _) hRcells hRslots
  obtain ⟨s', hA⟩ : ∃ z, z = (T.setVm s.vm).setFrames (.invoking m args :: below) := ⟨_, rfl⟩
  rw [← hA] at Y
  have hvm : s'.vm = s.vm := by rw [hA]; rfl
  have hhp : s'.heap = H := by rw [hA]; exact hT
  have hW0 : s.WarmedH s'.vm := by rw [hvm]; exact State.WarmedH.refl s
  have hat' : ∀ w ∈ vx_atS own ic cls names, w.before args s' = true := fun w hw => vx_ot_at hW0 hvm.symm (hgood w (List.mem_cons_of_mem _ (List.mem_cons_of_mem _ hw))) (hat w hw)
  have hk' : (Cond.classLink own ik cls).before args s' = true := vx_ot_at hW0 hvm.symm (hgood _ List.mem_cons_self) hk
  have hini' : (Cond.initialized cls).before args s' = true := vx_ot_at hW0 hvm.symm (hgood _ (List.mem_cons_of_mem _ List.mem_cons_self)) hini
  have hU' : vx_Zq Bundle.tN "UNASSIGNED_STACK" Bundle.steD A s' s'.heap := by rw [hhp]; exact vx_Zq.moved hW0.alike (hU.kept hS.2.1)
  have hN' : vx_Zq Bundle.tN "SUPPRESSED_SENTINEL" Bundle.listD A s' s'.heap := by rw [hhp]; exact vx_Zq.moved hW0.alike (hN.kept hS.2.1)
  have h : ∀ w ∈ Bundle.ownAtoms own ic cls names, w.before args s' = true := vx_own hat' (vx_isRefq hU'.1) (vx_isRefq hN'.1) hU'.2.word hN'.2.word
  have hown' : s'.vm.findClass own = some m.cls := by rw [hvm]; exact hown
  have hins : (Cond.instantiable cls 6).before args s' = true := h _ (by simp [Bundle.ownAtoms])
  obtain ⟨vm₁, cX, kX, hfX, hkX, -, -, X₁, st1⟩ := Y.newCold hexec (own := own) (C := cls) (index := ik) (n := 6) hown' hk' hins hini'
    (g := F0 m pc ls rest) rfl (by rw [hb]; exact d0) (Nat.le_refl _) (Nat.le_refl _)
  generalize hT1 : (T.setVm vm₁).pushCell { cls := cX, slots := kX.instanceTypes.map defaultValue, vm := .none } = T1 at X₁ st1
  have hcat : (Value.ref T.heap.size).category = 1 := rfl
  have hcellA : T1.heap[T.heap.size]? = some (freshCell cX kX) := by rw [← hT1]; exact State.heap_pushCell_size _ _
  have d3' : decode c.code (pc + 3) = .ok (.dup, 1) := by rw [hb]; exact d3
  have d4' : decode c.code (pc + 4) = .ok (.ldc_w is, 3) := by rw [hb]; exact d4
  have hstr' : vk_R own is text sa s' := vk_R.warm hW0 hstr
  obtain ⟨U, hsteps, hrun, hend, hW, hsame, ce, hce, hO⟩ := X₁.ctorThrowS hexec htr (own := own) (cls := cls) (names := names) (ic := ic) hown' hcls hnames h (fun x hx => nomatch hx) hfX hkX hcellA (by rw [hhp, hT]; exact Nat.le_refl _) (msg := .ref sa) rfl
    (g := { method := m, pc := pc + 7, locals := ls, stack := .ref sa :: .ref T.heap.size :: .ref T.heap.size :: rest, locked := none }) rfl hsize rfl rfl (rest := rest) rfl
    (by rw [hb]; exact d7) (by rw [hb]; exact d10) hout hRframes (by simp only [List.map_cons, List.sum_cons, hcat]; omega) hlocks
  obtain ⟨f1, f2⟩ := vx_frame hsame
  rw [hhp] at f1 f2
  have hWs : s.WarmedH U.vm := State.WarmedH.trans hW0 hW
  have hcl : s.vm.findClass cls = some ce.cls := by
    have h9 := hO.cls
    rw [hvm] at h9
    exact h9
  have hall : s.sameButNew ({ U with vm := s.vm } : State) locs mc ms := by
    subst hA
    obtain ⟨e1, e2⟩ := hsame
    rw [State.setFrames_setFrames] at e1
    have h2 : (T.setVm s.vm).sameButNew ({ U with vm := s.vm } : State) [] (0 + 1) (0 + 6) := ⟨e1, e2⟩
    have h3 := X.same.trans h2
    rw [List.append_nil] at h3
    exact h3.mono hc hs
  refine ⟨U, ?_, .threw T.heap.size, hrun, hend, Or.inr ⟨T.heap.size, rfl, cls, ce, locs, hx U hWs.alike f1 (fun q hq => f2 q hq (fun z hz => nomatch hz)), hce, hO.vm, hcl, hWs, hall, hf⟩⟩
  refine st1 _ ?_
  show Steps p.tables e below (T1.setTop { method := m, pc := pc + 3, locals := ls, stack := .ref T.heap.size :: rest, locked := none }) _
  jvm_step X₁.here [X₁.here.top, hexec, d3', Value.category]
  exact X₁.ldcStringW hexec (own := own) (text := text) (index := is) (a := sa) hown' hstr'.1 hstr'.2
    (g := { method := m, pc := pc + 4, locals := ls, stack := .ref T.heap.size :: .ref T.heap.size :: rest, locked := none }) rfl d4' _ hsteps
end Ends
section Bodies
variable {l : Launch}
theorem vx_ofW {y : MethodName} {ws ws' : List Cond} {rm : Room} {Pc : Array Value → State → Prop} {Qc : Array Value → State → Outcome → State → Prop} {XC : String → State → State → Prop} {mc ms : Nat} {free : Addr → Prop} {cc : ByteArray} {maxL : Nat} {ret : Option FieldType}
    (hy : plainName y.cls = true) (hw : ws = Cond.code y cc maxL ret :: ws')
    (body : ∀ p e s m args below meth c s₁, BodyLoose p l y (headSpec ws rm) cc maxL ret e s m args below meth c s₁ → c.maxLocals = maxL → (∀ x ∈ c.exceptionTable.toList, False) → Pc args s →
      W p l e (headSpec ws rm).room s m args below meth c s.heap [] 0 0 (vx_MQ below Qc XC args s mc ms free) (entryFrame m args maxL)) : vx_Met l y ws rm Pc Qc XC mc ms free := by
  refine MetFree.of_bodyS (code := cc) (maxLocals := maxL) (ret := ret) hy ?_ ?_
  · intro args s m h hn
    obtain ⟨meth, c, h1, h2, h3, h4, h5, h6, -, -⟩ := Cond.code_spec hn (atoms_spec (ws := ws) h _ (by rw [hw]; exact List.mem_cons_self))
    exact ⟨meth, c, h1, h2, h3, h4, h5, h6⟩
  · intro p e s m args below meth c s₁ B hml hP _
    have hh0 : s₁.heap = s.heap := by rw [B.state]; rfl
    have ht : ∀ x ∈ c.exceptionTable.toList, False := by
      obtain ⟨meth9, c9, h1, h2, -, -, -, -, h7, -⟩ := Cond.code_spec B.named (atoms_spec (ws := ws) B.pre _ (by rw [hw]; exact List.mem_cons_self))
      cases Option.some.inj (h1.symm.trans B.method)
      cases Option.some.inj (h2.symm.trans (Stand.of_body B).code)
      intro x hx
      rw [Array.isEmpty_iff.mp h7] at hx
      cases hx
    obtain ⟨t, a1, o, b1, b2, b3⟩ := body p e s m args below meth c s₁ B hml ht hP s₁ hh0 (Stand.of_body B)
    exact ⟨t, o, a1, b1, b2, b3⟩
/-- the table of a body with handlers -/
theorem vx_table {p : Program} {x y : MethodName} {S : Spec} {cc bytes : ByteArray} {maxL maxL' : Nat} {ret ret' : Option FieldType} {e : Env} {s s₁ : State} {m : MethodId} {args : Array Value} {below : List Frame} {meth : Method} {c : Code} {hh : List (Nat × Nat × Nat × Nat)}
    (B : BodyLoose p l y S cc maxL ret e s m args below meth c s₁) (h : (Cond.codeWith y bytes maxL' ret' hh).before args s = true) : c.exceptionTable.toList = tableOf hh := by
  obtain ⟨m9, meth9, c9, hn9, h1, h2, -, -, h6, -⟩ := Cond.codeWith_spec h
  cases Option.some.inj (hn9.symm.trans B.named)
  cases Option.some.inj (h1.symm.trans B.method)
  cases Option.some.inj (h2.symm.trans (Stand.of_body B).code)
  rw [← h6, table_eq]
end Bodies
end VXA
/-! ===== END ===== -/
/-! ===== BEGIN a static call of a method with an exception table ===== -/
section VXS
variable {p : Program} {l : Launch} {e : Env} {R : Room} {s : State} {m : MethodId} {args : Array Value} {below : List Frame} {meth : Method} {c : Code} {T : State} {H : Heap} {locs : List Loc} {cells slots : Nat}
abbrev vx_CSW (R : Room) (s : State) (args : Array Value) (own : String) (index : Nat) (y : MethodName) (bytes : ByteArray) (maxL : Nat) (ret : Option FieldType) (hh : List (Nat × Nat × Nat × Nat)) (ws : List Cond) (rm : Room) (mc ms n : Nat) : Prop :=
  (rm.cells = mc ∧ rm.slots = ms ∧ rm.frames + 1 ≤ R.frames ∧ 8 + (maxL + 11) + rm.locals ≤ R.locals ∧ (∀ w ∈ ws, ∀ (a' : Array Value) (U : State), s.WarmedH U.vm → w.before a' U = true) ∧ Cond.codeWith y bytes maxL ret hh ∈ ws) ∧
  (Cond.codeWith y bytes maxL ret hh).before args s = true ∧ (Cond.initialized y.cls).before args s = true ∧ (y.cls ≠ "java/lang/invoke/MethodHandle" ∧ y.cls ≠ "java/lang/invoke/VarHandle") ∧
  (∀ sig, parseMethodDescriptor y.desc = some sig → n = sig.parameters.length) ∧ (Cond.methodLink own index y).before args s = true ∧ (Cond.static y).before args s = true
theorem vx_cwSW {own : String} {index maxL mc ms : Nat} {y : MethodName} {bytes : ByteArray} {ret : Option FieldType} {hh : List (Nat × Nat × Nat × Nat)} {Ts ws ws' : List Cond} {rm : Room} (n : Nat) (ht : ∀ w ∈ Ts, w.before args s = true) (hT : GoodIn Ts (va_wsS own index y ws)) (hw : ws = Cond.codeWith y bytes maxL ret hh :: ws') (hrc : rm.cells = mc) (hrs : rm.slots = ms)
    (hd : y.cls ≠ "java/lang/invoke/MethodHandle" ∧ y.cls ≠ "java/lang/invoke/VarHandle" ∧ (parseMethodDescriptor y.desc).map (fun d => d.parameters.length) = some n) (hR : rm.frames + 1 ≤ R.frames ∧ 8 + (maxL + 11) + rm.locals ≤ R.locals) :
    vx_CSW R s args own index y bytes maxL ret hh ws rm mc ms n := by
  have ok : ∀ w ∈ va_wsS own index y ws, w.before args s = true := fun w h => ht w (hT w h).1
  have hG : GoodIn Ts ws := fun w h => hT w (by unfold va_wsS; exact List.mem_append_right _ h)
  have hc : Cond.codeWith y bytes maxL ret hh ∈ ws := by rw [hw]; exact List.mem_cons_self
  refine ⟨⟨hrc, hrs, hR.1, hR.2, pay_in ht hG, hc⟩, ht _ (hG _ hc).1, ok _ (by simp [va_wsS]), ⟨hd.1, hd.2.1⟩, fun sig h => ?_, ok _ (by simp [va_wsS]), ok _ (by simp [va_wsS])⟩
  have h2 := hd.2.2
  rw [h] at h2
  exact (Option.some.inj h2).symm
theorem vx_callSW (X : Stand p l e R s m args below meth c T locs cells slots) (hexec : p.tables.exec = Jvm.exec) {own : String} {index : Nat} {y : MethodName} {bytes : ByteArray} {maxL : Nat} {ret : Option FieldType} {hh : List (Nat × Nat × Nat × Nat)}
    (hown : s.vm.findClass own = some m.cls) (hlink : (Cond.methodLink own index y).before args s = true) (hstat : (Cond.static y).before args s = true) (hinit : (Cond.initialized y.cls).before args s = true)
    (hcode : (Cond.codeWith y bytes maxL ret hh).before args s = true) (hy : y.cls ≠ "java/lang/invoke/MethodHandle" ∧ y.cls ≠ "java/lang/invoke/VarHandle")
    {W9 : Nat} {Pre : Pt → Array Value → Prop} {Post : Pt → Array Value → Option Value → Pt → Prop} (hK : Back l R p e below s args y 3 W9 Pre Post)
    {g : JFrame} (hg : g.method = m) (hsize : g.locals.size = c.maxLocals) {argsL rest : List Value} (hlen : ∀ sig, parseMethodDescriptor y.desc = some sig → argsL.length = sig.parameters.length)
    (hstack : g.stack = argsL.reverse ++ rest) (hW : 2 * g.monitorRoom + (rest.map fun v => v.category).sum ≤ W9) (hdg : decode c.code g.pc = .ok (.invokestatic index, 3))
    (hpre : ∀ vm₁, s.WarmedH vm₁ → Pre ⟨T.setVm vm₁, locs, cells, slots⟩ argsL.toArray) :
    ∃ (v : Option Value) (vm₁ : Vm) (B : Pt), s.WarmedH vm₁ ∧ Stand p l e R s m args below meth c B.U B.locs B.cells B.slots ∧ Post ⟨T.setVm vm₁, locs, cells, slots⟩ argsL.toArray v B ∧
      ∀ target, Steps p.tables e below (B.U.setTop { g with pc := g.pc + 3, stack := v.toList ++ rest }) target → Steps p.tables e below (T.setTop g) target := by
  obtain ⟨mk, methM, cM, hnamed, hmethM, -, -, -, -, -, -, hsigM⟩ := Cond.codeWith_spec hcode
  have hstatic : methM.isStatic = true := Cond.static_spec hnamed hmethM hstat
  obtain ⟨kP, hkP, -⟩ := className_of_methodNamed hnamed
  have hinitP : kP.init = .initialized := Cond.initialized_spec (findClass_of_methodNamed hnamed) hkP hinit
  obtain ⟨vm₁, X₁, hstep₁⟩ := X.invokestatic hexec hown hlink hnamed hmethM hstatic hkP hinitP hy (g := g) hg (argsL := argsL) (rest := rest) (hlen _ hsigM) hstack hdg
  obtain ⟨v, B, X', hpost, hsteps⟩ := hK m meth c ⟨T.setVm vm₁, locs, cells, slots⟩ { g with stack := rest } (.invokestatic index) mk argsL.toArray X₁ hg hsize hdg hW (X₁.named hnamed) (hpre vm₁ X₁.warmed)
  exact ⟨v, vm₁, B, X₁.warmed, X', hpost, fun target h => hstep₁ _ fun acts => by rw [doInvoke_state]; exact hsteps.trans h⟩
theorem vx_runSW {y : MethodName} {bytes cc : ByteArray} {maxL nL mc ms n index : Nat} {ret : Option FieldType} {hh : List (Nat × Nat × Nat × Nat)} {ws : List Cond} {rm : Room} {Pc : Array Value → State → Prop} {Qc : Array Value → State → Outcome → State → Prop} {free : Addr → Prop} {Ts : List Cond} {own : String} {As rest : List Value} {g : JFrame}
    (S : CallFix p m c cc nL s args Ts own) (hM : Met l y ws rm Pc Qc mc ms free) (cw : vx_CSW R s args own index y bytes maxL ret hh ws rm mc ms n) (hp : PreS s H Pc As)
    (hg : g.method = m) (hn : As.length = n) (hsize : g.locals.size = nL) (hstack : g.stack = As.reverse ++ rest) (hW : 2 * g.monitorRoom + (rest.map fun v => v.category).sum ≤ 8) (hdg : decode cc g.pc = .ok (.invokestatic index, 3)) (hf : cells + mc ≤ R.cells ∧ slots + ms ≤ R.slots) :
    va_Run p l e R s m args below meth c H locs cells slots mc ms g rest (Qc As.toArray) (free) := by
  obtain ⟨⟨hrc, hrs, hfr, hlo, hws, hcw⟩, hcode, hini, hy, hlen, hl, hstt⟩ := cw
  have hK : Back l R p e below s args y 3 8 (PreOf R mc ms Pc) (PostOf Qc mc ms free) := va_backW (hh := hh) (bytes := bytes) (maxL := maxL) (ret := ret) hM hp.1 hrc hrs hfr hlo hws hcw (fun a' U hW => word_at hW (Or.inl (by first | rfl | simp [Cond.onTables, Cond.keeps, Cond.steady])) hini)
  obtain ⟨hx, hb, hml, ho, -⟩ := S
  intro T hT X
  obtain ⟨v, vm₁, ⟨U', l2, c2, s2⟩, hW₁, X', ⟨g', mk, t, L, e1, e2, hq, h1, hL, h2, h3⟩, st⟩ := vx_callSW X hx (hh := hh) (bytes := bytes) (maxL := maxL) (ret := ret) ho hl hstt hini hcode hy hK hg (hsize.trans hml.symm) (argsL := As) (rest := rest) (fun sig h => hn.trans (hlen sig h)) hstack hW (by rw [hb]; exact hdg)
    (fun vm₁ hW₁ => ⟨hf.1, hf.2, hp.2 (T.setVm vm₁) hT hW₁⟩)
  dsimp only [Pt.U, Pt.locs, Pt.cells, Pt.slots] at X' e1 e2 h1 h2 h3 st
  subst h1; subst h2; subst h3
  exact ⟨v, (T.setVm vm₁).calling g' mk As.toArray, t, U', L, hT, X', hL, e1, e2, hq, st⟩
/-- not caught here, past rows that name other classes: it goes on to the caller -/
theorem vx_outP {p : Program} {l : Launch} {e : Env} {R : Room} {s : State} {m : MethodId} {args : Array Value} {below : List Frame} {meth : Method} {c : Code} {H : Heap} {locs : List Loc} {cells slots : Nat} {free : Addr → Prop} {ls : Array Slot} {rest : List Value} {Qc : Array Value → State → Outcome → State → Prop} {XC : String → State → State → Prop}
    {pc : Nat} {own E : String} {ce : Cell} {q : Addr} {mc ms : Nat} (hown : s.vm.findClass own = some m.cls) (hlocks : meth.locks = false)
    (hpass : ∀ z ∈ c.exceptionTable.toList, covers z pc = false ∨ (z.catchType ≠ 0 ∧ ∃ nm : String, (Cond.classLink own z.catchType nm).before args s = true ∧ va_Nc E nm s)) (hcell : H[q]? = some ce) (hv : ce.vm = .none) (hcl : s.vm.findClass E = some ce.cls)
    (hx : ∀ t : State, t.heap = H → s.vm.Alike t.vm → XC E s t) (hf : ∀ z ∈ locs, free z.base) (hc : cells ≤ mc) (hs : slots ≤ ms) :
    vx_W p l e R s m args below meth c H locs cells slots (vx_MQ below Qc XC args s mc ms free) (F0 m pc ls rest) q := by
  intro T hT X
  have hpl : e.platform.magicAccessors = ({} : Platform).magicAccessors := by rw [X.admits.platform]
  obtain ⟨vm', hW', X', st⟩ := X.outThrough hlocks q (g := F0 m pc ls rest) rfl rfl rfl (cell := ce) (by rw [hT]; exact hcell) (by rw [hv]; rfl)
    (by obtain ⟨k9, h9, -⟩ := Vm.findClass_spec hcl; exact ⟨k9, h9⟩) (fun z hz => by
      rcases hpass z hz with h | ⟨hz0, nm, hl1, hn1⟩
      · exact Or.inl h
      · obtain ⟨c6, hc6, hcl6⟩ := Cond.classLink_spec hown hl1 e.platform hpl
        obtain ⟨a8, b8, h1, h2, h3⟩ := hn1
        cases Option.some.inj (h1.symm.trans hcl)
        cases Option.some.inj (h2.symm.trans hc6)
        exact Or.inr ⟨hz0, _, hcl6, h3⟩)
  obtain ⟨g₀, hfr⟩ := X'.frames_eq
  have hcell9 : ((T.setVm vm').setFrames (.throwing q :: below)).heap[q]? = some ce := by
    show T.heap[q]? = some ce
    rw [hT]; exact hcell
  have hend : Ended ((T.setVm vm').setFrames (.throwing q :: below)) below (.threw q) := State.frames_setFrames _ (State.cur_lt_of_frames hfr)
  refine ⟨(T.setVm vm').setFrames (.throwing q :: below), ?_, .threw q, X'.here.running, hend, Or.inr ⟨q, rfl, E, ce, locs, hx _ hT (X'.ends _).1.alike, hcell9, hv, hcl, (X'.ends _).1, (X'.ends _).2.mono hc hs, hf⟩⟩
  rw [X.pushThrowing_eq]
  exact st
/-- a thing of a world lies in the heap -/
theorem vx_lt {D : va_G} {cl : List vw_C} {ws : va_W} {H1 : Heap} (h : va_P D cl ws H1) {k : Nat} {q : Nat × va_E} (hk : ws[k]? = some q) : q.1 < H1.size := (h k q hk).lt
end VXS
/-! ===== END ===== -/
/-! ===== BEGIN methods with a table of their own: called by a name, returning or throwing ===== -/
section VXH
/-! vx_backW, vx_callVX, vx_callSX, vx_callVW, vx_runVW, vx_runVX, vx_runSX, vx_ofWH follow the same proofs as their sisters above (Free/Laws.lean, Shelf42/LK1.lean); vx_outP calls Shelf42/NT130.lean (outThrough). -/
section
variable {l : Launch} {R : Room} {p : Program} {e : Env} {below : List Frame} {s : State} {sargs : Array Value} {y : MethodName} {len W9 : Nat}
theorem vx_backW {ws : List Cond} {rm : Room} {Pc : Array Value → State → Prop} {Qc : Array Value → State → Outcome → State → Prop} {XC : String → State → State → Prop} {mc ms : Nat} {free : Addr → Prop} {bytes : ByteArray} {maxL : Nat} {ret : Option FieldType} {hh : List (Nat × Nat × Nat × Nat)}
    (hM : vx_Met l y ws rm Pc Qc XC mc ms free) (hblind : FrameBlind Pc) (hrc : rm.cells = mc) (hrs : rm.slots = ms)
    (hframes : rm.frames + 1 ≤ R.frames) (hlocals : W9 + (maxL + 11) + rm.locals ≤ R.locals)
    (hws : ∀ w ∈ ws, ∀ a' U, s.WarmedH U.vm → w.before a' U = true) (hcode : Cond.codeWith y bytes maxL ret hh ∈ ws) (hinit : ∀ a' U, s.WarmedH U.vm → (Cond.initialized y.cls).before a' U = true) :
    vx_Back l R p e below s sargs y len W9 (PreOf R mc ms Pc) (PostOf Qc mc ms free) (vx_Post XC mc ms free) := by
  intro m meth c A g ig mk a X hg hsize hdg hW hn hp
  have h1 : (headSpec ws rm).pre.before a A.U = true := atoms_intro fun w hw => hws w hw _ _ X.warmed
  have h2 : (Cond.codeWith y bytes maxL ret hh).before a A.U = true := hws _ hcode _ _ X.warmed
  have h3 : (Cond.initialized y.cls).before a A.U = true := hinit _ _ X.warmed
  have h4 : A.cells + (headSpec ws rm).room.cells ≤ R.cells := by rw [show (headSpec ws rm).room.cells = mc from hrc]; exact hp.1
  have h5 : A.slots + (headSpec ws rm).room.slots ≤ R.slots := by rw [show (headSpec ws rm).room.slots = ms from hrs]; exact hp.2.1
  have hPc : Pc a (A.U.calling g mk a) := hblind _ _ _ _ hp.2.2
  obtain ⟨U, Ls, c0, s0⟩ := A
  dsimp only [Pt.U, Pt.locs, Pt.cells, Pt.slots] at h1 h2 h3 h4 h5 X hn hPc ⊢
  obtain ⟨m9, methY, cY, hn9, hmY, hcY, -, hlY, -⟩ := Cond.codeWith_spec h2
  cases Option.some.inj (hn9.symm.trans hn)
  obtain ⟨kY, hkY, -⟩ := className_of_methodNamed hn
  have hinitY : kY.init = .initialized := Cond.initialized_spec (findClass_of_methodNamed hn) hkY h3
  have h : At U g.method c below := by rw [hg]; exact X.here
  have hlocals9 : W9 + (maxL + 11) + (headSpec ws rm).room.locals ≤ R.locals := hlocals
  have happ : (headSpec ws rm).appliesLoose y e.platform (U.calling g mk a) = true :=
    Spec.appliesLoose_calling (g := g) h hdg hn hkY hinitY
      (X.room_calling (g := g) (R' := (headSpec ws rm).room) hsize hmY hcY hframes (by rw [hlY]; omega) h4 h5) h1
  obtain ⟨mid, hmid⟩ := h.above
  have hfr : (U.setTop g).frames = (.java g :: mid) ++ below := by rw [State.frames_setTop' g h.top, hmid]; rfl
  obtain ⟨o, s₂, hsteps, -, hend, hq⟩ := Steps.callFree hM p X.admits X.cas X.clock (acts := []) hfr happ hPc trivial
  have hq' : vx_Q Qc XC mc ms free a (U.calling g mk a) o s₂ := hq
  rw [State.frames_setTop' g h.top] at hend
  obtain ⟨g₀, hg0⟩ := Option.isSome_iff_exists.mp h.top
  obtain ⟨r, hr⟩ := State.topJava?_eq_some.mp hg0
  have hr' : (({ U with heap := s₂.heap, slotsUsed := s₂.slotsUsed } : State).setVm s₂.vm).frames = .java g₀ :: r := hr
  rcases hq' with ⟨hqc, L, hfe, hL⟩ | ⟨q, rfl, E, ce, L, hx, hce, hcv, hcl, hW₂, hsm, hL⟩
  · obtain ⟨⟨v, rfl⟩, hW₂, e2, q2, q3, q4, q5, q6⟩ := id hfe
    have e3 : s₂ = ({ (U.calling g mk a).setFrames s₂.frames with heap := s₂.heap, slotsUsed := s₂.slotsUsed } : State).setVm s₂.vm := by
      have : s₂ = ({ s₂ with vm := (U.calling g mk a).vm } : State).setVm s₂.vm := rfl
      rw [e2] at this
      exact this
    obtain ⟨c₂, i₂, len₂, hc₂, hd₂, hf₂⟩ := hend
    have hW' : U.WarmedH s₂.vm := hW₂
    have hcc : c₂ = c := by
      have h1 : s₂.code? g.method = U.code? g.method := by
        rw [State.code?_eq, State.code?_eq, hW'.alike.method?]
      exact Option.some.inj (hc₂.symm.trans (h1.trans h.code))
    subst hcc
    have hlen : len₂ = len := by rw [hdg] at hd₂; cases hd₂; rfl
    subst hlen
    have hs₂ : s₂ = (({ U with heap := s₂.heap, slotsUsed := s₂.slotsUsed } : State).setVm s₂.vm).setTop { g with pc := g.pc + len₂, stack := v.toList ++ g.stack } := by
      refine e3.trans ?_
      rw [hf₂, State.calling_eq h.top, State.setFrames_setFrames, State.setTop_of_frames _ hr', hr]
      rfl
    have hsame : U.sameButNew ({ U with heap := s₂.heap, slotsUsed := s₂.slotsUsed } : State) L mc ms := by
      refine ⟨?_, q2, q3, q4, q5, q6⟩
      obtain ⟨t, ht, -⟩ := State.frames_cons hr
      show ({ U with heap := s₂.heap, slotsUsed := s₂.slotsUsed } : State) = { U.setFrames U.frames with heap := s₂.heap, slotsUsed := s₂.slotsUsed }
      rw [State.setFrames_self ht]
    subst hg
    refine Or.inl ⟨v, ⟨(({ U with heap := s₂.heap, slotsUsed := s₂.slotsUsed } : State).setVm s₂.vm), Ls ++ L, c0 + mc, s0 + ms⟩,
      ⟨X.admits, X.cas, X.clock, X.frames, X.room, X.hears, X.method, X.code, (X.here.setHeapUsed s₂.heap s₂.slotsUsed).setVm hW'.alike, X.tail, State.WarmedH.trans X.warmed hW', X.limits, X.bytes, X.same.trans (hsame.setVm s.vm)⟩,
      ⟨g, mk, s₂, L, rfl, rfl, hqc, rfl, hL, rfl, rfl⟩, ?_⟩
    show Steps p.tables e below _ ((({ U with heap := s₂.heap, slotsUsed := s₂.slotsUsed } : State).setVm s₂.vm).setTop { g with pc := g.pc + len₂, stack := v.toList ++ g.stack })
    rw [← hs₂]
    exact hsteps
  · obtain ⟨e2, q2, q3, q4, q5, q6⟩ := id hsm
    have e3 : s₂ = ({ (U.calling g mk a).setFrames s₂.frames with heap := s₂.heap, slotsUsed := s₂.slotsUsed } : State).setVm s₂.vm := by
      have : s₂ = ({ s₂ with vm := (U.calling g mk a).vm } : State).setVm s₂.vm := rfl
      rw [e2] at this
      exact this
    have hf₂ : s₂.frames = .throwing q :: .java g :: U.frames.tail := hend
    have hW' : U.WarmedH s₂.vm := hW₂
    have hs₂ : s₂ = ((({ U with heap := s₂.heap, slotsUsed := s₂.slotsUsed } : State).setVm s₂.vm).setTop g).pushFrame (.throwing q) := by
      refine e3.trans ?_
      rw [hf₂, State.calling_eq h.top, State.setFrames_setFrames, State.pushFrame, State.frames_setTop _ hr', State.setTop_of_frames _ hr', State.setFrames_setFrames, hr]
      rfl
    have hsame : U.sameButNew ({ U with heap := s₂.heap, slotsUsed := s₂.slotsUsed } : State) L mc ms := by
      refine ⟨?_, q2, q3, q4, q5, q6⟩
      obtain ⟨t, ht, -⟩ := State.frames_cons hr
      show ({ U with heap := s₂.heap, slotsUsed := s₂.slotsUsed } : State) = { U.setFrames U.frames with heap := s₂.heap, slotsUsed := s₂.slotsUsed }
      rw [State.setFrames_self ht]
    subst hg
    refine Or.inr ⟨q, ⟨(({ U with heap := s₂.heap, slotsUsed := s₂.slotsUsed } : State).setVm s₂.vm), Ls ++ L, c0 + mc, s0 + ms⟩,
      ⟨X.admits, X.cas, X.clock, X.frames, X.room, X.hears, X.method, X.code, (X.here.setHeapUsed s₂.heap s₂.slotsUsed).setVm hW'.alike, X.tail, State.WarmedH.trans X.warmed hW', X.limits, X.bytes, X.same.trans (hsame.setVm s.vm)⟩,
      ⟨g, mk, s₂, L, E, ce, rfl, rfl, hx, hce, hcv, hcl, rfl, hL, rfl, rfl⟩, ?_⟩
    show Steps p.tables e below _ (((({ U with heap := s₂.heap, slotsUsed := s₂.slotsUsed } : State).setVm s₂.vm).setTop g).pushFrame (.throwing q))
    rw [← hs₂]
    exact hsteps
end
variable {p : Program} {l : Launch} {e : Env} {R : Room} {s : State} {m : MethodId} {args : Array Value} {below : List Frame} {meth : Method} {c : Code} {T : State} {H : Heap} {locs : List Loc} {cells slots : Nat}
theorem vx_callVX (X : Stand p l e R s m args below meth c T locs cells slots) (hexec : p.tables.exec = Jvm.exec) {own C : String} {index : Nat} {y : MethodName} {bytes : ByteArray} {maxL : Nat} {ret : Option FieldType} {hh : List (Nat × Nat × Nat × Nat)}
    (hown : s.vm.findClass own = some m.cls) (hlink : (Cond.methodLink own index y).before args s = true) (hinst : (Cond.instanceMethod y).before args s = true) (hsel : (Cond.selects C y y).before args s = true)
    (hcode : (Cond.codeWith y bytes maxL ret hh).before args s = true) (hy : y.cls ≠ "java/lang/invoke/MethodHandle" ∧ y.cls ≠ "java/lang/invoke/VarHandle")
    {W9 : Nat} {Pre : Pt → Array Value → Prop} {Post : Pt → Array Value → Option Value → Pt → Prop} {PostX : Pt → Array Value → Addr → Pt → Prop} (hK : vx_Back l R p e below s args y 3 W9 Pre Post PostX)
    {b : Addr} {cellB : Cell} (hcell : T.heap[b]? = some cellB) (hobj : cellB.vm.isStatics = false) (hcls : s.vm.findClass C = some cellB.cls)
    {g : JFrame} (hg : g.method = m) (hsize : g.locals.size = c.maxLocals) {argsL rest : List Value} (hlen : ∀ sig, parseMethodDescriptor y.desc = some sig → argsL.length = sig.parameters.length)
    (hstack : g.stack = argsL.reverse ++ .ref b :: rest) (hW : 2 * g.monitorRoom + (rest.map fun v => v.category).sum ≤ W9) (hdg : decode c.code g.pc = .ok (.invokevirtual index, 3))
    (hpre : ∀ vm₁, s.WarmedH vm₁ → Pre ⟨T.setVm vm₁, locs, cells, slots⟩ (Value.ref b :: argsL).toArray) :
    (∃ (v : Option Value) (vm₁ : Vm) (B : Pt), s.WarmedH vm₁ ∧ Stand p l e R s m args below meth c B.U B.locs B.cells B.slots ∧ Post ⟨T.setVm vm₁, locs, cells, slots⟩ (Value.ref b :: argsL).toArray v B ∧
      ∀ target, Steps p.tables e below (B.U.setTop { g with pc := g.pc + 3, stack := v.toList ++ rest }) target → Steps p.tables e below (T.setTop g) target) ∨
    (∃ (q : Addr) (vm₁ : Vm) (B : Pt), s.WarmedH vm₁ ∧ Stand p l e R s m args below meth c B.U B.locs B.cells B.slots ∧ PostX ⟨T.setVm vm₁, locs, cells, slots⟩ (Value.ref b :: argsL).toArray q B ∧
      Steps p.tables e below (T.setTop g) ((B.U.setTop { g with stack := rest }).pushFrame (.throwing q))) := by
  obtain ⟨mk, methM, hnamed, hmethM, hstM, habM⟩ := Cond.instanceMethod_spec hinst
  obtain ⟨m8, methM', cM, hn8, hmethM', -, -, -, -, -, -, hsigM⟩ := Cond.codeWith_spec hcode
  cases Option.some.inj (hn8.symm.trans hnamed)
  cases hmethM.symm.trans hmethM'
  obtain ⟨c2, r2, m2, q1, q2, q3, q4, kP, hkP, hkPi⟩ := Cond.selects_spec hsel
  cases hcls.symm.trans q1
  cases (State.methodFound?_of_named hnamed hy).symm.trans q2
  cases hnamed.symm.trans q3
  have hselP : selectMethod e.platform s.vm cellB.cls mk = .method mk := by rw [Launch.admits_selectMethod X.admits]; exact q4
  obtain ⟨vm₁, X₁, hstep₁⟩ := X.invokevirtual hexec hown hlink hnamed hmethM hstM hkP hkPi hy (a := b) (cell := cellB) hcell
    (fun z h => by rw [h] at hobj; cases hobj) hselP hmethM habM hkP hkPi (g := g) hg (argsL := argsL) (rest := rest) (hlen _ hsigM) hstack hdg
  rcases hK m meth c ⟨T.setVm vm₁, locs, cells, slots⟩ { g with stack := rest } (.invokevirtual index) mk (Value.ref b :: argsL).toArray X₁ hg hsize hdg hW (X₁.named hnamed) (hpre vm₁ X₁.warmed) with ⟨v, B, X', hpost, hsteps⟩ | ⟨q, B, X', hpost, hsteps⟩
  · exact Or.inl ⟨v, vm₁, B, X₁.warmed, X', hpost, fun target h => hstep₁ _ fun acts => by rw [doInvoke_state]; exact hsteps.trans h⟩
  · exact Or.inr ⟨q, vm₁, B, X₁.warmed, X', hpost, hstep₁ _ fun acts => by rw [doInvoke_state]; exact hsteps⟩
theorem vx_callSX (X : Stand p l e R s m args below meth c T locs cells slots) (hexec : p.tables.exec = Jvm.exec) {own : String} {index : Nat} {y : MethodName} {bytes : ByteArray} {maxL : Nat} {ret : Option FieldType} {hh : List (Nat × Nat × Nat × Nat)}
    (hown : s.vm.findClass own = some m.cls) (hlink : (Cond.methodLink own index y).before args s = true) (hstat : (Cond.static y).before args s = true) (hinit : (Cond.initialized y.cls).before args s = true)
    (hcode : (Cond.codeWith y bytes maxL ret hh).before args s = true) (hy : y.cls ≠ "java/lang/invoke/MethodHandle" ∧ y.cls ≠ "java/lang/invoke/VarHandle")
    {W9 : Nat} {Pre : Pt → Array Value → Prop} {Post : Pt → Array Value → Option Value → Pt → Prop} {PostX : Pt → Array Value → Addr → Pt → Prop} (hK : vx_Back l R p e below s args y 3 W9 Pre Post PostX)
    {g : JFrame} (hg : g.method = m) (hsize : g.locals.size = c.maxLocals) {argsL rest : List Value} (hlen : ∀ sig, parseMethodDescriptor y.desc = some sig → argsL.length = sig.parameters.length)
    (hstack : g.stack = argsL.reverse ++ rest) (hW : 2 * g.monitorRoom + (rest.map fun v => v.category).sum ≤ W9) (hdg : decode c.code g.pc = .ok (.invokestatic index, 3))
    (hpre : ∀ vm₁, s.WarmedH vm₁ → Pre ⟨T.setVm vm₁, locs, cells, slots⟩ argsL.toArray) :
    (∃ (v : Option Value) (vm₁ : Vm) (B : Pt), s.WarmedH vm₁ ∧ Stand p l e R s m args below meth c B.U B.locs B.cells B.slots ∧ Post ⟨T.setVm vm₁, locs, cells, slots⟩ argsL.toArray v B ∧
      ∀ target, Steps p.tables e below (B.U.setTop { g with pc := g.pc + 3, stack := v.toList ++ rest }) target → Steps p.tables e below (T.setTop g) target) ∨
    (∃ (q : Addr) (vm₁ : Vm) (B : Pt), s.WarmedH vm₁ ∧ Stand p l e R s m args below meth c B.U B.locs B.cells B.slots ∧ PostX ⟨T.setVm vm₁, locs, cells, slots⟩ argsL.toArray q B ∧
      Steps p.tables e below (T.setTop g) ((B.U.setTop { g with stack := rest }).pushFrame (.throwing q))) := by
  obtain ⟨mk, methM, cM, hnamed, hmethM, -, -, -, -, -, -, hsigM⟩ := Cond.codeWith_spec hcode
  have hstatic : methM.isStatic = true := Cond.static_spec hnamed hmethM hstat
  obtain ⟨kP, hkP, -⟩ := className_of_methodNamed hnamed
  have hinitP : kP.init = .initialized := Cond.initialized_spec (findClass_of_methodNamed hnamed) hkP hinit
  obtain ⟨vm₁, X₁, hstep₁⟩ := X.invokestatic hexec hown hlink hnamed hmethM hstatic hkP hinitP hy (g := g) hg (argsL := argsL) (rest := rest) (hlen _ hsigM) hstack hdg
  rcases hK m meth c ⟨T.setVm vm₁, locs, cells, slots⟩ { g with stack := rest } (.invokestatic index) mk argsL.toArray X₁ hg hsize hdg hW (X₁.named hnamed) (hpre vm₁ X₁.warmed) with ⟨v, B, X', hpost, hsteps⟩ | ⟨q, B, X', hpost, hsteps⟩
  · exact Or.inl ⟨v, vm₁, B, X₁.warmed, X', hpost, fun target h => hstep₁ _ fun acts => by rw [doInvoke_state]; exact hsteps.trans h⟩
  · exact Or.inr ⟨q, vm₁, B, X₁.warmed, X', hpost, hstep₁ _ fun acts => by rw [doInvoke_state]; exact hsteps⟩
theorem vx_callVW (X : Stand p l e R s m args below meth c T locs cells slots) (hexec : p.tables.exec = Jvm.exec) {own C : String} {index : Nat} {y : MethodName} {bytes : ByteArray} {maxL : Nat} {ret : Option FieldType} {hh : List (Nat × Nat × Nat × Nat)}
    (hown : s.vm.findClass own = some m.cls) (hlink : (Cond.methodLink own index y).before args s = true) (hinst : (Cond.instanceMethod y).before args s = true) (hsel : (Cond.selects C y y).before args s = true)
    (hcode : (Cond.codeWith y bytes maxL ret hh).before args s = true) (hy : y.cls ≠ "java/lang/invoke/MethodHandle" ∧ y.cls ≠ "java/lang/invoke/VarHandle")
    {W9 : Nat} {Pre : Pt → Array Value → Prop} {Post : Pt → Array Value → Option Value → Pt → Prop} (hK : Back l R p e below s args y 3 W9 Pre Post)
    {b : Addr} {cellB : Cell} (hcell : T.heap[b]? = some cellB) (hobj : cellB.vm.isStatics = false) (hcls : s.vm.findClass C = some cellB.cls)
    {g : JFrame} (hg : g.method = m) (hsize : g.locals.size = c.maxLocals) {argsL rest : List Value} (hlen : ∀ sig, parseMethodDescriptor y.desc = some sig → argsL.length = sig.parameters.length)
    (hstack : g.stack = argsL.reverse ++ .ref b :: rest) (hW : 2 * g.monitorRoom + (rest.map fun v => v.category).sum ≤ W9) (hdg : decode c.code g.pc = .ok (.invokevirtual index, 3))
    (hpre : ∀ vm₁, s.WarmedH vm₁ → Pre ⟨T.setVm vm₁, locs, cells, slots⟩ (Value.ref b :: argsL).toArray) :
    ∃ (v : Option Value) (vm₁ : Vm) (B : Pt), s.WarmedH vm₁ ∧ Stand p l e R s m args below meth c B.U B.locs B.cells B.slots ∧ Post ⟨T.setVm vm₁, locs, cells, slots⟩ (Value.ref b :: argsL).toArray v B ∧
      ∀ target, Steps p.tables e below (B.U.setTop { g with pc := g.pc + 3, stack := v.toList ++ rest }) target → Steps p.tables e below (T.setTop g) target := by
  obtain ⟨mk, methM, hnamed, hmethM, hstM, habM⟩ := Cond.instanceMethod_spec hinst
  obtain ⟨m8, methM', cM, hn8, hmethM', -, -, -, -, -, -, hsigM⟩ := Cond.codeWith_spec hcode
  cases Option.some.inj (hn8.symm.trans hnamed)
  cases hmethM.symm.trans hmethM'
  obtain ⟨c2, r2, m2, q1, q2, q3, q4, kP, hkP, hkPi⟩ := Cond.selects_spec hsel
  cases hcls.symm.trans q1
  cases (State.methodFound?_of_named hnamed hy).symm.trans q2
  cases hnamed.symm.trans q3
  have hselP : selectMethod e.platform s.vm cellB.cls mk = .method mk := by rw [Launch.admits_selectMethod X.admits]; exact q4
  obtain ⟨vm₁, X₁, hstep₁⟩ := X.invokevirtual hexec hown hlink hnamed hmethM hstM hkP hkPi hy (a := b) (cell := cellB) hcell
    (fun z h => by rw [h] at hobj; cases hobj) hselP hmethM habM hkP hkPi (g := g) hg (argsL := argsL) (rest := rest) (hlen _ hsigM) hstack hdg
  obtain ⟨v, B, X', hpost, hsteps⟩ := hK m meth c ⟨T.setVm vm₁, locs, cells, slots⟩ { g with stack := rest } (.invokevirtual index) mk (Value.ref b :: argsL).toArray X₁ hg hsize hdg hW (X₁.named hnamed) (hpre vm₁ X₁.warmed)
  exact ⟨v, vm₁, B, X₁.warmed, X', hpost, fun target h => hstep₁ _ fun acts => by rw [doInvoke_state]; exact hsteps.trans h⟩
abbrev vx_CVW (R : Room) (s : State) (args : Array Value) (own C : String) (index : Nat) (y : MethodName) (bytes : ByteArray) (maxL : Nat) (ret : Option FieldType) (hh : List (Nat × Nat × Nat × Nat)) (ws : List Cond) (rm : Room) (mc ms n : Nat) : Prop :=
  (rm.cells = mc ∧ rm.slots = ms ∧ rm.frames + 1 ≤ R.frames ∧ 8 + (maxL + 11) + rm.locals ≤ R.locals ∧ (∀ w ∈ ws, ∀ (a' : Array Value) (U : State), s.WarmedH U.vm → w.before a' U = true) ∧ Cond.codeWith y bytes maxL ret hh ∈ ws) ∧
  (Cond.codeWith y bytes maxL ret hh).before args s = true ∧ (Cond.initialized y.cls).before args s = true ∧ (y.cls ≠ "java/lang/invoke/MethodHandle" ∧ y.cls ≠ "java/lang/invoke/VarHandle") ∧
  (∀ sig, parseMethodDescriptor y.desc = some sig → n = sig.parameters.length) ∧ (Cond.methodLink own index y).before args s = true ∧ (Cond.instanceMethod y).before args s = true ∧ (Cond.selects C y y).before args s = true
theorem vx_cwVW {own C : String} {index maxL mc ms : Nat} {y : MethodName} {bytes : ByteArray} {ret : Option FieldType} {hh : List (Nat × Nat × Nat × Nat)} {Ts ws ws' : List Cond} {rm : Room} (n : Nat) (ht : ∀ w ∈ Ts, w.before args s = true) (hT : GoodIn Ts (wsV own index C y ws)) (hw : ws = Cond.codeWith y bytes maxL ret hh :: ws') (hrc : rm.cells = mc) (hrs : rm.slots = ms)
    (hd : y.cls = C ∧ y.cls ≠ "java/lang/invoke/MethodHandle" ∧ y.cls ≠ "java/lang/invoke/VarHandle" ∧ (parseMethodDescriptor y.desc).map (fun d => d.parameters.length) = some n) (hR : rm.frames + 1 ≤ R.frames ∧ 8 + (maxL + 11) + rm.locals ≤ R.locals) :
    vx_CVW R s args own C index y bytes maxL ret hh ws rm mc ms n := by
  obtain ⟨hC, hd⟩ := hd
  subst hC
  have ok : ∀ w ∈ wsV own index y.cls y ws, w.before args s = true := fun w h => ht w (hT w h).1
  have hG : GoodIn Ts ws := fun w h => hT w (by unfold wsV; exact List.mem_append_right _ h)
  have hc : Cond.codeWith y bytes maxL ret hh ∈ ws := by rw [hw]; exact List.mem_cons_self
  refine ⟨⟨hrc, hrs, hR.1, hR.2, pay_in ht hG, hc⟩, ht _ (hG _ hc).1, ok _ (by simp [wsV]), ⟨hd.1, hd.2.1⟩, fun sig h => ?_, ok _ (by simp [wsV]), ok _ (by simp [wsV]), ok _ (by simp [wsV])⟩
  have h2 := hd.2.2
  rw [h] at h2
  exact (Option.some.inj h2).symm
theorem vx_runVW {y : MethodName} {bytes cc : ByteArray} {maxL nL mc ms n index : Nat} {ret : Option FieldType} {hh : List (Nat × Nat × Nat × Nat)} {ws : List Cond} {rm : Room} {Pc : Array Value → State → Prop} {Qc : Array Value → State → Outcome → State → Prop} {free : Addr → Prop} {Ts : List Cond} {own C : String} {b : Addr} {As rest : List Value} {g : JFrame}
    (S : CallFix p m c cc nL s args Ts own) (hM : Met l y ws rm Pc Qc mc ms free) (cw : vx_CVW R s args own C index y bytes maxL ret hh ws rm mc ms n) (hp : PreV s H C b Pc As)
    (hg : g.method = m) (hn : As.length = n) (hsize : g.locals.size = nL) (hstack : g.stack = As.reverse ++ .ref b :: rest) (hW : 2 * g.monitorRoom + (rest.map fun v => v.category).sum ≤ 8) (hdg : decode cc g.pc = .ok (.invokevirtual index, 3)) (hf : cells + mc ≤ R.cells ∧ slots + ms ≤ R.slots) :
    va_Run p l e R s m args below meth c H locs cells slots mc ms g rest (Qc (Value.ref b :: As).toArray) free := by
  obtain ⟨⟨hrc, hrs, hfr, hlo, hws, hcw⟩, hcode, hini, hy, hlen, hl, hin, hse⟩ := cw
  have hK : Back l R p e below s args y 3 8 (PreOf R mc ms Pc) (PostOf Qc mc ms free) := va_backW (hh := hh) (bytes := bytes) (maxL := maxL) (ret := ret) hM hp.1 hrc hrs hfr hlo hws hcw (fun a' U hW => word_at hW (Or.inl (by first | rfl | simp [Cond.onTables, Cond.keeps, Cond.steady])) hini)
  obtain ⟨hx, hb, hml, ho, -⟩ := S
  obtain ⟨-, ⟨cellB, hcB, hoB, hclB⟩, hPc⟩ := hp
  intro T hT X
  obtain ⟨v, vm₁, ⟨U', l2, c2, s2⟩, hW₁, X', ⟨g', mk, t, L, e1, e2, hq, h1, hL, h2, h3⟩, st⟩ := vx_callVW X hx (C := C) (hh := hh) (bytes := bytes) (maxL := maxL) (ret := ret) ho hl hin hse hcode hy hK (by rw [hT]; exact hcB) hoB hclB hg (hsize.trans hml.symm) (argsL := As) (rest := rest) (fun sig h => hn.trans (hlen sig h)) hstack hW (by rw [hb]; exact hdg)
    (fun vm₁ hW₁ => ⟨hf.1, hf.2, hPc (T.setVm vm₁) hT hW₁⟩)
  dsimp only [Pt.U, Pt.locs, Pt.cells, Pt.slots] at X' e1 e2 h1 h2 h3 st
  subst h1; subst h2; subst h3
  exact ⟨v, (T.setVm vm₁).calling g' mk (Value.ref b :: As).toArray, t, U', L, hT, X', hL, e1, e2, hq, st⟩
section
variable {y : MethodName} {bytes cc : ByteArray} {maxL nL mc ms n index : Nat} {ret : Option FieldType} {ws : List Cond} {rm : Room} {Pc : Array Value → State → Prop} {Qc : Array Value → State → Outcome → State → Prop} {XC : String → State → State → Prop} {free : Addr → Prop} {Ts : List Cond} {own C : String} {b : Addr} {As rest : List Value} {g : JFrame}
theorem vx_runVX {hh : List (Nat × Nat × Nat × Nat)} (S : CallFix p m c cc nL s args Ts own) (hM : vx_Met l y ws rm Pc Qc XC mc ms free) (cw : vx_CVW R s args own C index y bytes maxL ret hh ws rm mc ms n) (hp : PreV s H C b Pc As)
    (hg : g.method = m) (hn : As.length = n) (hsize : g.locals.size = nL) (hstack : g.stack = As.reverse ++ .ref b :: rest) (hW : 2 * g.monitorRoom + (rest.map fun v => v.category).sum ≤ 8) (hdg : decode cc g.pc = .ok (.invokevirtual index, 3)) (hf : cells + mc ≤ R.cells ∧ slots + ms ≤ R.slots) :
    vx_Run p l e R s m args below meth c H locs cells slots mc ms g rest (Qc (Value.ref b :: As).toArray) XC free := by
  obtain ⟨⟨hrc, hrs, hfr, hlo, hws, hcw⟩, hcode, hini, hy, hlen, hl, hin, hse⟩ := cw
  have hK : vx_Back l R p e below s args y 3 8 (PreOf R mc ms Pc) (PostOf Qc mc ms free) (vx_Post XC mc ms free) := vx_backW (hh := hh) (bytes := bytes) (maxL := maxL) (ret := ret) hM hp.1 hrc hrs hfr hlo hws hcw (fun a' U hW => word_at hW (Or.inl (by first | rfl | simp [Cond.onTables, Cond.keeps, Cond.steady])) hini)
  obtain ⟨hx, hb, hml, ho, -⟩ := S
  obtain ⟨-, ⟨cellB, hcB, hoB, hclB⟩, hPc⟩ := hp
  intro T hT X
  rcases vx_callVX X hx (C := C) (hh := hh) (bytes := bytes) (maxL := maxL) (ret := ret) ho hl hin hse hcode hy hK (by rw [hT]; exact hcB) hoB hclB hg (hsize.trans hml.symm) (argsL := As) (rest := rest) (fun sig h => hn.trans (hlen sig h)) hstack hW (by rw [hb]; exact hdg)
    (fun vm₁ hW₁ => ⟨hf.1, hf.2, hPc (T.setVm vm₁) hT hW₁⟩) with ⟨v, vm₁, ⟨U', l2, c2, s2⟩, hW₁, X', ⟨g', mk, t, L, e1, e2, hq, h1, hL, h2, h3⟩, st⟩ | ⟨q, vm₁, ⟨U', l2, c2, s2⟩, hW₁, X', ⟨g', mk, t, L, E, ce, e1, e2, hq, hce, hcv, hcl, h1, hL, h2, h3⟩, st⟩
  · dsimp only [Pt.U, Pt.locs, Pt.cells, Pt.slots] at X' e1 e2 h1 h2 h3 st
    subst h1; subst h2; subst h3
    exact Or.inl ⟨v, (T.setVm vm₁).calling g' mk (Value.ref b :: As).toArray, t, U', L, hT, X', hL, e1, e2, hq, st⟩
  · dsimp only [Pt.U, Pt.locs, Pt.cells, Pt.slots] at X' e1 e2 h1 h2 h3 st hcl
    subst h1; subst h2; subst h3
    exact Or.inr ⟨q, (T.setVm vm₁).calling g' mk (Value.ref b :: As).toArray, t, U', L, E, ce, hT, X', hL, e1, e2, hq, hce, hcv, vx_cls hW₁ hcl, st⟩
theorem vx_runSX {hh : List (Nat × Nat × Nat × Nat)} (S : CallFix p m c cc nL s args Ts own) (hM : vx_Met l y ws rm Pc Qc XC mc ms free) (cw : vx_CSW R s args own index y bytes maxL ret hh ws rm mc ms n) (hp : PreS s H Pc As)
    (hg : g.method = m) (hn : As.length = n) (hsize : g.locals.size = nL) (hstack : g.stack = As.reverse ++ rest) (hW : 2 * g.monitorRoom + (rest.map fun v => v.category).sum ≤ 8) (hdg : decode cc g.pc = .ok (.invokestatic index, 3)) (hf : cells + mc ≤ R.cells ∧ slots + ms ≤ R.slots) :
    vx_Run p l e R s m args below meth c H locs cells slots mc ms g rest (Qc As.toArray) XC free := by
  obtain ⟨⟨hrc, hrs, hfr, hlo, hws, hcw⟩, hcode, hini, hy, hlen, hl, hstt⟩ := cw
  have hK : vx_Back l R p e below s args y 3 8 (PreOf R mc ms Pc) (PostOf Qc mc ms free) (vx_Post XC mc ms free) := vx_backW (hh := hh) (bytes := bytes) (maxL := maxL) (ret := ret) hM hp.1 hrc hrs hfr hlo hws hcw (fun a' U hW => word_at hW (Or.inl (by first | rfl | simp [Cond.onTables, Cond.keeps, Cond.steady])) hini)
  obtain ⟨hx, hb, hml, ho, -⟩ := S
  intro T hT X
  rcases vx_callSX X hx (hh := hh) (bytes := bytes) (maxL := maxL) (ret := ret) ho hl hstt hini hcode hy hK hg (hsize.trans hml.symm) (argsL := As) (rest := rest) (fun sig h => hn.trans (hlen sig h)) hstack hW (by rw [hb]; exact hdg)
    (fun vm₁ hW₁ => ⟨hf.1, hf.2, hp.2 (T.setVm vm₁) hT hW₁⟩) with ⟨v, vm₁, ⟨U', l2, c2, s2⟩, hW₁, X', ⟨g', mk, t, L, e1, e2, hq, h1, hL, h2, h3⟩, st⟩ | ⟨q, vm₁, ⟨U', l2, c2, s2⟩, hW₁, X', ⟨g', mk, t, L, E, ce, e1, e2, hq, hce, hcv, hcl, h1, hL, h2, h3⟩, st⟩
  · dsimp only [Pt.U, Pt.locs, Pt.cells, Pt.slots] at X' e1 e2 h1 h2 h3 st
    subst h1; subst h2; subst h3
    exact Or.inl ⟨v, (T.setVm vm₁).calling g' mk As.toArray, t, U', L, hT, X', hL, e1, e2, hq, st⟩
  · dsimp only [Pt.U, Pt.locs, Pt.cells, Pt.slots] at X' e1 e2 h1 h2 h3 st hcl
    subst h1; subst h2; subst h3
    exact Or.inr ⟨q, (T.setVm vm₁).calling g' mk As.toArray, t, U', L, E, ce, hT, X', hL, e1, e2, hq, hce, hcv, vx_cls hW₁ hcl, st⟩
end
end VXH
theorem vx_ofWH {l : Launch} {y : MethodName} {ws ws' : List Cond} {rm : Room} {Pc : Array Value → State → Prop} {Qc : Array Value → State → Outcome → State → Prop} {XC : String → State → State → Prop} {mc ms : Nat} {free : Addr → Prop} {cc : ByteArray} {maxL : Nat} {ret : Option FieldType} {hh : List (Nat × Nat × Nat × Nat)}
    (hy : plainName y.cls = true) (hw : ws = Cond.codeWith y cc maxL ret hh :: ws')
    (body : ∀ p e s m args below meth c s₁, BodyLoose p l y (headSpec ws rm) cc maxL ret e s m args below meth c s₁ → c.maxLocals = maxL → Pc args s →
      W p l e (headSpec ws rm).room s m args below meth c s.heap [] 0 0 (vx_MQ below Qc XC args s mc ms free) (entryFrame m args maxL)) : vx_Met l y ws rm Pc Qc XC mc ms free := by
  refine MetFree.of_bodyS (code := cc) (maxLocals := maxL) (ret := ret) hy ?_ ?_
  · intro args s m h hn
    obtain ⟨m9, meth, c, hn9, h1, h2, h3, h4, -, h5, h6, -⟩ := Cond.codeWith_spec (atoms_spec (ws := ws) h _ (by rw [hw]; exact List.mem_cons_self))
    cases hn.symm.trans hn9
    exact ⟨meth, c, h1, h2, h3, h4, h5, h6⟩
  · intro p e s m args below meth c s₁ B hml hP _
    have hh0 : s₁.heap = s.heap := by rw [B.state]; rfl
    obtain ⟨t, a1, o, b1, b2, b3⟩ := body p e s m args below meth c s₁ B hml hP s₁ hh0 (Stand.of_body B)
    exact ⟨t, o, a1, b1, b2, b3⟩
/-! ===== END ===== -/
end
section
/-! ===== BEGIN printed: names, fields, word lists, decode rows ===== -/
def RX0 : String := "LogSpooler$Forwarder"
def TX0 : u_T := fun k => match k with
  | 0 => ("LogSpooler$Forwarder", "row", "[I", true)
  | 1 => ("LogSpooler$Forwarder", "end", "I", false)
  | 2 => ("LogSpooler$Forwarder", "firstQueued", "I", false)
  | 3 => ("LogSpooler$Forwarder", "acknowledgedOnes", "I", false)
  | 4 => ("LogSpooler$Forwarder", "lostOnes", "I", false)
  | _ => ("LogSpooler$Forwarder", "isConnected", "Z", false)
def tyX0 : Nat → FieldType := fun k => match k with
  | 0 => .array .int
  | 1 => .int
  | 2 => .int
  | 3 => .int
  | 4 => .int
  | _ => .boolean
abbrev wsX00 : List Cond := u_ws RX0 TX0 6
theorem nmX0 : ∀ a, a < 6 → ∀ b, b < 6 → a ≠ b → (TX0 a).2.1 ≠ (TX0 b).2.1 := by decide +kernel
theorem tyX0_ok : ∀ k, k < 6 → parseFieldDescriptor (TX0 k).2.2.1 = some (tyX0 k) := by decide +kernel
abbrev cX0_init : ByteArray := prog_2_method_1_code
def yX0_init : MethodName := ⟨RX0, "<init>", "()V"⟩
abbrev cX0_waiting : ByteArray := prog_2_method_2_code
def yX0_waiting : MethodName := ⟨RX0, "waiting", "()I"⟩
abbrev cX0_flying : ByteArray := prog_2_method_3_code
def yX0_flying : MethodName := ⟨RX0, "flying", "()I"⟩
abbrev cX0_take : ByteArray := prog_2_method_4_code
def yX0_take : MethodName := ⟨RX0, "take", "(I)V"⟩
abbrev cX0_canSend : ByteArray := prog_2_method_5_code
def yX0_canSend : MethodName := ⟨RX0, "canSend", "()Z"⟩
abbrev cX0_sendFirst : ByteArray := prog_2_method_6_code
def yX0_sendFirst : MethodName := ⟨RX0, "sendFirst", "()I"⟩
abbrev cX0_acknowledgeFirst : ByteArray := prog_2_method_7_code
def yX0_acknowledgeFirst : MethodName := ⟨RX0, "acknowledgeFirst", "()I"⟩
abbrev cX0_loseConnection : ByteArray := prog_2_method_8_code
def yX0_loseConnection : MethodName := ⟨RX0, "loseConnection", "()V"⟩
abbrev cX0_lineAt : ByteArray := prog_2_method_9_code
def yX0_lineAt : MethodName := ⟨RX0, "lineAt", "(I)I"⟩
def RX1 : String := "LogSpooler$Ledger"
def TX1 : u_T := fun k => match k with
  | 0 => ("LogSpooler$Ledger", "fates", "[I", true)
  | 1 => ("LogSpooler$Ledger", "targetSets", "[I", true)
  | _ => ("LogSpooler$Ledger", "entries", "I", false)
def tyX1 : Nat → FieldType := fun k => match k with
  | 0 => .array .int
  | 1 => .array .int
  | _ => .int
abbrev wsX10 : List Cond := u_ws RX1 TX1 3
theorem nmX1 : ∀ a, a < 3 → ∀ b, b < 3 → a ≠ b → (TX1 a).2.1 ≠ (TX1 b).2.1 := by decide +kernel
theorem tyX1_ok : ∀ k, k < 3 → parseFieldDescriptor (TX1 k).2.2.1 = some (tyX1 k) := by decide +kernel
abbrev cX1_init : ByteArray := prog_3_method_1_code
def yX1_init : MethodName := ⟨RX1, "<init>", "()V"⟩
abbrev cX1_isFull : ByteArray := prog_3_method_2_code
def yX1_isFull : MethodName := ⟨RX1, "isFull", "()Z"⟩
abbrev cX1_has : ByteArray := prog_3_method_3_code
def yX1_has : MethodName := ⟨RX1, "has", "(I)Z"⟩
abbrev cX1_enter : ByteArray := prog_3_method_4_code
def yX1_enter : MethodName := ⟨RX1, "enter", "(II)I"⟩
abbrev cX1_fateAt : ByteArray := prog_3_method_5_code
def yX1_fateAt : MethodName := ⟨RX1, "fateAt", "(I)I"⟩
abbrev cX1_targetsAt : ByteArray := prog_3_method_6_code
def yX1_targetsAt : MethodName := ⟨RX1, "targetsAt", "(I)I"⟩
abbrev cX1_entriesWith : ByteArray := prog_3_method_7_code
def yX1_entriesWith : MethodName := ⟨RX1, "entriesWith", "(I)I"⟩
def RX2 : String := "LogSpooler$LogFile"
def TX2 : u_T := fun k => match k with
  | 0 => ("LogSpooler$LogFile", "row", "[I", true)
  | 1 => ("LogSpooler$LogFile", "starts", "[I", true)
  | 2 => ("LogSpooler$LogFile", "end", "I", false)
  | 3 => ("LogSpooler$LogFile", "greatestSize", "I", false)
  | 4 => ("LogSpooler$LogFile", "age", "I", false)
  | 5 => ("LogSpooler$LogFile", "kept", "I", false)
  | 6 => ("LogSpooler$LogFile", "firstCame", "I", false)
  | 7 => ("LogSpooler$LogFile", "sumOfLengths", "I", false)
  | 8 => ("LogSpooler$LogFile", "olderOnes", "I", false)
  | _ => ("LogSpooler$LogFile", "rotations", "I", false)
def tyX2 : Nat → FieldType := fun k => match k with
  | 0 => .array .int
  | 1 => .array .int
  | 2 => .int
  | 3 => .int
  | 4 => .int
  | 5 => .int
  | 6 => .int
  | 7 => .int
  | 8 => .int
  | _ => .int
abbrev wsX20 : List Cond := u_ws RX2 TX2 10
theorem nmX2 : ∀ a, a < 10 → ∀ b, b < 10 → a ≠ b → (TX2 a).2.1 ≠ (TX2 b).2.1 := by decide +kernel
theorem tyX2_ok : ∀ k, k < 10 → parseFieldDescriptor (TX2 k).2.2.1 = some (tyX2 k) := by decide +kernel
abbrev cX2_init : ByteArray := prog_4_method_1_code
def yX2_init : MethodName := ⟨RX2, "<init>", "()V"⟩
abbrev cX2_limit : ByteArray := prog_4_method_2_code
def yX2_limit : MethodName := ⟨RX2, "limit", "(III)V"⟩
abbrev cX2_isEmpty : ByteArray := prog_4_method_3_code
def yX2_isEmpty : MethodName := ⟨RX2, "isEmpty", "()Z"⟩
abbrev cX2_isAged : ByteArray := prog_4_method_4_code
def yX2_isAged : MethodName := ⟨RX2, "isAged", "(I)Z"⟩
abbrev cX2_add : ByteArray := prog_4_method_5_code
def yX2_add : MethodName := ⟨RX2, "add", "(III)V"⟩
abbrev cX2_turnOver : ByteArray := prog_4_method_6_code
def yX2_turnOver : MethodName := ⟨RX2, "turnOver", "()V"⟩
abbrev cX2_has : ByteArray := prog_4_method_7_code
def yX2_has : MethodName := ⟨RX2, "has", "(I)Z"⟩
abbrev cX2_linesOf : ByteArray := prog_4_method_8_code
def yX2_linesOf : MethodName := ⟨RX2, "linesOf", "(I)I"⟩
abbrev cX2_lineAt : ByteArray := prog_4_method_9_code
def yX2_lineAt : MethodName := ⟨RX2, "lineAt", "(II)I"⟩
abbrev cX2_startOf : ByteArray := prog_4_method_10_code
def yX2_startOf : MethodName := ⟨RX2, "startOf", "(I)I"⟩
def RX3 : String := "LogSpooler$Rule"
def TX3 : u_T := fun k => match k with
  | 0 => ("LogSpooler$Rule", "isSet", "Z", false)
  | 1 => ("LogSpooler$Rule", "facilities", "I", false)
  | 2 => ("LogSpooler$Rule", "severity", "I", false)
  | 3 => ("LogSpooler$Rule", "sender", "I", false)
  | _ => ("LogSpooler$Rule", "target", "I", false)
def tyX3 : Nat → FieldType := fun k => match k with
  | 0 => .boolean
  | 1 => .int
  | 2 => .int
  | 3 => .int
  | _ => .int
abbrev wsX30 : List Cond := u_ws RX3 TX3 5
theorem nmX3 : ∀ a, a < 5 → ∀ b, b < 5 → a ≠ b → (TX3 a).2.1 ≠ (TX3 b).2.1 := by decide +kernel
theorem tyX3_ok : ∀ k, k < 5 → parseFieldDescriptor (TX3 k).2.2.1 = some (tyX3 k) := by decide +kernel
abbrev cX3_init : ByteArray := prog_5_method_1_code
def yX3_init : MethodName := ⟨RX3, "<init>", "()V"⟩
abbrev cX3_put : ByteArray := prog_5_method_2_code
def yX3_put : MethodName := ⟨RX3, "put", "(IIII)V"⟩
abbrev cX3_fits : ByteArray := prog_5_method_3_code
def yX3_fits : MethodName := ⟨RX3, "fits", "(III)Z"⟩
def RX4 : String := "LogSpooler$Sender"
def TX4 : u_T := fun k => match k with
  | 0 => ("LogSpooler$Sender", "number", "I", true)
  | 1 => ("LogSpooler$Sender", "tokensLeft", "I", false)
  | 2 => ("LogSpooler$Sender", "untoldRepeats", "I", false)
  | 3 => ("LogSpooler$Sender", "firstRepeat", "I", false)
  | 4 => ("LogSpooler$Sender", "untoldDrops", "I", false)
  | 5 => ("LogSpooler$Sender", "lastFacility", "I", false)
  | 6 => ("LogSpooler$Sender", "lastSeverity", "I", false)
  | 7 => ("LogSpooler$Sender", "lastText", "I", false)
  | _ => ("LogSpooler$Sender", "lastLength", "I", false)
def tyX4 : Nat → FieldType := fun k => match k with
  | 0 => .int
  | 1 => .int
  | 2 => .int
  | 3 => .int
  | 4 => .int
  | 5 => .int
  | 6 => .int
  | 7 => .int
  | _ => .int
abbrev wsX40 : List Cond := u_ws RX4 TX4 9
theorem nmX4 : ∀ a, a < 9 → ∀ b, b < 9 → a ≠ b → (TX4 a).2.1 ≠ (TX4 b).2.1 := by decide +kernel
theorem tyX4_ok : ∀ k, k < 9 → parseFieldDescriptor (TX4 k).2.2.1 = some (tyX4 k) := by decide +kernel
abbrev cX4_init : ByteArray := prog_6_method_1_code
def yX4_init : MethodName := ⟨RX4, "<init>", "(II)V"⟩
abbrev cX4_capTokens : ByteArray := prog_6_method_2_code
def yX4_capTokens : MethodName := ⟨RX4, "capTokens", "(I)V"⟩
abbrev cX4_gainToken : ByteArray := prog_6_method_3_code
def yX4_gainToken : MethodName := ⟨RX4, "gainToken", "(I)V"⟩
abbrev cX4_lastIs : ByteArray := prog_6_method_4_code
def yX4_lastIs : MethodName := ⟨RX4, "lastIs", "(IIII)Z"⟩
abbrev cX4_setLast : ByteArray := prog_6_method_5_code
def yX4_setLast : MethodName := ⟨RX4, "setLast", "(IIII)V"⟩
abbrev cX4_countRepeat : ByteArray := prog_6_method_6_code
def yX4_countRepeat : MethodName := ⟨RX4, "countRepeat", "(I)V"⟩
def RX5 : String := "LogSpooler"
def TX5 : u_T := fun k => match k with
  | 0 => ("LogSpooler", "senders", "[LLogSpooler$Sender;", true)
  | 1 => ("LogSpooler", "rules", "[LLogSpooler$Rule;", true)
  | 2 => ("LogSpooler", "files", "[LLogSpooler$LogFile;", true)
  | 3 => ("LogSpooler", "forwarder", "LLogSpooler$Forwarder;", true)
  | 4 => ("LogSpooler", "ledger", "LLogSpooler$Ledger;", true)
  | 5 => ("LogSpooler", "now", "I", false)
  | 6 => ("LogSpooler", "burst", "I", false)
  | 7 => ("LogSpooler", "tokenTime", "I", false)
  | _ => ("LogSpooler", "foldTime", "I", false)
def tyX5 : Nat → FieldType := fun k => match k with
  | 0 => .array (.object "LogSpooler$Sender")
  | 1 => .array (.object "LogSpooler$Rule")
  | 2 => .array (.object "LogSpooler$LogFile")
  | 3 => .object "LogSpooler$Forwarder"
  | 4 => .object "LogSpooler$Ledger"
  | 5 => .int
  | 6 => .int
  | 7 => .int
  | _ => .int
abbrev wsX50 : List Cond := u_ws RX5 TX5 9
theorem nmX5 : ∀ a, a < 9 → ∀ b, b < 9 → a ≠ b → (TX5 a).2.1 ≠ (TX5 b).2.1 := by decide +kernel
theorem tyX5_ok : ∀ k, k < 9 → parseFieldDescriptor (TX5 k).2.2.1 = some (tyX5 k) := by decide +kernel
abbrev cX5_init : ByteArray := prog_1_method_1_code
def yX5_init : MethodName := ⟨RX5, "<init>", "()V"⟩
abbrev cX5_setRate : ByteArray := prog_1_method_2_code
def yX5_setRate : MethodName := ⟨RX5, "setRate", "(II)I"⟩
abbrev cX5_setFold : ByteArray := prog_1_method_3_code
def yX5_setFold : MethodName := ⟨RX5, "setFold", "(I)I"⟩
abbrev cX5_setRule : ByteArray := prog_1_method_4_code
def yX5_setRule : MethodName := ⟨RX5, "setRule", "(IIIII)I"⟩
abbrev cX5_removeRule : ByteArray := prog_1_method_5_code
def yX5_removeRule : MethodName := ⟨RX5, "removeRule", "(I)Z"⟩
abbrev cX5_setFile : ByteArray := prog_1_method_6_code
def yX5_setFile : MethodName := ⟨RX5, "setFile", "(IIII)I"⟩
abbrev cX5_message : ByteArray := prog_1_method_7_code
def yX5_message : MethodName := ⟨RX5, "message", "(IIIII)I"⟩
abbrev cX5_pass : ByteArray := prog_1_method_8_code
def yX5_pass : MethodName := ⟨RX5, "pass", "(I)I"⟩
abbrev cX5_rotate : ByteArray := prog_1_method_9_code
def yX5_rotate : MethodName := ⟨RX5, "rotate", "(I)I"⟩
abbrev cX5_connect : ByteArray := prog_1_method_10_code
def yX5_connect : MethodName := ⟨RX5, "connect", "()I"⟩
abbrev cX5_disconnect : ByteArray := prog_1_method_11_code
def yX5_disconnect : MethodName := ⟨RX5, "disconnect", "()I"⟩
abbrev cX5_send : ByteArray := prog_1_method_12_code
def yX5_send : MethodName := ⟨RX5, "send", "()I"⟩
abbrev cX5_acknowledge : ByteArray := prog_1_method_13_code
def yX5_acknowledge : MethodName := ⟨RX5, "acknowledge", "()I"⟩
abbrev cX5_time : ByteArray := prog_1_method_14_code
def yX5_time : MethodName := ⟨RX5, "time", "()I"⟩
abbrev cX5_tokens : ByteArray := prog_1_method_15_code
def yX5_tokens : MethodName := ⟨RX5, "tokens", "(I)I"⟩
abbrev cX5_repeats : ByteArray := prog_1_method_16_code
def yX5_repeats : MethodName := ⟨RX5, "repeats", "(I)I"⟩
abbrev cX5_drops : ByteArray := prog_1_method_17_code
def yX5_drops : MethodName := ⟨RX5, "drops", "(I)I"⟩
abbrev cX5_size : ByteArray := prog_1_method_18_code
def yX5_size : MethodName := ⟨RX5, "size", "(I)I"⟩
abbrev cX5_lines : ByteArray := prog_1_method_19_code
def yX5_lines : MethodName := ⟨RX5, "lines", "(II)I"⟩
abbrev cX5_line : ByteArray := prog_1_method_20_code
def yX5_line : MethodName := ⟨RX5, "line", "(III)I"⟩
abbrev cX5_generations : ByteArray := prog_1_method_21_code
def yX5_generations : MethodName := ⟨RX5, "generations", "(I)I"⟩
abbrev cX5_queued : ByteArray := prog_1_method_22_code
def yX5_queued : MethodName := ⟨RX5, "queued", "()I"⟩
abbrev cX5_inFlight : ByteArray := prog_1_method_23_code
def yX5_inFlight : MethodName := ⟨RX5, "inFlight", "()I"⟩
abbrev cX5_acknowledged : ByteArray := prog_1_method_24_code
def yX5_acknowledged : MethodName := ⟨RX5, "acknowledged", "()I"⟩
abbrev cX5_lost : ByteArray := prog_1_method_25_code
def yX5_lost : MethodName := ⟨RX5, "lost", "()I"⟩
abbrev cX5_messages : ByteArray := prog_1_method_26_code
def yX5_messages : MethodName := ⟨RX5, "messages", "()I"⟩
abbrev cX5_fateOf : ByteArray := prog_1_method_27_code
def yX5_fateOf : MethodName := ⟨RX5, "fateOf", "(I)I"⟩
abbrev cX5_count : ByteArray := prog_1_method_28_code
def yX5_count : MethodName := ⟨RX5, "count", "(I)I"⟩
abbrev cX5_targetsOf : ByteArray := prog_1_method_29_code
def yX5_targetsOf : MethodName := ⟨RX5, "targetsOf", "(I)I"⟩
abbrev cX5_isWithin : ByteArray := prog_1_method_30_code
def yX5_isWithin : MethodName := ⟨RX5, "isWithin", "(III)Z"⟩
abbrev cX5_senderAt : ByteArray := prog_1_method_31_code
def yX5_senderAt : MethodName := ⟨RX5, "senderAt", "(I)LLogSpooler$Sender;"⟩
abbrev cX5_ruleAt : ByteArray := prog_1_method_32_code
def yX5_ruleAt : MethodName := ⟨RX5, "ruleAt", "(I)LLogSpooler$Rule;"⟩
abbrev cX5_fileAt : ByteArray := prog_1_method_33_code
def yX5_fileAt : MethodName := ⟨RX5, "fileAt", "(I)LLogSpooler$LogFile;"⟩
abbrev cX5_rulesThatAreSet : ByteArray := prog_1_method_34_code
def yX5_rulesThatAreSet : MethodName := ⟨RX5, "rulesThatAreSet", "()I"⟩
abbrev cX5_tellRepeats : ByteArray := prog_1_method_35_code
def yX5_tellRepeats : MethodName := ⟨RX5, "tellRepeats", "(LLogSpooler$Sender;)V"⟩
abbrev cX5_tellDrops : ByteArray := prog_1_method_36_code
def yX5_tellDrops : MethodName := ⟨RX5, "tellDrops", "(LLogSpooler$Sender;)V"⟩
abbrev cX5_route : ByteArray := prog_1_method_37_code
def yX5_route : MethodName := ⟨RX5, "route", "(IIIII)I"⟩
abbrev cX5_passOneSecond : ByteArray := prog_1_method_38_code
def yX5_passOneSecond : MethodName := ⟨RX5, "passOneSecond", "()V"⟩
abbrev cX5_giveTokens : ByteArray := prog_1_method_39_code
def yX5_giveTokens : MethodName := ⟨RX5, "giveTokens", "()V"⟩
abbrev cX5_tellDueRepeats : ByteArray := prog_1_method_40_code
def yX5_tellDueRepeats : MethodName := ⟨RX5, "tellDueRepeats", "()V"⟩
abbrev cX5_firstWithDueRepeats : ByteArray := prog_1_method_41_code
def yX5_firstWithDueRepeats : MethodName := ⟨RX5, "firstWithDueRepeats", "()LLogSpooler$Sender;"⟩
abbrev cX5_rotateAgedFiles : ByteArray := prog_1_method_42_code
def yX5_rotateAgedFiles : MethodName := ⟨RX5, "rotateAgedFiles", "()V"⟩
abbrev cX5_rotationsOfAllFiles : ByteArray := prog_1_method_43_code
def yX5_rotationsOfAllFiles : MethodName := ⟨RX5, "rotationsOfAllFiles", "()I"⟩
def RX6 : String := "LogSpoolerModel"
def TX6 : u_T := fun k => match k with
  | 0 => ("LogSpoolerModel", "thrown", "I", false)
  | 1 => ("LogSpoolerModel", "time", "I", false)
  | 2 => ("LogSpoolerModel", "burst", "I", false)
  | 3 => ("LogSpoolerModel", "tokenTime", "I", false)
  | 4 => ("LogSpoolerModel", "fold", "I", false)
  | 5 => ("LogSpoolerModel", "tokens", "[I", true)
  | 6 => ("LogSpoolerModel", "repeats", "[I", true)
  | 7 => ("LogSpoolerModel", "firstRepeats", "[I", true)
  | 8 => ("LogSpoolerModel", "drops", "[I", true)
  | 9 => ("LogSpoolerModel", "lasts", "[I", true)
  | 10 => ("LogSpoolerModel", "isSet", "[Z", true)
  | 11 => ("LogSpoolerModel", "facilities", "[I", true)
  | 12 => ("LogSpoolerModel", "severities", "[I", true)
  | 13 => ("LogSpoolerModel", "senders", "[I", true)
  | 14 => ("LogSpoolerModel", "targets", "[I", true)
  | 15 => ("LogSpoolerModel", "most", "[I", true)
  | 16 => ("LogSpoolerModel", "ages", "[I", true)
  | 17 => ("LogSpoolerModel", "kept", "[I", true)
  | 18 => ("LogSpoolerModel", "sizes", "[I", true)
  | 19 => ("LogSpoolerModel", "ends", "[I", true)
  | 20 => ("LogSpoolerModel", "generations", "[I", true)
  | 21 => ("LogSpoolerModel", "starts", "[I", true)
  | 22 => ("LogSpoolerModel", "lines", "[I", true)
  | 23 => ("LogSpoolerModel", "times", "[I", true)
  | 24 => ("LogSpoolerModel", "isConnected", "Z", false)
  | 25 => ("LogSpoolerModel", "forwarded", "[I", true)
  | 26 => ("LogSpoolerModel", "taken", "I", false)
  | 27 => ("LogSpoolerModel", "sent", "I", false)
  | 28 => ("LogSpoolerModel", "acknowledged", "I", false)
  | 29 => ("LogSpoolerModel", "lost", "I", false)
  | 30 => ("LogSpoolerModel", "rotations", "I", false)
  | 31 => ("LogSpoolerModel", "messages", "I", false)
  | 32 => ("LogSpoolerModel", "fates", "[I", true)
  | _ => ("LogSpoolerModel", "wentTo", "[I", true)
def tyX6 : Nat → FieldType := fun k => match k with
  | 0 => .int
  | 1 => .int
  | 2 => .int
  | 3 => .int
  | 4 => .int
  | 5 => .array .int
  | 6 => .array .int
  | 7 => .array .int
  | 8 => .array .int
  | 9 => .array .int
  | 10 => .array .boolean
  | 11 => .array .int
  | 12 => .array .int
  | 13 => .array .int
  | 14 => .array .int
  | 15 => .array .int
  | 16 => .array .int
  | 17 => .array .int
  | 18 => .array .int
  | 19 => .array .int
  | 20 => .array .int
  | 21 => .array .int
  | 22 => .array .int
  | 23 => .array .int
  | 24 => .boolean
  | 25 => .array .int
  | 26 => .int
  | 27 => .int
  | 28 => .int
  | 29 => .int
  | 30 => .int
  | 31 => .int
  | 32 => .array .int
  | _ => .array .int
abbrev wsX60 : List Cond := u_ws RX6 TX6 34
theorem nmX6 : ∀ a, a < 34 → ∀ b, b < 34 → a ≠ b → (TX6 a).2.1 ≠ (TX6 b).2.1 := by decide +kernel
theorem tyX6_ok : ∀ k, k < 34 → parseFieldDescriptor (TX6 k).2.2.1 = some (tyX6 k) := by decide +kernel
abbrev cX6_init : ByteArray := prog_8_method_1_code
def yX6_init : MethodName := ⟨RX6, "<init>", "()V"⟩
abbrev cX6_thrown : ByteArray := prog_8_method_2_code
def yX6_thrown : MethodName := ⟨RX6, "thrown", "()I"⟩
abbrev cX6_holds : ByteArray := prog_8_method_3_code
def yX6_holds : MethodName := ⟨RX6, "holds", "(I)Z"⟩
abbrev cX6_isIn : ByteArray := prog_8_method_4_code
def yX6_isIn : MethodName := ⟨RX6, "isIn", "(III)Z"⟩
abbrev cX6_setRate : ByteArray := prog_8_method_5_code
def yX6_setRate : MethodName := ⟨RX6, "setRate", "(II)I"⟩
abbrev cX6_setFold : ByteArray := prog_8_method_6_code
def yX6_setFold : MethodName := ⟨RX6, "setFold", "(I)I"⟩
abbrev cX6_setRule : ByteArray := prog_8_method_7_code
def yX6_setRule : MethodName := ⟨RX6, "setRule", "(IIIII)I"⟩
abbrev cX6_removeRule : ByteArray := prog_8_method_8_code
def yX6_removeRule : MethodName := ⟨RX6, "removeRule", "(I)Z"⟩
abbrev cX6_isFile : ByteArray := prog_8_method_9_code
def yX6_isFile : MethodName := ⟨RX6, "isFile", "(I)Z"⟩
abbrev cX6_setFile : ByteArray := prog_8_method_10_code
def yX6_setFile : MethodName := ⟨RX6, "setFile", "(IIII)I"⟩
abbrev cX6_linesOf : ByteArray := prog_8_method_11_code
def yX6_linesOf : MethodName := ⟨RX6, "linesOf", "(I)I"⟩
abbrev cX6_rotates : ByteArray := prog_8_method_12_code
def yX6_rotates : MethodName := ⟨RX6, "rotates", "(I)V"⟩
abbrev cX6_comesTo : ByteArray := prog_8_method_13_code
def yX6_comesTo : MethodName := ⟨RX6, "comesTo", "(III)V"⟩
abbrev cX6_forwards : ByteArray := prog_8_method_14_code
def yX6_forwards : MethodName := ⟨RX6, "forwards", "(I)V"⟩
abbrev cX6_goes : ByteArray := prog_8_method_15_code
def yX6_goes : MethodName := ⟨RX6, "goes", "(IIIII)I"⟩
abbrev cX6_tellsRepeats : ByteArray := prog_8_method_16_code
def yX6_tellsRepeats : MethodName := ⟨RX6, "tellsRepeats", "(I)V"⟩
abbrev cX6_tellsDrops : ByteArray := prog_8_method_17_code
def yX6_tellsDrops : MethodName := ⟨RX6, "tellsDrops", "(I)V"⟩
abbrev cX6_notes : ByteArray := prog_8_method_18_code
def yX6_notes : MethodName := ⟨RX6, "notes", "(II)I"⟩
abbrev cX6_message : ByteArray := prog_8_method_19_code
def yX6_message : MethodName := ⟨RX6, "message", "(IIIII)I"⟩
abbrev cX6_due : ByteArray := prog_8_method_20_code
def yX6_due : MethodName := ⟨RX6, "due", "()I"⟩
abbrev cX6_passes : ByteArray := prog_8_method_21_code
def yX6_passes : MethodName := ⟨RX6, "passes", "()V"⟩
abbrev cX6_pass : ByteArray := prog_8_method_22_code
def yX6_pass : MethodName := ⟨RX6, "pass", "(I)I"⟩
abbrev cX6_rotate : ByteArray := prog_8_method_23_code
def yX6_rotate : MethodName := ⟨RX6, "rotate", "(I)I"⟩
abbrev cX6_connect : ByteArray := prog_8_method_24_code
def yX6_connect : MethodName := ⟨RX6, "connect", "()I"⟩
abbrev cX6_disconnect : ByteArray := prog_8_method_25_code
def yX6_disconnect : MethodName := ⟨RX6, "disconnect", "()I"⟩
abbrev cX6_send : ByteArray := prog_8_method_26_code
def yX6_send : MethodName := ⟨RX6, "send", "()I"⟩
abbrev cX6_acknowledge : ByteArray := prog_8_method_27_code
def yX6_acknowledge : MethodName := ⟨RX6, "acknowledge", "()I"⟩
abbrev cX6_time : ByteArray := prog_8_method_28_code
def yX6_time : MethodName := ⟨RX6, "time", "()I"⟩
abbrev cX6_isSender : ByteArray := prog_8_method_29_code
def yX6_isSender : MethodName := ⟨RX6, "isSender", "(I)Z"⟩
abbrev cX6_tokens : ByteArray := prog_8_method_30_code
def yX6_tokens : MethodName := ⟨RX6, "tokens", "(I)I"⟩
abbrev cX6_repeats : ByteArray := prog_8_method_31_code
def yX6_repeats : MethodName := ⟨RX6, "repeats", "(I)I"⟩
abbrev cX6_drops : ByteArray := prog_8_method_32_code
def yX6_drops : MethodName := ⟨RX6, "drops", "(I)I"⟩
abbrev cX6_size : ByteArray := prog_8_method_33_code
def yX6_size : MethodName := ⟨RX6, "size", "(I)I"⟩
abbrev cX6_isPart : ByteArray := prog_8_method_34_code
def yX6_isPart : MethodName := ⟨RX6, "isPart", "(II)Z"⟩
abbrev cX6_startOf : ByteArray := prog_8_method_35_code
def yX6_startOf : MethodName := ⟨RX6, "startOf", "(II)I"⟩
abbrev cX6_endOf : ByteArray := prog_8_method_36_code
def yX6_endOf : MethodName := ⟨RX6, "endOf", "(II)I"⟩
abbrev cX6_lines : ByteArray := prog_8_method_37_code
def yX6_lines : MethodName := ⟨RX6, "lines", "(II)I"⟩
abbrev cX6_line : ByteArray := prog_8_method_38_code
def yX6_line : MethodName := ⟨RX6, "line", "(III)I"⟩
abbrev cX6_generations : ByteArray := prog_8_method_39_code
def yX6_generations : MethodName := ⟨RX6, "generations", "(I)I"⟩
abbrev cX6_queued : ByteArray := prog_8_method_40_code
def yX6_queued : MethodName := ⟨RX6, "queued", "()I"⟩
abbrev cX6_inFlight : ByteArray := prog_8_method_41_code
def yX6_inFlight : MethodName := ⟨RX6, "inFlight", "()I"⟩
abbrev cX6_acknowledged : ByteArray := prog_8_method_42_code
def yX6_acknowledged : MethodName := ⟨RX6, "acknowledged", "()I"⟩
abbrev cX6_lost : ByteArray := prog_8_method_43_code
def yX6_lost : MethodName := ⟨RX6, "lost", "()I"⟩
abbrev cX6_messages : ByteArray := prog_8_method_44_code
def yX6_messages : MethodName := ⟨RX6, "messages", "()I"⟩
abbrev cX6_isMessage : ByteArray := prog_8_method_45_code
def yX6_isMessage : MethodName := ⟨RX6, "isMessage", "(I)Z"⟩
abbrev cX6_fateOf : ByteArray := prog_8_method_46_code
def yX6_fateOf : MethodName := ⟨RX6, "fateOf", "(I)I"⟩
abbrev cX6_count : ByteArray := prog_8_method_47_code
def yX6_count : MethodName := ⟨RX6, "count", "(I)I"⟩
abbrev cX6_targetsOf : ByteArray := prog_8_method_48_code
def yX6_targetsOf : MethodName := ⟨RX6, "targetsOf", "(I)I"⟩
def RJ0 : String := "java/lang/String"
def TJ0 : u_T := fun k => match k with
  | _ => ("", "", "", false)
def tyJ0 : Nat → FieldType := fun k => match k with
  | _ => .int
abbrev wsJ00 : List Cond := u_ws RJ0 TJ0 0
theorem nmJ0 : ∀ a, a < 0 → ∀ b, b < 0 → a ≠ b → (TJ0 a).2.1 ≠ (TJ0 b).2.1 := by decide +kernel
theorem tyJ0_ok : ∀ k, k < 0 → parseFieldDescriptor (TJ0 k).2.2.1 = some (tyJ0 k) := by decide +kernel
def RL : String := "LogSpoolerLaw"
abbrev cL_setRate : ByteArray := method_3_code
def yL_setRate : MethodName := ⟨RL, "setRate", "(LLogSpooler;II[J)I"⟩
abbrev cL_setFold : ByteArray := method_4_code
def yL_setFold : MethodName := ⟨RL, "setFold", "(LLogSpooler;I[J)I"⟩
abbrev cL_setRule : ByteArray := method_5_code
def yL_setRule : MethodName := ⟨RL, "setRule", "(LLogSpooler;IIIII[J)I"⟩
abbrev cL_removeRule : ByteArray := method_6_code
def yL_removeRule : MethodName := ⟨RL, "removeRule", "(LLogSpooler;I[J)I"⟩
abbrev cL_setFile : ByteArray := method_7_code
def yL_setFile : MethodName := ⟨RL, "setFile", "(LLogSpooler;IIII[J)I"⟩
abbrev cL_message : ByteArray := method_8_code
def yL_message : MethodName := ⟨RL, "message", "(LLogSpooler;IIIII[J)I"⟩
abbrev cL_pass : ByteArray := method_9_code
def yL_pass : MethodName := ⟨RL, "pass", "(LLogSpooler;I[J)I"⟩
abbrev cL_rotate : ByteArray := method_10_code
def yL_rotate : MethodName := ⟨RL, "rotate", "(LLogSpooler;I[J)I"⟩
abbrev cL_connect : ByteArray := method_11_code
def yL_connect : MethodName := ⟨RL, "connect", "(LLogSpooler;[J)I"⟩
abbrev cL_disconnect : ByteArray := method_12_code
def yL_disconnect : MethodName := ⟨RL, "disconnect", "(LLogSpooler;[J)I"⟩
abbrev cL_send : ByteArray := method_13_code
def yL_send : MethodName := ⟨RL, "send", "(LLogSpooler;[J)I"⟩
abbrev cL_acknowledge : ByteArray := method_14_code
def yL_acknowledge : MethodName := ⟨RL, "acknowledge", "(LLogSpooler;[J)I"⟩
abbrev cL_tokens : ByteArray := method_15_code
def yL_tokens : MethodName := ⟨RL, "tokens", "(LLogSpooler;I[J)I"⟩
abbrev cL_repeats : ByteArray := method_16_code
def yL_repeats : MethodName := ⟨RL, "repeats", "(LLogSpooler;I[J)I"⟩
abbrev cL_drops : ByteArray := method_17_code
def yL_drops : MethodName := ⟨RL, "drops", "(LLogSpooler;I[J)I"⟩
abbrev cL_size : ByteArray := method_18_code
def yL_size : MethodName := ⟨RL, "size", "(LLogSpooler;I[J)I"⟩
abbrev cL_lines : ByteArray := method_19_code
def yL_lines : MethodName := ⟨RL, "lines", "(LLogSpooler;II[J)I"⟩
abbrev cL_line : ByteArray := method_20_code
def yL_line : MethodName := ⟨RL, "line", "(LLogSpooler;III[J)I"⟩
abbrev cL_generations : ByteArray := method_21_code
def yL_generations : MethodName := ⟨RL, "generations", "(LLogSpooler;I[J)I"⟩
abbrev cL_fateOf : ByteArray := method_22_code
def yL_fateOf : MethodName := ⟨RL, "fateOf", "(LLogSpooler;I[J)I"⟩
abbrev cL_count : ByteArray := method_23_code
def yL_count : MethodName := ⟨RL, "count", "(LLogSpooler;I[J)I"⟩
abbrev cL_targetsOf : ByteArray := method_24_code
def yL_targetsOf : MethodName := ⟨RL, "targetsOf", "(LLogSpooler;I[J)I"⟩
abbrev cL_law : ByteArray := code
def yL_law : MethodName := ⟨RL, "law", "([I)Z"⟩
def wsX0_init : List Cond := .code yX0_init cX0_init 1 none :: ([.methodLink RX0 3 objectInit, .instanceMethod objectInit, .code objectInit ⟨#[0xb1]⟩ 1 none, .arrayClass .int, .fieldLink RX0 9 "LogSpooler$Forwarder" "row" "[I", .fieldLink RX0 15 "LogSpooler$Forwarder" "end" "I", .fieldLink RX0 19 "LogSpooler$Forwarder" "firstQueued" "I", .fieldLink RX0 22 "LogSpooler$Forwarder" "acknowledgedOnes" "I", .fieldLink RX0 25 "LogSpooler$Forwarder" "lostOnes" "I", .fieldLink RX0 28 "LogSpooler$Forwarder" "isConnected" "Z"] ++ wsX00)
def wsX0_waiting : List Cond := .code yX0_waiting cX0_waiting 1 (some .int) :: ([.fieldLink RX0 15 "LogSpooler$Forwarder" "end" "I", .fieldLink RX0 19 "LogSpooler$Forwarder" "firstQueued" "I"] ++ wsX00)
def wsX0_flying : List Cond := .code yX0_flying cX0_flying 1 (some .int) :: ([.fieldLink RX0 19 "LogSpooler$Forwarder" "firstQueued" "I", .fieldLink RX0 22 "LogSpooler$Forwarder" "acknowledgedOnes" "I"] ++ wsX00)
def wsX0_take : List Cond := .code yX0_take cX0_take 2 none :: ([.fieldLink RX0 15 "LogSpooler$Forwarder" "end" "I", .fieldLink RX0 22 "LogSpooler$Forwarder" "acknowledgedOnes" "I", .fieldLink RX0 9 "LogSpooler$Forwarder" "row" "[I", .fieldLink RX0 25 "LogSpooler$Forwarder" "lostOnes" "I"] ++ wsX00)
def wsX0_canSend : List Cond := .code yX0_canSend cX0_canSend 1 (some .boolean) :: ([.fieldLink RX0 28 "LogSpooler$Forwarder" "isConnected" "Z", .methodLink RX0 32 yX0_waiting, .instanceMethod yX0_waiting, .selects RX0 yX0_waiting yX0_waiting, .initialized RX0, .code yX0_waiting cX0_waiting 1 (some .int), .fieldLink RX0 15 "LogSpooler$Forwarder" "end" "I", .fieldLink RX0 19 "LogSpooler$Forwarder" "firstQueued" "I", .methodLink RX0 36 yX0_flying, .instanceMethod yX0_flying, .selects RX0 yX0_flying yX0_flying, .code yX0_flying cX0_flying 1 (some .int), .fieldLink RX0 22 "LogSpooler$Forwarder" "acknowledgedOnes" "I"] ++ wsX00)
def wsX0_lineAt : List Cond := .code yX0_lineAt cX0_lineAt 2 (some .int) :: ([.fieldLink RX0 9 "LogSpooler$Forwarder" "row" "[I"] ++ wsX00)
def wsX0_sendFirst : List Cond := .code yX0_sendFirst cX0_sendFirst 2 (some .int) :: ([.fieldLink RX0 19 "LogSpooler$Forwarder" "firstQueued" "I", .methodLink RX0 39 yX0_lineAt, .instanceMethod yX0_lineAt, .selects RX0 yX0_lineAt yX0_lineAt, .initialized RX0, .code yX0_lineAt cX0_lineAt 2 (some .int), .fieldLink RX0 9 "LogSpooler$Forwarder" "row" "[I"] ++ wsX00)
def wsX0_acknowledgeFirst : List Cond := .code yX0_acknowledgeFirst cX0_acknowledgeFirst 2 (some .int) :: ([.fieldLink RX0 22 "LogSpooler$Forwarder" "acknowledgedOnes" "I", .methodLink RX0 39 yX0_lineAt, .instanceMethod yX0_lineAt, .selects RX0 yX0_lineAt yX0_lineAt, .initialized RX0, .code yX0_lineAt cX0_lineAt 2 (some .int), .fieldLink RX0 9 "LogSpooler$Forwarder" "row" "[I"] ++ wsX00)
def wsX0_loseConnection : List Cond := .code yX0_loseConnection cX0_loseConnection 1 none :: ([.fieldLink RX0 28 "LogSpooler$Forwarder" "isConnected" "Z", .fieldLink RX0 22 "LogSpooler$Forwarder" "acknowledgedOnes" "I", .fieldLink RX0 19 "LogSpooler$Forwarder" "firstQueued" "I"] ++ wsX00)
def wsX1_init : List Cond := .code yX1_init cX1_init 1 none :: ([.methodLink RX1 3 objectInit, .instanceMethod objectInit, .code objectInit ⟨#[0xb1]⟩ 1 none, .arrayClass .int, .fieldLink RX1 9 "LogSpooler$Ledger" "fates" "[I", .fieldLink RX1 15 "LogSpooler$Ledger" "targetSets" "[I", .fieldLink RX1 18 "LogSpooler$Ledger" "entries" "I"] ++ wsX10)
def wsX1_isFull : List Cond := .code yX1_isFull cX1_isFull 1 (some .boolean) :: ([.fieldLink RX1 18 "LogSpooler$Ledger" "entries" "I"] ++ wsX10)
def wsX1_has : List Cond := .code yX1_has cX1_has 2 (some .boolean) :: ([.fieldLink RX1 18 "LogSpooler$Ledger" "entries" "I"] ++ wsX10)
def wsX1_enter : List Cond := .code yX1_enter cX1_enter 3 (some .int) :: ([.fieldLink RX1 18 "LogSpooler$Ledger" "entries" "I", .fieldLink RX1 9 "LogSpooler$Ledger" "fates" "[I", .fieldLink RX1 15 "LogSpooler$Ledger" "targetSets" "[I"] ++ wsX10)
def wsX1_fateAt : List Cond := .code yX1_fateAt cX1_fateAt 2 (some .int) :: ([.fieldLink RX1 9 "LogSpooler$Ledger" "fates" "[I"] ++ wsX10)
def wsX1_targetsAt : List Cond := .code yX1_targetsAt cX1_targetsAt 2 (some .int) :: ([.fieldLink RX1 15 "LogSpooler$Ledger" "targetSets" "[I"] ++ wsX10)
def wsX1_entriesWith : List Cond := .code yX1_entriesWith cX1_entriesWith 4 (some .int) :: ([.fieldLink RX1 18 "LogSpooler$Ledger" "entries" "I", .fieldLink RX1 9 "LogSpooler$Ledger" "fates" "[I"] ++ wsX10)
def wsX2_init : List Cond := .code yX2_init cX2_init 1 none :: ([.methodLink RX2 3 objectInit, .instanceMethod objectInit, .code objectInit ⟨#[0xb1]⟩ 1 none, .arrayClass .int, .fieldLink RX2 9 "LogSpooler$LogFile" "row" "[I", .fieldLink RX2 15 "LogSpooler$LogFile" "starts" "[I", .fieldLink RX2 18 "LogSpooler$LogFile" "end" "I", .fieldLink RX2 22 "LogSpooler$LogFile" "greatestSize" "I", .fieldLink RX2 25 "LogSpooler$LogFile" "age" "I", .fieldLink RX2 28 "LogSpooler$LogFile" "kept" "I", .fieldLink RX2 31 "LogSpooler$LogFile" "firstCame" "I", .fieldLink RX2 34 "LogSpooler$LogFile" "sumOfLengths" "I", .fieldLink RX2 37 "LogSpooler$LogFile" "olderOnes" "I", .fieldLink RX2 40 "LogSpooler$LogFile" "rotations" "I"] ++ wsX20)
def wsX2_limit : List Cond := .code yX2_limit cX2_limit 4 none :: ([.fieldLink RX2 22 "LogSpooler$LogFile" "greatestSize" "I", .fieldLink RX2 25 "LogSpooler$LogFile" "age" "I", .fieldLink RX2 28 "LogSpooler$LogFile" "kept" "I", .fieldLink RX2 37 "LogSpooler$LogFile" "olderOnes" "I"] ++ wsX20)
def wsX2_isEmpty : List Cond := .code yX2_isEmpty cX2_isEmpty 1 (some .boolean) :: ([.fieldLink RX2 18 "LogSpooler$LogFile" "end" "I", .fieldLink RX2 15 "LogSpooler$LogFile" "starts" "[I"] ++ wsX20)
def wsX2_isAged : List Cond := .code yX2_isAged cX2_isAged 2 (some .boolean) :: ([.fieldLink RX2 25 "LogSpooler$LogFile" "age" "I", .fieldLink RX2 31 "LogSpooler$LogFile" "firstCame" "I", .methodLink RX2 43 yX2_isEmpty, .instanceMethod yX2_isEmpty, .selects RX2 yX2_isEmpty yX2_isEmpty, .initialized RX2, .code yX2_isEmpty cX2_isEmpty 1 (some .boolean), .fieldLink RX2 18 "LogSpooler$LogFile" "end" "I", .fieldLink RX2 15 "LogSpooler$LogFile" "starts" "[I"] ++ wsX20)
def wsX2_turnOver : List Cond := .code yX2_turnOver cX2_turnOver 2 none :: ([.fieldLink RX2 15 "LogSpooler$LogFile" "starts" "[I", .fieldLink RX2 18 "LogSpooler$LogFile" "end" "I", .fieldLink RX2 34 "LogSpooler$LogFile" "sumOfLengths" "I", .fieldLink RX2 40 "LogSpooler$LogFile" "rotations" "I", .fieldLink RX2 37 "LogSpooler$LogFile" "olderOnes" "I", .fieldLink RX2 28 "LogSpooler$LogFile" "kept" "I"] ++ wsX20)
def wsX2_add : List Cond := .code yX2_add cX2_add 4 none :: ([.fieldLink RX2 34 "LogSpooler$LogFile" "sumOfLengths" "I", .fieldLink RX2 22 "LogSpooler$LogFile" "greatestSize" "I", .fieldLink RX2 31 "LogSpooler$LogFile" "firstCame" "I", .fieldLink RX2 18 "LogSpooler$LogFile" "end" "I", .fieldLink RX2 9 "LogSpooler$LogFile" "row" "[I", .methodLink RX2 43 yX2_isEmpty, .instanceMethod yX2_isEmpty, .selects RX2 yX2_isEmpty yX2_isEmpty, .initialized RX2, .code yX2_isEmpty cX2_isEmpty 1 (some .boolean), .fieldLink RX2 15 "LogSpooler$LogFile" "starts" "[I", .methodLink RX2 47 yX2_turnOver, .instanceMethod yX2_turnOver, .selects RX2 yX2_turnOver yX2_turnOver, .code yX2_turnOver cX2_turnOver 2 none, .fieldLink RX2 40 "LogSpooler$LogFile" "rotations" "I", .fieldLink RX2 37 "LogSpooler$LogFile" "olderOnes" "I", .fieldLink RX2 28 "LogSpooler$LogFile" "kept" "I"] ++ wsX20)
def wsX2_has : List Cond := .code yX2_has cX2_has 2 (some .boolean) :: ([.fieldLink RX2 37 "LogSpooler$LogFile" "olderOnes" "I"] ++ wsX20)
def wsX2_startOf : List Cond := .code yX2_startOf cX2_startOf 3 (some .int) :: ([.fieldLink RX2 15 "LogSpooler$LogFile" "starts" "[I", .fieldLink RX2 18 "LogSpooler$LogFile" "end" "I"] ++ wsX20)
def wsX2_linesOf : List Cond := .code yX2_linesOf cX2_linesOf 3 (some .int) :: ([.fieldLink RX2 18 "LogSpooler$LogFile" "end" "I", .methodLink RX2 50 yX2_startOf, .instanceMethod yX2_startOf, .selects RX2 yX2_startOf yX2_startOf, .initialized RX2, .code yX2_startOf cX2_startOf 3 (some .int), .fieldLink RX2 15 "LogSpooler$LogFile" "starts" "[I"] ++ wsX20)
def wsX2_lineAt : List Cond := .code yX2_lineAt cX2_lineAt 4 (some .int) :: ([.fieldLink RX2 9 "LogSpooler$LogFile" "row" "[I", .methodLink RX2 50 yX2_startOf, .instanceMethod yX2_startOf, .selects RX2 yX2_startOf yX2_startOf, .initialized RX2, .code yX2_startOf cX2_startOf 3 (some .int), .fieldLink RX2 15 "LogSpooler$LogFile" "starts" "[I", .fieldLink RX2 18 "LogSpooler$LogFile" "end" "I"] ++ wsX20)
def wsX3_init : List Cond := .code yX3_init cX3_init 1 none :: ([.methodLink RX3 3 objectInit, .instanceMethod objectInit, .code objectInit ⟨#[0xb1]⟩ 1 none, .fieldLink RX3 9 "LogSpooler$Rule" "isSet" "Z", .fieldLink RX3 15 "LogSpooler$Rule" "facilities" "I", .fieldLink RX3 19 "LogSpooler$Rule" "severity" "I", .fieldLink RX3 22 "LogSpooler$Rule" "sender" "I", .fieldLink RX3 25 "LogSpooler$Rule" "target" "I"] ++ wsX30)
def wsX3_put : List Cond := .code yX3_put cX3_put 5 none :: ([.fieldLink RX3 9 "LogSpooler$Rule" "isSet" "Z", .fieldLink RX3 15 "LogSpooler$Rule" "facilities" "I", .fieldLink RX3 19 "LogSpooler$Rule" "severity" "I", .fieldLink RX3 22 "LogSpooler$Rule" "sender" "I", .fieldLink RX3 25 "LogSpooler$Rule" "target" "I"] ++ wsX30)
def wsX3_fits : List Cond := .code yX3_fits cX3_fits 4 (some .boolean) :: ([.fieldLink RX3 9 "LogSpooler$Rule" "isSet" "Z", .fieldLink RX3 15 "LogSpooler$Rule" "facilities" "I", .fieldLink RX3 19 "LogSpooler$Rule" "severity" "I", .fieldLink RX3 22 "LogSpooler$Rule" "sender" "I"] ++ wsX30)
def wsX4_init : List Cond := .code yX4_init cX4_init 3 none :: ([.methodLink RX4 3 objectInit, .instanceMethod objectInit, .code objectInit ⟨#[0xb1]⟩ 1 none, .fieldLink RX4 9 "LogSpooler$Sender" "untoldRepeats" "I", .fieldLink RX4 15 "LogSpooler$Sender" "firstRepeat" "I", .fieldLink RX4 18 "LogSpooler$Sender" "untoldDrops" "I", .fieldLink RX4 21 "LogSpooler$Sender" "lastFacility" "I", .fieldLink RX4 24 "LogSpooler$Sender" "lastSeverity" "I", .fieldLink RX4 27 "LogSpooler$Sender" "lastText" "I", .fieldLink RX4 30 "LogSpooler$Sender" "lastLength" "I", .fieldLink RX4 33 "LogSpooler$Sender" "number" "I", .fieldLink RX4 36 "LogSpooler$Sender" "tokensLeft" "I"] ++ wsX40)
def wsX4_capTokens : List Cond := .code yX4_capTokens cX4_capTokens 2 none :: ([.fieldLink RX4 36 "LogSpooler$Sender" "tokensLeft" "I"] ++ wsX40)
def wsX4_gainToken : List Cond := .code yX4_gainToken cX4_gainToken 2 none :: ([.fieldLink RX4 36 "LogSpooler$Sender" "tokensLeft" "I"] ++ wsX40)
def wsX4_lastIs : List Cond := .code yX4_lastIs cX4_lastIs 5 (some .boolean) :: ([.fieldLink RX4 21 "LogSpooler$Sender" "lastFacility" "I", .fieldLink RX4 24 "LogSpooler$Sender" "lastSeverity" "I", .fieldLink RX4 27 "LogSpooler$Sender" "lastText" "I", .fieldLink RX4 30 "LogSpooler$Sender" "lastLength" "I"] ++ wsX40)
def wsX4_setLast : List Cond := .code yX4_setLast cX4_setLast 5 none :: ([.fieldLink RX4 21 "LogSpooler$Sender" "lastFacility" "I", .fieldLink RX4 24 "LogSpooler$Sender" "lastSeverity" "I", .fieldLink RX4 27 "LogSpooler$Sender" "lastText" "I", .fieldLink RX4 30 "LogSpooler$Sender" "lastLength" "I"] ++ wsX40)
def wsX4_countRepeat : List Cond := .code yX4_countRepeat cX4_countRepeat 2 none :: ([.fieldLink RX4 9 "LogSpooler$Sender" "untoldRepeats" "I", .fieldLink RX4 15 "LogSpooler$Sender" "firstRepeat" "I"] ++ wsX40)
def wsX5_init_r1 : List Cond := [Cond.methodLink RX5 3 objectInit, Cond.instanceMethod objectInit, Cond.code objectInit ⟨#[0xb1]⟩ 1 none, Cond.classLink RX5 9 RX4, Cond.fieldLink RX5 11 "LogSpooler" "senders" "[LLogSpooler$Sender;", Cond.classLink RX5 15 RX3, Cond.fieldLink RX5 17 "LogSpooler" "rules" "[LLogSpooler$Rule;", Cond.classLink RX5 21 RX2, Cond.fieldLink RX5 23 "LogSpooler" "files" "[LLogSpooler$LogFile;", Cond.classLink RX5 27 RX0, Cond.instantiable RX0 6, Cond.initialized RX0, Cond.fieldLink RX5 30 "LogSpooler" "forwarder" "LLogSpooler$Forwarder;", Cond.classLink RX5 34 RX1, Cond.instantiable RX1 3, Cond.initialized RX1, Cond.fieldLink RX5 37 "LogSpooler" "ledger" "LLogSpooler$Ledger;", Cond.fieldLink RX5 41 "LogSpooler" "now" "I", Cond.fieldLink RX5 45 "LogSpooler" "burst" "I", Cond.fieldLink RX5 48 "LogSpooler" "tokenTime" "I", Cond.fieldLink RX5 51 "LogSpooler" "foldTime" "I", Cond.instantiable RX4 9, Cond.initialized RX4, Cond.instantiable RX3 5]
def wsX5_init_r2 : List Cond := [Cond.initialized RX3, Cond.instantiable RX2 10, Cond.initialized RX2, Cond.instanceMethod yX0_init, Cond.code yX0_init cX0_init 1 none, Cond.methodLink RX0 3 objectInit, Cond.arrayClass .int, Cond.fieldLink RX0 9 "LogSpooler$Forwarder" "row" "[I", Cond.fieldLink RX0 15 "LogSpooler$Forwarder" "end" "I", Cond.fieldLink RX0 19 "LogSpooler$Forwarder" "firstQueued" "I", Cond.fieldLink RX0 22 "LogSpooler$Forwarder" "acknowledgedOnes" "I", Cond.fieldLink RX0 25 "LogSpooler$Forwarder" "lostOnes" "I", Cond.fieldLink RX0 28 "LogSpooler$Forwarder" "isConnected" "Z", Cond.instanceMethod yX1_init, Cond.code yX1_init cX1_init 1 none, Cond.methodLink RX1 3 objectInit, Cond.fieldLink RX1 9 "LogSpooler$Ledger" "fates" "[I", Cond.fieldLink RX1 15 "LogSpooler$Ledger" "targetSets" "[I", Cond.fieldLink RX1 18 "LogSpooler$Ledger" "entries" "I", Cond.methodLink RX5 54 yX4_init, Cond.instanceMethod yX4_init, Cond.code yX4_init cX4_init 3 none, Cond.methodLink RX4 3 objectInit, Cond.fieldLink RX4 9 "LogSpooler$Sender" "untoldRepeats" "I"]
def wsX5_init_r3 : List Cond := [Cond.fieldLink RX4 15 "LogSpooler$Sender" "firstRepeat" "I", Cond.fieldLink RX4 18 "LogSpooler$Sender" "untoldDrops" "I", Cond.fieldLink RX4 21 "LogSpooler$Sender" "lastFacility" "I", Cond.fieldLink RX4 24 "LogSpooler$Sender" "lastSeverity" "I", Cond.fieldLink RX4 27 "LogSpooler$Sender" "lastText" "I", Cond.fieldLink RX4 30 "LogSpooler$Sender" "lastLength" "I", Cond.fieldLink RX4 33 "LogSpooler$Sender" "number" "I", Cond.fieldLink RX4 36 "LogSpooler$Sender" "tokensLeft" "I", Cond.instanceMethod yX3_init, Cond.code yX3_init cX3_init 1 none, Cond.methodLink RX3 3 objectInit, Cond.fieldLink RX3 9 "LogSpooler$Rule" "isSet" "Z", Cond.fieldLink RX3 15 "LogSpooler$Rule" "facilities" "I", Cond.fieldLink RX3 19 "LogSpooler$Rule" "severity" "I", Cond.fieldLink RX3 22 "LogSpooler$Rule" "sender" "I", Cond.fieldLink RX3 25 "LogSpooler$Rule" "target" "I", Cond.instanceMethod yX2_init, Cond.code yX2_init cX2_init 1 none, Cond.methodLink RX2 3 objectInit, Cond.fieldLink RX2 9 "LogSpooler$LogFile" "row" "[I", Cond.fieldLink RX2 15 "LogSpooler$LogFile" "starts" "[I", Cond.fieldLink RX2 18 "LogSpooler$LogFile" "end" "I", Cond.fieldLink RX2 22 "LogSpooler$LogFile" "greatestSize" "I", Cond.fieldLink RX2 25 "LogSpooler$LogFile" "age" "I"]
def wsX5_init_r4 : List Cond := [Cond.fieldLink RX2 28 "LogSpooler$LogFile" "kept" "I", Cond.fieldLink RX2 31 "LogSpooler$LogFile" "firstCame" "I", Cond.fieldLink RX2 34 "LogSpooler$LogFile" "sumOfLengths" "I", Cond.fieldLink RX2 37 "LogSpooler$LogFile" "olderOnes" "I", Cond.fieldLink RX2 40 "LogSpooler$LogFile" "rotations" "I"]
def wsX5_init : List Cond := .code yX5_init cX5_init 2 none :: ((wsX5_init_r1 ++ (wsX5_init_r2 ++ (wsX5_init_r3 ++ wsX5_init_r4))) ++ wsX50 ++ wsX00 ++ wsX10 ++ wsX40 ++ wsX30 ++ wsX20)
def wsX5_isWithin : List Cond := .code yX5_isWithin cX5_isWithin 3 (some .boolean) :: ([])
def wsX5_setRate : List Cond := .code yX5_setRate cX5_setRate 5 (some .int) :: ([.classLink RX5 63 "java/lang/IllegalArgumentException", .initialized "java/lang/IllegalArgumentException", .fieldLink RX5 45 "LogSpooler" "burst" "I", .fieldLink RX5 48 "LogSpooler" "tokenTime" "I", .fieldLink RX5 11 "LogSpooler" "senders" "[LLogSpooler$Sender;", .methodLink RX5 59 yX5_isWithin, .static yX5_isWithin, .initialized RX5, .code yX5_isWithin cX5_isWithin 3 (some .boolean), .methodLink RX5 70 yX4_capTokens, .instanceMethod yX4_capTokens, .selects RX4 yX4_capTokens yX4_capTokens, .initialized RX4, .code yX4_capTokens cX4_capTokens 2 none, .fieldLink RX4 36 "LogSpooler$Sender" "tokensLeft" "I"] ++ wsX50 ++ wsX40 ++ (vx_atS RX5 67 "java/lang/IllegalArgumentException" ["java/lang/RuntimeException", "java/lang/Exception"]).filter goodWord)
def wsX5_setFold : List Cond := .code yX5_setFold cX5_setFold 3 (some .int) :: ([.classLink RX5 63 "java/lang/IllegalArgumentException", .initialized "java/lang/IllegalArgumentException", .fieldLink RX5 51 "LogSpooler" "foldTime" "I", .methodLink RX5 59 yX5_isWithin, .static yX5_isWithin, .initialized RX5, .code yX5_isWithin cX5_isWithin 3 (some .boolean)] ++ wsX50 ++ (vx_atS RX5 67 "java/lang/IllegalArgumentException" ["java/lang/RuntimeException", "java/lang/Exception"]).filter goodWord)
def wsX5_ruleAt : List Cond := .code yX5_ruleAt cX5_ruleAt 2 (some (.object "LogSpooler$Rule")) :: ([.classLink RX5 80 "java/lang/IndexOutOfBoundsException", .initialized "java/lang/IndexOutOfBoundsException", .fieldLink RX5 17 "LogSpooler" "rules" "[LLogSpooler$Rule;"] ++ wsX50 ++ (vx_atS RX5 84 "java/lang/IndexOutOfBoundsException" ["java/lang/RuntimeException", "java/lang/Exception"]).filter goodWord)
def wsX5_rulesThatAreSet : List Cond := .code yX5_rulesThatAreSet cX5_rulesThatAreSet 3 (some .int) :: ([.fieldLink RX5 17 "LogSpooler" "rules" "[LLogSpooler$Rule;", .fieldLink RX5 95 "LogSpooler$Rule" "isSet" "Z"] ++ wsX50 ++ wsX30)
def wsX5_setRule_r1 : List Cond := [Cond.classLink RX5 80 "java/lang/IndexOutOfBoundsException", Cond.initialized "java/lang/IndexOutOfBoundsException", Cond.classLink RX5 63 "java/lang/IllegalArgumentException", Cond.initialized "java/lang/IllegalArgumentException", Cond.methodLink RX5 76 yX5_ruleAt, Cond.instanceMethod yX5_ruleAt, Cond.selects RX5 yX5_ruleAt yX5_ruleAt, Cond.initialized RX5, Cond.code yX5_ruleAt cX5_ruleAt 2 (some (.object "LogSpooler$Rule")), Cond.fieldLink RX5 17 "LogSpooler" "rules" "[LLogSpooler$Rule;", Cond.methodLink RX5 59 yX5_isWithin, Cond.static yX5_isWithin, Cond.code yX5_isWithin cX5_isWithin 3 (some .boolean), Cond.methodLink RX5 87 yX3_put, Cond.instanceMethod yX3_put, Cond.selects RX3 yX3_put yX3_put, Cond.initialized RX3, Cond.code yX3_put cX3_put 5 none, Cond.fieldLink RX3 9 "LogSpooler$Rule" "isSet" "Z", Cond.fieldLink RX3 15 "LogSpooler$Rule" "facilities" "I", Cond.fieldLink RX3 19 "LogSpooler$Rule" "severity" "I", Cond.fieldLink RX3 22 "LogSpooler$Rule" "sender" "I", Cond.fieldLink RX3 25 "LogSpooler$Rule" "target" "I", Cond.methodLink RX5 91 yX5_rulesThatAreSet]
def wsX5_setRule_r2 : List Cond := [Cond.instanceMethod yX5_rulesThatAreSet, Cond.selects RX5 yX5_rulesThatAreSet yX5_rulesThatAreSet, Cond.code yX5_rulesThatAreSet cX5_rulesThatAreSet 3 (some .int), Cond.fieldLink RX5 95 "LogSpooler$Rule" "isSet" "Z"]
def wsX5_setRule : List Cond := .code yX5_setRule cX5_setRule 7 (some .int) :: ((wsX5_setRule_r1 ++ wsX5_setRule_r2) ++ wsX50 ++ wsX30 ++ (vx_atS RX5 84 "java/lang/IndexOutOfBoundsException" ["java/lang/RuntimeException", "java/lang/Exception"]).filter goodWord ++ (vx_atS RX5 67 "java/lang/IllegalArgumentException" ["java/lang/RuntimeException", "java/lang/Exception"]).filter goodWord)
def wsX5_removeRule : List Cond := .code yX5_removeRule cX5_removeRule 4 (some .boolean) :: ([.fieldLink RX5 95 "LogSpooler$Rule" "isSet" "Z", .methodLink RX5 76 yX5_ruleAt, .instanceMethod yX5_ruleAt, .selects RX5 yX5_ruleAt yX5_ruleAt, .initialized RX5, .code yX5_ruleAt cX5_ruleAt 2 (some (.object "LogSpooler$Rule")), .classLink RX5 80 "java/lang/IndexOutOfBoundsException", .initialized "java/lang/IndexOutOfBoundsException", .fieldLink RX5 17 "LogSpooler" "rules" "[LLogSpooler$Rule;"] ++ wsX30 ++ wsX50 ++ (vx_atS RX5 84 "java/lang/IndexOutOfBoundsException" ["java/lang/RuntimeException", "java/lang/Exception"]).filter goodWord)
def wsX5_fileAt : List Cond := .code yX5_fileAt cX5_fileAt 2 (some (.object "LogSpooler$LogFile")) :: ([.classLink RX5 80 "java/lang/IndexOutOfBoundsException", .initialized "java/lang/IndexOutOfBoundsException", .fieldLink RX5 23 "LogSpooler" "files" "[LLogSpooler$LogFile;"] ++ wsX50 ++ (vx_atS RX5 84 "java/lang/IndexOutOfBoundsException" ["java/lang/RuntimeException", "java/lang/Exception"]).filter goodWord)
def wsX5_setFile : List Cond := .code yX5_setFile cX5_setFile 6 (some .int) :: ([.classLink RX5 63 "java/lang/IllegalArgumentException", .initialized "java/lang/IllegalArgumentException", .fieldLink RX5 109 "LogSpooler$LogFile" "sumOfLengths" "I", .methodLink RX5 99 yX5_fileAt, .instanceMethod yX5_fileAt, .selects RX5 yX5_fileAt yX5_fileAt, .initialized RX5, .code yX5_fileAt cX5_fileAt 2 (some (.object "LogSpooler$LogFile")), .classLink RX5 80 "java/lang/IndexOutOfBoundsException", .initialized "java/lang/IndexOutOfBoundsException", .fieldLink RX5 23 "LogSpooler" "files" "[LLogSpooler$LogFile;", .methodLink RX5 59 yX5_isWithin, .static yX5_isWithin, .code yX5_isWithin cX5_isWithin 3 (some .boolean), .methodLink RX5 105 yX2_limit, .instanceMethod yX2_limit, .selects RX2 yX2_limit yX2_limit, .initialized RX2, .code yX2_limit cX2_limit 4 none, .fieldLink RX2 22 "LogSpooler$LogFile" "greatestSize" "I", .fieldLink RX2 25 "LogSpooler$LogFile" "age" "I", .fieldLink RX2 28 "LogSpooler$LogFile" "kept" "I", .fieldLink RX2 37 "LogSpooler$LogFile" "olderOnes" "I"] ++ wsX20 ++ wsX50 ++ (vx_atS RX5 67 "java/lang/IllegalArgumentException" ["java/lang/RuntimeException", "java/lang/Exception"]).filter goodWord ++ (vx_atS RX5 84 "java/lang/IndexOutOfBoundsException" ["java/lang/RuntimeException", "java/lang/Exception"]).filter goodWord)
def wsX5_senderAt : List Cond := .code yX5_senderAt cX5_senderAt 2 (some (.object "LogSpooler$Sender")) :: ([.classLink RX5 80 "java/lang/IndexOutOfBoundsException", .initialized "java/lang/IndexOutOfBoundsException", .fieldLink RX5 11 "LogSpooler" "senders" "[LLogSpooler$Sender;"] ++ wsX50 ++ (vx_atS RX5 84 "java/lang/IndexOutOfBoundsException" ["java/lang/RuntimeException", "java/lang/Exception"]).filter goodWord)
def wsX5_route_r1 : List Cond := [Cond.fieldLink RX5 17 "LogSpooler" "rules" "[LLogSpooler$Rule;", Cond.fieldLink RX5 261 "LogSpooler$Rule" "target" "I", Cond.fieldLink RX5 23 "LogSpooler" "files" "[LLogSpooler$LogFile;", Cond.fieldLink RX5 41 "LogSpooler" "now" "I", Cond.fieldLink RX5 30 "LogSpooler" "forwarder" "LLogSpooler$Forwarder;", Cond.methodLink RX5 264 yX3_fits, Cond.instanceMethod yX3_fits, Cond.selects RX3 yX3_fits yX3_fits, Cond.initialized RX3, Cond.code yX3_fits cX3_fits 4 (some .boolean), Cond.fieldLink RX3 9 "LogSpooler$Rule" "isSet" "Z", Cond.fieldLink RX3 15 "LogSpooler$Rule" "facilities" "I", Cond.fieldLink RX3 19 "LogSpooler$Rule" "severity" "I", Cond.fieldLink RX3 22 "LogSpooler$Rule" "sender" "I", Cond.methodLink RX5 267 yX2_add, Cond.instanceMethod yX2_add, Cond.selects RX2 yX2_add yX2_add, Cond.initialized RX2, Cond.code yX2_add cX2_add 4 none, Cond.fieldLink RX2 34 "LogSpooler$LogFile" "sumOfLengths" "I", Cond.fieldLink RX2 22 "LogSpooler$LogFile" "greatestSize" "I", Cond.fieldLink RX2 31 "LogSpooler$LogFile" "firstCame" "I", Cond.fieldLink RX2 18 "LogSpooler$LogFile" "end" "I", Cond.fieldLink RX2 9 "LogSpooler$LogFile" "row" "[I"]
def wsX5_route_r2 : List Cond := [Cond.methodLink RX2 43 yX2_isEmpty, Cond.instanceMethod yX2_isEmpty, Cond.selects RX2 yX2_isEmpty yX2_isEmpty, Cond.code yX2_isEmpty cX2_isEmpty 1 (some .boolean), Cond.fieldLink RX2 15 "LogSpooler$LogFile" "starts" "[I", Cond.methodLink RX2 47 yX2_turnOver, Cond.instanceMethod yX2_turnOver, Cond.selects RX2 yX2_turnOver yX2_turnOver, Cond.code yX2_turnOver cX2_turnOver 2 none, Cond.fieldLink RX2 40 "LogSpooler$LogFile" "rotations" "I", Cond.fieldLink RX2 37 "LogSpooler$LogFile" "olderOnes" "I", Cond.fieldLink RX2 28 "LogSpooler$LogFile" "kept" "I", Cond.methodLink RX5 270 yX0_take, Cond.instanceMethod yX0_take, Cond.selects RX0 yX0_take yX0_take, Cond.initialized RX0, Cond.code yX0_take cX0_take 2 none, Cond.fieldLink RX0 15 "LogSpooler$Forwarder" "end" "I", Cond.fieldLink RX0 22 "LogSpooler$Forwarder" "acknowledgedOnes" "I", Cond.fieldLink RX0 9 "LogSpooler$Forwarder" "row" "[I", Cond.fieldLink RX0 25 "LogSpooler$Forwarder" "lostOnes" "I"]
def wsX5_route : List Cond := .code yX5_route cX5_route 10 (some .int) :: ((wsX5_route_r1 ++ wsX5_route_r2) ++ wsX50 ++ wsX30 ++ wsX20 ++ wsX00)
def wsX5_tellRepeats_r1 : List Cond := [Cond.fieldLink RX5 207 "LogSpooler$Sender" "untoldRepeats" "I", Cond.fieldLink RX5 251 "LogSpooler$Sender" "number" "I", Cond.fieldLink RX5 254 "LogSpooler$Sender" "lastFacility" "I", Cond.fieldLink RX5 257 "LogSpooler$Sender" "lastSeverity" "I", Cond.methodLink RX5 157 yX5_route, Cond.instanceMethod yX5_route, Cond.selects RX5 yX5_route yX5_route, Cond.initialized RX5, Cond.code yX5_route cX5_route 10 (some .int), Cond.fieldLink RX5 17 "LogSpooler" "rules" "[LLogSpooler$Rule;", Cond.fieldLink RX5 261 "LogSpooler$Rule" "target" "I", Cond.fieldLink RX5 23 "LogSpooler" "files" "[LLogSpooler$LogFile;", Cond.fieldLink RX5 41 "LogSpooler" "now" "I", Cond.fieldLink RX5 30 "LogSpooler" "forwarder" "LLogSpooler$Forwarder;", Cond.methodLink RX5 264 yX3_fits, Cond.instanceMethod yX3_fits, Cond.selects RX3 yX3_fits yX3_fits, Cond.initialized RX3, Cond.code yX3_fits cX3_fits 4 (some .boolean), Cond.fieldLink RX3 9 "LogSpooler$Rule" "isSet" "Z", Cond.fieldLink RX3 15 "LogSpooler$Rule" "facilities" "I", Cond.fieldLink RX3 19 "LogSpooler$Rule" "severity" "I", Cond.fieldLink RX3 22 "LogSpooler$Rule" "sender" "I", Cond.methodLink RX5 267 yX2_add]
def wsX5_tellRepeats_r2 : List Cond := [Cond.instanceMethod yX2_add, Cond.selects RX2 yX2_add yX2_add, Cond.initialized RX2, Cond.code yX2_add cX2_add 4 none, Cond.fieldLink RX2 34 "LogSpooler$LogFile" "sumOfLengths" "I", Cond.fieldLink RX2 22 "LogSpooler$LogFile" "greatestSize" "I", Cond.fieldLink RX2 31 "LogSpooler$LogFile" "firstCame" "I", Cond.fieldLink RX2 18 "LogSpooler$LogFile" "end" "I", Cond.fieldLink RX2 9 "LogSpooler$LogFile" "row" "[I", Cond.methodLink RX2 43 yX2_isEmpty, Cond.instanceMethod yX2_isEmpty, Cond.selects RX2 yX2_isEmpty yX2_isEmpty, Cond.code yX2_isEmpty cX2_isEmpty 1 (some .boolean), Cond.fieldLink RX2 15 "LogSpooler$LogFile" "starts" "[I", Cond.methodLink RX2 47 yX2_turnOver, Cond.instanceMethod yX2_turnOver, Cond.selects RX2 yX2_turnOver yX2_turnOver, Cond.code yX2_turnOver cX2_turnOver 2 none, Cond.fieldLink RX2 40 "LogSpooler$LogFile" "rotations" "I", Cond.fieldLink RX2 37 "LogSpooler$LogFile" "olderOnes" "I", Cond.fieldLink RX2 28 "LogSpooler$LogFile" "kept" "I", Cond.methodLink RX5 270 yX0_take, Cond.instanceMethod yX0_take, Cond.selects RX0 yX0_take yX0_take]
def wsX5_tellRepeats_r3 : List Cond := [Cond.initialized RX0, Cond.code yX0_take cX0_take 2 none, Cond.fieldLink RX0 15 "LogSpooler$Forwarder" "end" "I", Cond.fieldLink RX0 22 "LogSpooler$Forwarder" "acknowledgedOnes" "I", Cond.fieldLink RX0 9 "LogSpooler$Forwarder" "row" "[I", Cond.fieldLink RX0 25 "LogSpooler$Forwarder" "lostOnes" "I"]
def wsX5_tellRepeats : List Cond := .code yX5_tellRepeats cX5_tellRepeats 3 none :: ((wsX5_tellRepeats_r1 ++ (wsX5_tellRepeats_r2 ++ wsX5_tellRepeats_r3)) ++ wsX40 ++ wsX50 ++ wsX30 ++ wsX20 ++ wsX00)
def wsX5_tellDrops_r1 : List Cond := [Cond.fieldLink RX5 145 "LogSpooler$Sender" "untoldDrops" "I", Cond.constant RX5 260 (100000), Cond.fieldLink RX5 251 "LogSpooler$Sender" "number" "I", Cond.methodLink RX5 157 yX5_route, Cond.instanceMethod yX5_route, Cond.selects RX5 yX5_route yX5_route, Cond.initialized RX5, Cond.code yX5_route cX5_route 10 (some .int), Cond.fieldLink RX5 17 "LogSpooler" "rules" "[LLogSpooler$Rule;", Cond.fieldLink RX5 261 "LogSpooler$Rule" "target" "I", Cond.fieldLink RX5 23 "LogSpooler" "files" "[LLogSpooler$LogFile;", Cond.fieldLink RX5 41 "LogSpooler" "now" "I", Cond.fieldLink RX5 30 "LogSpooler" "forwarder" "LLogSpooler$Forwarder;", Cond.methodLink RX5 264 yX3_fits, Cond.instanceMethod yX3_fits, Cond.selects RX3 yX3_fits yX3_fits, Cond.initialized RX3, Cond.code yX3_fits cX3_fits 4 (some .boolean), Cond.fieldLink RX3 9 "LogSpooler$Rule" "isSet" "Z", Cond.fieldLink RX3 15 "LogSpooler$Rule" "facilities" "I", Cond.fieldLink RX3 19 "LogSpooler$Rule" "severity" "I", Cond.fieldLink RX3 22 "LogSpooler$Rule" "sender" "I", Cond.methodLink RX5 267 yX2_add, Cond.instanceMethod yX2_add]
def wsX5_tellDrops_r2 : List Cond := [Cond.selects RX2 yX2_add yX2_add, Cond.initialized RX2, Cond.code yX2_add cX2_add 4 none, Cond.fieldLink RX2 34 "LogSpooler$LogFile" "sumOfLengths" "I", Cond.fieldLink RX2 22 "LogSpooler$LogFile" "greatestSize" "I", Cond.fieldLink RX2 31 "LogSpooler$LogFile" "firstCame" "I", Cond.fieldLink RX2 18 "LogSpooler$LogFile" "end" "I", Cond.fieldLink RX2 9 "LogSpooler$LogFile" "row" "[I", Cond.methodLink RX2 43 yX2_isEmpty, Cond.instanceMethod yX2_isEmpty, Cond.selects RX2 yX2_isEmpty yX2_isEmpty, Cond.code yX2_isEmpty cX2_isEmpty 1 (some .boolean), Cond.fieldLink RX2 15 "LogSpooler$LogFile" "starts" "[I", Cond.methodLink RX2 47 yX2_turnOver, Cond.instanceMethod yX2_turnOver, Cond.selects RX2 yX2_turnOver yX2_turnOver, Cond.code yX2_turnOver cX2_turnOver 2 none, Cond.fieldLink RX2 40 "LogSpooler$LogFile" "rotations" "I", Cond.fieldLink RX2 37 "LogSpooler$LogFile" "olderOnes" "I", Cond.fieldLink RX2 28 "LogSpooler$LogFile" "kept" "I", Cond.methodLink RX5 270 yX0_take, Cond.instanceMethod yX0_take, Cond.selects RX0 yX0_take yX0_take, Cond.initialized RX0]
def wsX5_tellDrops_r3 : List Cond := [Cond.code yX0_take cX0_take 2 none, Cond.fieldLink RX0 15 "LogSpooler$Forwarder" "end" "I", Cond.fieldLink RX0 22 "LogSpooler$Forwarder" "acknowledgedOnes" "I", Cond.fieldLink RX0 9 "LogSpooler$Forwarder" "row" "[I", Cond.fieldLink RX0 25 "LogSpooler$Forwarder" "lostOnes" "I"]
def wsX5_tellDrops : List Cond := .code yX5_tellDrops cX5_tellDrops 3 none :: ((wsX5_tellDrops_r1 ++ (wsX5_tellDrops_r2 ++ wsX5_tellDrops_r3)) ++ wsX40 ++ wsX50 ++ wsX30 ++ wsX20 ++ wsX00)
def wsX5_message_r1 : List Cond := [Cond.classLink RX5 63 "java/lang/IllegalArgumentException", Cond.initialized "java/lang/IllegalArgumentException", Cond.classLink RX5 122 "java/lang/IllegalStateException", Cond.initialized "java/lang/IllegalStateException", Cond.fieldLink RX5 37 "LogSpooler" "ledger" "LLogSpooler$Ledger;", Cond.fieldLink RX5 51 "LogSpooler" "foldTime" "I", Cond.fieldLink RX5 41 "LogSpooler" "now" "I", Cond.fieldLink RX5 142 "LogSpooler$Sender" "tokensLeft" "I", Cond.fieldLink RX5 145 "LogSpooler$Sender" "untoldDrops" "I", Cond.fieldLink RX5 154 "LogSpooler$Ledger" "entries" "I", Cond.methodLink RX5 112 yX5_senderAt, Cond.instanceMethod yX5_senderAt, Cond.selects RX5 yX5_senderAt yX5_senderAt, Cond.initialized RX5, Cond.code yX5_senderAt cX5_senderAt 2 (some (.object "LogSpooler$Sender")), Cond.classLink RX5 80 "java/lang/IndexOutOfBoundsException", Cond.initialized "java/lang/IndexOutOfBoundsException", Cond.fieldLink RX5 11 "LogSpooler" "senders" "[LLogSpooler$Sender;", Cond.methodLink RX5 59 yX5_isWithin, Cond.static yX5_isWithin, Cond.code yX5_isWithin cX5_isWithin 3 (some .boolean), Cond.methodLink RX5 118 yX1_isFull, Cond.instanceMethod yX1_isFull, Cond.selects RX1 yX1_isFull yX1_isFull]
def wsX5_message_r2 : List Cond := [Cond.initialized RX1, Cond.code yX1_isFull cX1_isFull 1 (some .boolean), Cond.fieldLink RX1 18 "LogSpooler$Ledger" "entries" "I", Cond.methodLink RX5 127 yX4_lastIs, Cond.instanceMethod yX4_lastIs, Cond.selects RX4 yX4_lastIs yX4_lastIs, Cond.initialized RX4, Cond.code yX4_lastIs cX4_lastIs 5 (some .boolean), Cond.fieldLink RX4 21 "LogSpooler$Sender" "lastFacility" "I", Cond.fieldLink RX4 24 "LogSpooler$Sender" "lastSeverity" "I", Cond.fieldLink RX4 27 "LogSpooler$Sender" "lastText" "I", Cond.fieldLink RX4 30 "LogSpooler$Sender" "lastLength" "I", Cond.methodLink RX5 131 yX4_countRepeat, Cond.instanceMethod yX4_countRepeat, Cond.selects RX4 yX4_countRepeat yX4_countRepeat, Cond.code yX4_countRepeat cX4_countRepeat 2 none, Cond.fieldLink RX4 9 "LogSpooler$Sender" "untoldRepeats" "I", Cond.fieldLink RX4 15 "LogSpooler$Sender" "firstRepeat" "I", Cond.methodLink RX5 134 yX1_enter, Cond.instanceMethod yX1_enter, Cond.selects RX1 yX1_enter yX1_enter, Cond.code yX1_enter cX1_enter 3 (some .int), Cond.fieldLink RX1 9 "LogSpooler$Ledger" "fates" "[I", Cond.fieldLink RX1 15 "LogSpooler$Ledger" "targetSets" "[I"]
def wsX5_message_r3 : List Cond := [Cond.methodLink RX5 138 yX5_tellRepeats, Cond.instanceMethod yX5_tellRepeats, Cond.selects RX5 yX5_tellRepeats yX5_tellRepeats, Cond.code yX5_tellRepeats cX5_tellRepeats 3 none, Cond.fieldLink RX5 207 "LogSpooler$Sender" "untoldRepeats" "I", Cond.fieldLink RX5 251 "LogSpooler$Sender" "number" "I", Cond.fieldLink RX5 254 "LogSpooler$Sender" "lastFacility" "I", Cond.fieldLink RX5 257 "LogSpooler$Sender" "lastSeverity" "I", Cond.methodLink RX5 157 yX5_route, Cond.instanceMethod yX5_route, Cond.selects RX5 yX5_route yX5_route, Cond.code yX5_route cX5_route 10 (some .int), Cond.fieldLink RX5 17 "LogSpooler" "rules" "[LLogSpooler$Rule;", Cond.fieldLink RX5 261 "LogSpooler$Rule" "target" "I", Cond.fieldLink RX5 23 "LogSpooler" "files" "[LLogSpooler$LogFile;", Cond.fieldLink RX5 30 "LogSpooler" "forwarder" "LLogSpooler$Forwarder;", Cond.methodLink RX5 264 yX3_fits, Cond.instanceMethod yX3_fits, Cond.selects RX3 yX3_fits yX3_fits, Cond.initialized RX3, Cond.code yX3_fits cX3_fits 4 (some .boolean), Cond.fieldLink RX3 9 "LogSpooler$Rule" "isSet" "Z", Cond.fieldLink RX3 15 "LogSpooler$Rule" "facilities" "I", Cond.fieldLink RX3 19 "LogSpooler$Rule" "severity" "I"]
def wsX5_message_r4 : List Cond := [Cond.fieldLink RX3 22 "LogSpooler$Rule" "sender" "I", Cond.methodLink RX5 267 yX2_add, Cond.instanceMethod yX2_add, Cond.selects RX2 yX2_add yX2_add, Cond.initialized RX2, Cond.code yX2_add cX2_add 4 none, Cond.fieldLink RX2 34 "LogSpooler$LogFile" "sumOfLengths" "I", Cond.fieldLink RX2 22 "LogSpooler$LogFile" "greatestSize" "I", Cond.fieldLink RX2 31 "LogSpooler$LogFile" "firstCame" "I", Cond.fieldLink RX2 18 "LogSpooler$LogFile" "end" "I", Cond.fieldLink RX2 9 "LogSpooler$LogFile" "row" "[I", Cond.methodLink RX2 43 yX2_isEmpty, Cond.instanceMethod yX2_isEmpty, Cond.selects RX2 yX2_isEmpty yX2_isEmpty, Cond.code yX2_isEmpty cX2_isEmpty 1 (some .boolean), Cond.fieldLink RX2 15 "LogSpooler$LogFile" "starts" "[I", Cond.methodLink RX2 47 yX2_turnOver, Cond.instanceMethod yX2_turnOver, Cond.selects RX2 yX2_turnOver yX2_turnOver, Cond.code yX2_turnOver cX2_turnOver 2 none, Cond.fieldLink RX2 40 "LogSpooler$LogFile" "rotations" "I", Cond.fieldLink RX2 37 "LogSpooler$LogFile" "olderOnes" "I", Cond.fieldLink RX2 28 "LogSpooler$LogFile" "kept" "I", Cond.methodLink RX5 270 yX0_take]
def wsX5_message_r5 : List Cond := [Cond.instanceMethod yX0_take, Cond.selects RX0 yX0_take yX0_take, Cond.initialized RX0, Cond.code yX0_take cX0_take 2 none, Cond.fieldLink RX0 15 "LogSpooler$Forwarder" "end" "I", Cond.fieldLink RX0 22 "LogSpooler$Forwarder" "acknowledgedOnes" "I", Cond.fieldLink RX0 9 "LogSpooler$Forwarder" "row" "[I", Cond.fieldLink RX0 25 "LogSpooler$Forwarder" "lostOnes" "I", Cond.methodLink RX5 148 yX5_tellDrops, Cond.instanceMethod yX5_tellDrops, Cond.selects RX5 yX5_tellDrops yX5_tellDrops, Cond.code yX5_tellDrops cX5_tellDrops 3 none, Cond.constant RX5 260 (100000), Cond.methodLink RX5 151 yX4_setLast, Cond.instanceMethod yX4_setLast, Cond.selects RX4 yX4_setLast yX4_setLast, Cond.code yX4_setLast cX4_setLast 5 none]
def wsX5_message : List Cond := .code yX5_message cX5_message 8 (some .int) :: ((wsX5_message_r1 ++ (wsX5_message_r2 ++ (wsX5_message_r3 ++ (wsX5_message_r4 ++ wsX5_message_r5)))) ++ wsX50 ++ wsX40 ++ wsX10 ++ wsX30 ++ wsX20 ++ wsX00 ++ (vx_atS RX5 67 "java/lang/IllegalArgumentException" ["java/lang/RuntimeException", "java/lang/Exception"]).filter goodWord ++ (vx_atS RX5 126 "java/lang/IllegalStateException" ["java/lang/RuntimeException", "java/lang/Exception"]).filter goodWord ++ (vx_atS RX5 84 "java/lang/IndexOutOfBoundsException" ["java/lang/RuntimeException", "java/lang/Exception"]).filter goodWord)
def wsX5_rotationsOfAllFiles : List Cond := .code yX5_rotationsOfAllFiles cX5_rotationsOfAllFiles 3 (some .int) :: ([.fieldLink RX5 23 "LogSpooler" "files" "[LLogSpooler$LogFile;", .fieldLink RX5 295 "LogSpooler$LogFile" "rotations" "I"] ++ wsX50 ++ wsX20)
def wsX5_giveTokens : List Cond := .code yX5_giveTokens cX5_giveTokens 2 none :: ([.fieldLink RX5 11 "LogSpooler" "senders" "[LLogSpooler$Sender;", .fieldLink RX5 45 "LogSpooler" "burst" "I", .methodLink RX5 282 yX4_gainToken, .instanceMethod yX4_gainToken, .selects RX4 yX4_gainToken yX4_gainToken, .initialized RX4, .code yX4_gainToken cX4_gainToken 2 none, .fieldLink RX4 36 "LogSpooler$Sender" "tokensLeft" "I"] ++ wsX50 ++ wsX40)
def wsX5_firstWithDueRepeats : List Cond := .code yX5_firstWithDueRepeats cX5_firstWithDueRepeats 5 (some (.object "LogSpooler$Sender")) :: ([.fieldLink RX5 11 "LogSpooler" "senders" "[LLogSpooler$Sender;", .fieldLink RX5 207 "LogSpooler$Sender" "untoldRepeats" "I", .fieldLink RX5 41 "LogSpooler" "now" "I", .fieldLink RX5 289 "LogSpooler$Sender" "firstRepeat" "I", .fieldLink RX5 51 "LogSpooler" "foldTime" "I"] ++ wsX50 ++ wsX40)
def wsX5_tellDueRepeats_r1 : List Cond := [Cond.methodLink RX5 285 yX5_firstWithDueRepeats, Cond.instanceMethod yX5_firstWithDueRepeats, Cond.selects RX5 yX5_firstWithDueRepeats yX5_firstWithDueRepeats, Cond.initialized RX5, Cond.code yX5_firstWithDueRepeats cX5_firstWithDueRepeats 5 (some (.object "LogSpooler$Sender")), Cond.fieldLink RX5 11 "LogSpooler" "senders" "[LLogSpooler$Sender;", Cond.fieldLink RX5 207 "LogSpooler$Sender" "untoldRepeats" "I", Cond.fieldLink RX5 41 "LogSpooler" "now" "I", Cond.fieldLink RX5 289 "LogSpooler$Sender" "firstRepeat" "I", Cond.fieldLink RX5 51 "LogSpooler" "foldTime" "I", Cond.methodLink RX5 138 yX5_tellRepeats, Cond.instanceMethod yX5_tellRepeats, Cond.selects RX5 yX5_tellRepeats yX5_tellRepeats, Cond.code yX5_tellRepeats cX5_tellRepeats 3 none, Cond.fieldLink RX5 251 "LogSpooler$Sender" "number" "I", Cond.fieldLink RX5 254 "LogSpooler$Sender" "lastFacility" "I", Cond.fieldLink RX5 257 "LogSpooler$Sender" "lastSeverity" "I", Cond.methodLink RX5 157 yX5_route, Cond.instanceMethod yX5_route, Cond.selects RX5 yX5_route yX5_route, Cond.code yX5_route cX5_route 10 (some .int), Cond.fieldLink RX5 17 "LogSpooler" "rules" "[LLogSpooler$Rule;", Cond.fieldLink RX5 261 "LogSpooler$Rule" "target" "I", Cond.fieldLink RX5 23 "LogSpooler" "files" "[LLogSpooler$LogFile;"]
def wsX5_tellDueRepeats_r2 : List Cond := [Cond.fieldLink RX5 30 "LogSpooler" "forwarder" "LLogSpooler$Forwarder;", Cond.methodLink RX5 264 yX3_fits, Cond.instanceMethod yX3_fits, Cond.selects RX3 yX3_fits yX3_fits, Cond.initialized RX3, Cond.code yX3_fits cX3_fits 4 (some .boolean), Cond.fieldLink RX3 9 "LogSpooler$Rule" "isSet" "Z", Cond.fieldLink RX3 15 "LogSpooler$Rule" "facilities" "I", Cond.fieldLink RX3 19 "LogSpooler$Rule" "severity" "I", Cond.fieldLink RX3 22 "LogSpooler$Rule" "sender" "I", Cond.methodLink RX5 267 yX2_add, Cond.instanceMethod yX2_add, Cond.selects RX2 yX2_add yX2_add, Cond.initialized RX2, Cond.code yX2_add cX2_add 4 none, Cond.fieldLink RX2 34 "LogSpooler$LogFile" "sumOfLengths" "I", Cond.fieldLink RX2 22 "LogSpooler$LogFile" "greatestSize" "I", Cond.fieldLink RX2 31 "LogSpooler$LogFile" "firstCame" "I", Cond.fieldLink RX2 18 "LogSpooler$LogFile" "end" "I", Cond.fieldLink RX2 9 "LogSpooler$LogFile" "row" "[I", Cond.methodLink RX2 43 yX2_isEmpty, Cond.instanceMethod yX2_isEmpty, Cond.selects RX2 yX2_isEmpty yX2_isEmpty, Cond.code yX2_isEmpty cX2_isEmpty 1 (some .boolean)]
def wsX5_tellDueRepeats_r3 : List Cond := [Cond.fieldLink RX2 15 "LogSpooler$LogFile" "starts" "[I", Cond.methodLink RX2 47 yX2_turnOver, Cond.instanceMethod yX2_turnOver, Cond.selects RX2 yX2_turnOver yX2_turnOver, Cond.code yX2_turnOver cX2_turnOver 2 none, Cond.fieldLink RX2 40 "LogSpooler$LogFile" "rotations" "I", Cond.fieldLink RX2 37 "LogSpooler$LogFile" "olderOnes" "I", Cond.fieldLink RX2 28 "LogSpooler$LogFile" "kept" "I", Cond.methodLink RX5 270 yX0_take, Cond.instanceMethod yX0_take, Cond.selects RX0 yX0_take yX0_take, Cond.initialized RX0, Cond.code yX0_take cX0_take 2 none, Cond.fieldLink RX0 15 "LogSpooler$Forwarder" "end" "I", Cond.fieldLink RX0 22 "LogSpooler$Forwarder" "acknowledgedOnes" "I", Cond.fieldLink RX0 9 "LogSpooler$Forwarder" "row" "[I", Cond.fieldLink RX0 25 "LogSpooler$Forwarder" "lostOnes" "I"]
def wsX5_tellDueRepeats : List Cond := .code yX5_tellDueRepeats cX5_tellDueRepeats 3 none :: ((wsX5_tellDueRepeats_r1 ++ (wsX5_tellDueRepeats_r2 ++ wsX5_tellDueRepeats_r3)) ++ wsX50 ++ wsX40 ++ wsX30 ++ wsX20 ++ wsX00)
def wsX5_rotateAgedFiles : List Cond := .code yX5_rotateAgedFiles cX5_rotateAgedFiles 2 none :: ([.fieldLink RX5 23 "LogSpooler" "files" "[LLogSpooler$LogFile;", .fieldLink RX5 41 "LogSpooler" "now" "I", .methodLink RX5 292 yX2_isAged, .instanceMethod yX2_isAged, .selects RX2 yX2_isAged yX2_isAged, .initialized RX2, .code yX2_isAged cX2_isAged 2 (some .boolean), .fieldLink RX2 25 "LogSpooler$LogFile" "age" "I", .fieldLink RX2 31 "LogSpooler$LogFile" "firstCame" "I", .methodLink RX2 43 yX2_isEmpty, .instanceMethod yX2_isEmpty, .selects RX2 yX2_isEmpty yX2_isEmpty, .code yX2_isEmpty cX2_isEmpty 1 (some .boolean), .fieldLink RX2 18 "LogSpooler$LogFile" "end" "I", .fieldLink RX2 15 "LogSpooler$LogFile" "starts" "[I", .methodLink RX5 172 yX2_turnOver, .instanceMethod yX2_turnOver, .selects RX2 yX2_turnOver yX2_turnOver, .code yX2_turnOver cX2_turnOver 2 none, .fieldLink RX2 34 "LogSpooler$LogFile" "sumOfLengths" "I", .fieldLink RX2 40 "LogSpooler$LogFile" "rotations" "I", .fieldLink RX2 37 "LogSpooler$LogFile" "olderOnes" "I", .fieldLink RX2 28 "LogSpooler$LogFile" "kept" "I"] ++ wsX50 ++ wsX20)
def wsX5_passOneSecond_r1 : List Cond := [Cond.fieldLink RX5 41 "LogSpooler" "now" "I", Cond.fieldLink RX5 48 "LogSpooler" "tokenTime" "I", Cond.methodLink RX5 273 yX5_giveTokens, Cond.instanceMethod yX5_giveTokens, Cond.selects RX5 yX5_giveTokens yX5_giveTokens, Cond.initialized RX5, Cond.code yX5_giveTokens cX5_giveTokens 2 none, Cond.fieldLink RX5 11 "LogSpooler" "senders" "[LLogSpooler$Sender;", Cond.fieldLink RX5 45 "LogSpooler" "burst" "I", Cond.methodLink RX5 282 yX4_gainToken, Cond.instanceMethod yX4_gainToken, Cond.selects RX4 yX4_gainToken yX4_gainToken, Cond.initialized RX4, Cond.code yX4_gainToken cX4_gainToken 2 none, Cond.fieldLink RX4 36 "LogSpooler$Sender" "tokensLeft" "I", Cond.methodLink RX5 276 yX5_tellDueRepeats, Cond.instanceMethod yX5_tellDueRepeats, Cond.selects RX5 yX5_tellDueRepeats yX5_tellDueRepeats, Cond.code yX5_tellDueRepeats cX5_tellDueRepeats 3 none, Cond.methodLink RX5 285 yX5_firstWithDueRepeats, Cond.instanceMethod yX5_firstWithDueRepeats, Cond.selects RX5 yX5_firstWithDueRepeats yX5_firstWithDueRepeats, Cond.code yX5_firstWithDueRepeats cX5_firstWithDueRepeats 5 (some (.object "LogSpooler$Sender")), Cond.fieldLink RX5 207 "LogSpooler$Sender" "untoldRepeats" "I"]
def wsX5_passOneSecond_r2 : List Cond := [Cond.fieldLink RX5 289 "LogSpooler$Sender" "firstRepeat" "I", Cond.fieldLink RX5 51 "LogSpooler" "foldTime" "I", Cond.methodLink RX5 138 yX5_tellRepeats, Cond.instanceMethod yX5_tellRepeats, Cond.selects RX5 yX5_tellRepeats yX5_tellRepeats, Cond.code yX5_tellRepeats cX5_tellRepeats 3 none, Cond.fieldLink RX5 251 "LogSpooler$Sender" "number" "I", Cond.fieldLink RX5 254 "LogSpooler$Sender" "lastFacility" "I", Cond.fieldLink RX5 257 "LogSpooler$Sender" "lastSeverity" "I", Cond.methodLink RX5 157 yX5_route, Cond.instanceMethod yX5_route, Cond.selects RX5 yX5_route yX5_route, Cond.code yX5_route cX5_route 10 (some .int), Cond.fieldLink RX5 17 "LogSpooler" "rules" "[LLogSpooler$Rule;", Cond.fieldLink RX5 261 "LogSpooler$Rule" "target" "I", Cond.fieldLink RX5 23 "LogSpooler" "files" "[LLogSpooler$LogFile;", Cond.fieldLink RX5 30 "LogSpooler" "forwarder" "LLogSpooler$Forwarder;", Cond.methodLink RX5 264 yX3_fits, Cond.instanceMethod yX3_fits, Cond.selects RX3 yX3_fits yX3_fits, Cond.initialized RX3, Cond.code yX3_fits cX3_fits 4 (some .boolean), Cond.fieldLink RX3 9 "LogSpooler$Rule" "isSet" "Z", Cond.fieldLink RX3 15 "LogSpooler$Rule" "facilities" "I"]
def wsX5_passOneSecond_r3 : List Cond := [Cond.fieldLink RX3 19 "LogSpooler$Rule" "severity" "I", Cond.fieldLink RX3 22 "LogSpooler$Rule" "sender" "I", Cond.methodLink RX5 267 yX2_add, Cond.instanceMethod yX2_add, Cond.selects RX2 yX2_add yX2_add, Cond.initialized RX2, Cond.code yX2_add cX2_add 4 none, Cond.fieldLink RX2 34 "LogSpooler$LogFile" "sumOfLengths" "I", Cond.fieldLink RX2 22 "LogSpooler$LogFile" "greatestSize" "I", Cond.fieldLink RX2 31 "LogSpooler$LogFile" "firstCame" "I", Cond.fieldLink RX2 18 "LogSpooler$LogFile" "end" "I", Cond.fieldLink RX2 9 "LogSpooler$LogFile" "row" "[I", Cond.methodLink RX2 43 yX2_isEmpty, Cond.instanceMethod yX2_isEmpty, Cond.selects RX2 yX2_isEmpty yX2_isEmpty, Cond.code yX2_isEmpty cX2_isEmpty 1 (some .boolean), Cond.fieldLink RX2 15 "LogSpooler$LogFile" "starts" "[I", Cond.methodLink RX2 47 yX2_turnOver, Cond.instanceMethod yX2_turnOver, Cond.selects RX2 yX2_turnOver yX2_turnOver, Cond.code yX2_turnOver cX2_turnOver 2 none, Cond.fieldLink RX2 40 "LogSpooler$LogFile" "rotations" "I", Cond.fieldLink RX2 37 "LogSpooler$LogFile" "olderOnes" "I", Cond.fieldLink RX2 28 "LogSpooler$LogFile" "kept" "I"]
def wsX5_passOneSecond_r4 : List Cond := [Cond.methodLink RX5 270 yX0_take, Cond.instanceMethod yX0_take, Cond.selects RX0 yX0_take yX0_take, Cond.initialized RX0, Cond.code yX0_take cX0_take 2 none, Cond.fieldLink RX0 15 "LogSpooler$Forwarder" "end" "I", Cond.fieldLink RX0 22 "LogSpooler$Forwarder" "acknowledgedOnes" "I", Cond.fieldLink RX0 9 "LogSpooler$Forwarder" "row" "[I", Cond.fieldLink RX0 25 "LogSpooler$Forwarder" "lostOnes" "I", Cond.methodLink RX5 279 yX5_rotateAgedFiles, Cond.instanceMethod yX5_rotateAgedFiles, Cond.selects RX5 yX5_rotateAgedFiles yX5_rotateAgedFiles, Cond.code yX5_rotateAgedFiles cX5_rotateAgedFiles 2 none, Cond.methodLink RX5 292 yX2_isAged, Cond.instanceMethod yX2_isAged, Cond.selects RX2 yX2_isAged yX2_isAged, Cond.code yX2_isAged cX2_isAged 2 (some .boolean), Cond.fieldLink RX2 25 "LogSpooler$LogFile" "age" "I", Cond.methodLink RX5 172 yX2_turnOver]
def wsX5_passOneSecond : List Cond := .code yX5_passOneSecond cX5_passOneSecond 1 none :: ((wsX5_passOneSecond_r1 ++ (wsX5_passOneSecond_r2 ++ (wsX5_passOneSecond_r3 ++ wsX5_passOneSecond_r4))) ++ wsX50 ++ wsX40 ++ wsX30 ++ wsX20 ++ wsX00)
def wsX5_pass_r1 : List Cond := [Cond.classLink RX5 63 "java/lang/IllegalArgumentException", Cond.initialized "java/lang/IllegalArgumentException", Cond.methodLink RX5 59 yX5_isWithin, Cond.static yX5_isWithin, Cond.initialized RX5, Cond.code yX5_isWithin cX5_isWithin 3 (some .boolean), Cond.methodLink RX5 161 yX5_rotationsOfAllFiles, Cond.instanceMethod yX5_rotationsOfAllFiles, Cond.selects RX5 yX5_rotationsOfAllFiles yX5_rotationsOfAllFiles, Cond.code yX5_rotationsOfAllFiles cX5_rotationsOfAllFiles 3 (some .int), Cond.fieldLink RX5 23 "LogSpooler" "files" "[LLogSpooler$LogFile;", Cond.fieldLink RX5 295 "LogSpooler$LogFile" "rotations" "I", Cond.methodLink RX5 164 yX5_passOneSecond, Cond.instanceMethod yX5_passOneSecond, Cond.selects RX5 yX5_passOneSecond yX5_passOneSecond, Cond.code yX5_passOneSecond cX5_passOneSecond 1 none, Cond.fieldLink RX5 41 "LogSpooler" "now" "I", Cond.fieldLink RX5 48 "LogSpooler" "tokenTime" "I", Cond.methodLink RX5 273 yX5_giveTokens, Cond.instanceMethod yX5_giveTokens, Cond.selects RX5 yX5_giveTokens yX5_giveTokens, Cond.code yX5_giveTokens cX5_giveTokens 2 none, Cond.fieldLink RX5 11 "LogSpooler" "senders" "[LLogSpooler$Sender;", Cond.fieldLink RX5 45 "LogSpooler" "burst" "I"]
def wsX5_pass_r2 : List Cond := [Cond.methodLink RX5 282 yX4_gainToken, Cond.instanceMethod yX4_gainToken, Cond.selects RX4 yX4_gainToken yX4_gainToken, Cond.initialized RX4, Cond.code yX4_gainToken cX4_gainToken 2 none, Cond.fieldLink RX4 36 "LogSpooler$Sender" "tokensLeft" "I", Cond.methodLink RX5 276 yX5_tellDueRepeats, Cond.instanceMethod yX5_tellDueRepeats, Cond.selects RX5 yX5_tellDueRepeats yX5_tellDueRepeats, Cond.code yX5_tellDueRepeats cX5_tellDueRepeats 3 none, Cond.methodLink RX5 285 yX5_firstWithDueRepeats, Cond.instanceMethod yX5_firstWithDueRepeats, Cond.selects RX5 yX5_firstWithDueRepeats yX5_firstWithDueRepeats, Cond.code yX5_firstWithDueRepeats cX5_firstWithDueRepeats 5 (some (.object "LogSpooler$Sender")), Cond.fieldLink RX5 207 "LogSpooler$Sender" "untoldRepeats" "I", Cond.fieldLink RX5 289 "LogSpooler$Sender" "firstRepeat" "I", Cond.fieldLink RX5 51 "LogSpooler" "foldTime" "I", Cond.methodLink RX5 138 yX5_tellRepeats, Cond.instanceMethod yX5_tellRepeats, Cond.selects RX5 yX5_tellRepeats yX5_tellRepeats, Cond.code yX5_tellRepeats cX5_tellRepeats 3 none, Cond.fieldLink RX5 251 "LogSpooler$Sender" "number" "I", Cond.fieldLink RX5 254 "LogSpooler$Sender" "lastFacility" "I", Cond.fieldLink RX5 257 "LogSpooler$Sender" "lastSeverity" "I"]
def wsX5_pass_r3 : List Cond := [Cond.methodLink RX5 157 yX5_route, Cond.instanceMethod yX5_route, Cond.selects RX5 yX5_route yX5_route, Cond.code yX5_route cX5_route 10 (some .int), Cond.fieldLink RX5 17 "LogSpooler" "rules" "[LLogSpooler$Rule;", Cond.fieldLink RX5 261 "LogSpooler$Rule" "target" "I", Cond.fieldLink RX5 30 "LogSpooler" "forwarder" "LLogSpooler$Forwarder;", Cond.methodLink RX5 264 yX3_fits, Cond.instanceMethod yX3_fits, Cond.selects RX3 yX3_fits yX3_fits, Cond.initialized RX3, Cond.code yX3_fits cX3_fits 4 (some .boolean), Cond.fieldLink RX3 9 "LogSpooler$Rule" "isSet" "Z", Cond.fieldLink RX3 15 "LogSpooler$Rule" "facilities" "I", Cond.fieldLink RX3 19 "LogSpooler$Rule" "severity" "I", Cond.fieldLink RX3 22 "LogSpooler$Rule" "sender" "I", Cond.methodLink RX5 267 yX2_add, Cond.instanceMethod yX2_add, Cond.selects RX2 yX2_add yX2_add, Cond.initialized RX2, Cond.code yX2_add cX2_add 4 none, Cond.fieldLink RX2 34 "LogSpooler$LogFile" "sumOfLengths" "I", Cond.fieldLink RX2 22 "LogSpooler$LogFile" "greatestSize" "I", Cond.fieldLink RX2 31 "LogSpooler$LogFile" "firstCame" "I"]
def wsX5_pass_r4 : List Cond := [Cond.fieldLink RX2 18 "LogSpooler$LogFile" "end" "I", Cond.fieldLink RX2 9 "LogSpooler$LogFile" "row" "[I", Cond.methodLink RX2 43 yX2_isEmpty, Cond.instanceMethod yX2_isEmpty, Cond.selects RX2 yX2_isEmpty yX2_isEmpty, Cond.code yX2_isEmpty cX2_isEmpty 1 (some .boolean), Cond.fieldLink RX2 15 "LogSpooler$LogFile" "starts" "[I", Cond.methodLink RX2 47 yX2_turnOver, Cond.instanceMethod yX2_turnOver, Cond.selects RX2 yX2_turnOver yX2_turnOver, Cond.code yX2_turnOver cX2_turnOver 2 none, Cond.fieldLink RX2 40 "LogSpooler$LogFile" "rotations" "I", Cond.fieldLink RX2 37 "LogSpooler$LogFile" "olderOnes" "I", Cond.fieldLink RX2 28 "LogSpooler$LogFile" "kept" "I", Cond.methodLink RX5 270 yX0_take, Cond.instanceMethod yX0_take, Cond.selects RX0 yX0_take yX0_take, Cond.initialized RX0, Cond.code yX0_take cX0_take 2 none, Cond.fieldLink RX0 15 "LogSpooler$Forwarder" "end" "I", Cond.fieldLink RX0 22 "LogSpooler$Forwarder" "acknowledgedOnes" "I", Cond.fieldLink RX0 9 "LogSpooler$Forwarder" "row" "[I", Cond.fieldLink RX0 25 "LogSpooler$Forwarder" "lostOnes" "I", Cond.methodLink RX5 279 yX5_rotateAgedFiles]
def wsX5_pass_r5 : List Cond := [Cond.instanceMethod yX5_rotateAgedFiles, Cond.selects RX5 yX5_rotateAgedFiles yX5_rotateAgedFiles, Cond.code yX5_rotateAgedFiles cX5_rotateAgedFiles 2 none, Cond.methodLink RX5 292 yX2_isAged, Cond.instanceMethod yX2_isAged, Cond.selects RX2 yX2_isAged yX2_isAged, Cond.code yX2_isAged cX2_isAged 2 (some .boolean), Cond.fieldLink RX2 25 "LogSpooler$LogFile" "age" "I", Cond.methodLink RX5 172 yX2_turnOver]
def wsX5_pass : List Cond := .code yX5_pass cX5_pass 4 (some .int) :: ((wsX5_pass_r1 ++ (wsX5_pass_r2 ++ (wsX5_pass_r3 ++ (wsX5_pass_r4 ++ wsX5_pass_r5)))) ++ wsX50 ++ wsX20 ++ wsX40 ++ wsX30 ++ wsX00 ++ (vx_atS RX5 67 "java/lang/IllegalArgumentException" ["java/lang/RuntimeException", "java/lang/Exception"]).filter goodWord)
def wsX5_rotate_r1 : List Cond := [Cond.classLink RX5 122 "java/lang/IllegalStateException", Cond.initialized "java/lang/IllegalStateException", Cond.fieldLink RX5 175 "LogSpooler$LogFile" "olderOnes" "I", Cond.methodLink RX5 99 yX5_fileAt, Cond.instanceMethod yX5_fileAt, Cond.selects RX5 yX5_fileAt yX5_fileAt, Cond.initialized RX5, Cond.code yX5_fileAt cX5_fileAt 2 (some (.object "LogSpooler$LogFile")), Cond.classLink RX5 80 "java/lang/IndexOutOfBoundsException", Cond.initialized "java/lang/IndexOutOfBoundsException", Cond.fieldLink RX5 23 "LogSpooler" "files" "[LLogSpooler$LogFile;", Cond.methodLink RX5 167 yX2_isEmpty, Cond.instanceMethod yX2_isEmpty, Cond.selects RX2 yX2_isEmpty yX2_isEmpty, Cond.initialized RX2, Cond.code yX2_isEmpty cX2_isEmpty 1 (some .boolean), Cond.fieldLink RX2 18 "LogSpooler$LogFile" "end" "I", Cond.fieldLink RX2 15 "LogSpooler$LogFile" "starts" "[I", Cond.methodLink RX5 172 yX2_turnOver, Cond.instanceMethod yX2_turnOver, Cond.selects RX2 yX2_turnOver yX2_turnOver, Cond.code yX2_turnOver cX2_turnOver 2 none, Cond.fieldLink RX2 34 "LogSpooler$LogFile" "sumOfLengths" "I", Cond.fieldLink RX2 40 "LogSpooler$LogFile" "rotations" "I"]
def wsX5_rotate_r2 : List Cond := [Cond.fieldLink RX2 37 "LogSpooler$LogFile" "olderOnes" "I", Cond.fieldLink RX2 28 "LogSpooler$LogFile" "kept" "I"]
def wsX5_rotate : List Cond := .code yX5_rotate cX5_rotate 3 (some .int) :: ((wsX5_rotate_r1 ++ wsX5_rotate_r2) ++ wsX20 ++ wsX50 ++ (vx_atS RX5 126 "java/lang/IllegalStateException" ["java/lang/RuntimeException", "java/lang/Exception"]).filter goodWord ++ (vx_atS RX5 84 "java/lang/IndexOutOfBoundsException" ["java/lang/RuntimeException", "java/lang/Exception"]).filter goodWord)
def wsX5_connect : List Cond := .code yX5_connect cX5_connect 1 (some .int) :: ([.classLink RX5 122 "java/lang/IllegalStateException", .initialized "java/lang/IllegalStateException", .fieldLink RX5 30 "LogSpooler" "forwarder" "LLogSpooler$Forwarder;", .fieldLink RX5 178 "LogSpooler$Forwarder" "isConnected" "Z", .methodLink RX5 183 yX0_waiting, .instanceMethod yX0_waiting, .selects RX0 yX0_waiting yX0_waiting, .initialized RX0, .code yX0_waiting cX0_waiting 1 (some .int), .fieldLink RX0 15 "LogSpooler$Forwarder" "end" "I", .fieldLink RX0 19 "LogSpooler$Forwarder" "firstQueued" "I"] ++ wsX50 ++ wsX00 ++ (vx_atS RX5 126 "java/lang/IllegalStateException" ["java/lang/RuntimeException", "java/lang/Exception"]).filter goodWord)
def wsX5_disconnect : List Cond := .code yX5_disconnect cX5_disconnect 2 (some .int) :: ([.classLink RX5 122 "java/lang/IllegalStateException", .initialized "java/lang/IllegalStateException", .fieldLink RX5 30 "LogSpooler" "forwarder" "LLogSpooler$Forwarder;", .fieldLink RX5 178 "LogSpooler$Forwarder" "isConnected" "Z", .methodLink RX5 188 yX0_flying, .instanceMethod yX0_flying, .selects RX0 yX0_flying yX0_flying, .initialized RX0, .code yX0_flying cX0_flying 1 (some .int), .fieldLink RX0 19 "LogSpooler$Forwarder" "firstQueued" "I", .fieldLink RX0 22 "LogSpooler$Forwarder" "acknowledgedOnes" "I", .methodLink RX5 191 yX0_loseConnection, .instanceMethod yX0_loseConnection, .selects RX0 yX0_loseConnection yX0_loseConnection, .code yX0_loseConnection cX0_loseConnection 1 none, .fieldLink RX0 28 "LogSpooler$Forwarder" "isConnected" "Z"] ++ wsX50 ++ wsX00 ++ (vx_atS RX5 126 "java/lang/IllegalStateException" ["java/lang/RuntimeException", "java/lang/Exception"]).filter goodWord)
def wsX5_send_r1 : List Cond := [Cond.classLink RX5 122 "java/lang/IllegalStateException", Cond.initialized "java/lang/IllegalStateException", Cond.fieldLink RX5 30 "LogSpooler" "forwarder" "LLogSpooler$Forwarder;", Cond.methodLink RX5 194 yX0_canSend, Cond.instanceMethod yX0_canSend, Cond.selects RX0 yX0_canSend yX0_canSend, Cond.initialized RX0, Cond.code yX0_canSend cX0_canSend 1 (some .boolean), Cond.fieldLink RX0 28 "LogSpooler$Forwarder" "isConnected" "Z", Cond.methodLink RX0 32 yX0_waiting, Cond.instanceMethod yX0_waiting, Cond.selects RX0 yX0_waiting yX0_waiting, Cond.code yX0_waiting cX0_waiting 1 (some .int), Cond.fieldLink RX0 15 "LogSpooler$Forwarder" "end" "I", Cond.fieldLink RX0 19 "LogSpooler$Forwarder" "firstQueued" "I", Cond.methodLink RX0 36 yX0_flying, Cond.instanceMethod yX0_flying, Cond.selects RX0 yX0_flying yX0_flying, Cond.code yX0_flying cX0_flying 1 (some .int), Cond.fieldLink RX0 22 "LogSpooler$Forwarder" "acknowledgedOnes" "I", Cond.methodLink RX5 199 yX0_sendFirst, Cond.instanceMethod yX0_sendFirst, Cond.selects RX0 yX0_sendFirst yX0_sendFirst, Cond.code yX0_sendFirst cX0_sendFirst 2 (some .int)]
def wsX5_send_r2 : List Cond := [Cond.methodLink RX0 39 yX0_lineAt, Cond.instanceMethod yX0_lineAt, Cond.selects RX0 yX0_lineAt yX0_lineAt, Cond.code yX0_lineAt cX0_lineAt 2 (some .int), Cond.fieldLink RX0 9 "LogSpooler$Forwarder" "row" "[I"]
def wsX5_send : List Cond := .code yX5_send cX5_send 1 (some .int) :: ((wsX5_send_r1 ++ wsX5_send_r2) ++ wsX50 ++ wsX00 ++ (vx_atS RX5 126 "java/lang/IllegalStateException" ["java/lang/RuntimeException", "java/lang/Exception"]).filter goodWord)
def wsX5_acknowledge : List Cond := .code yX5_acknowledge cX5_acknowledge 1 (some .int) :: ([.classLink RX5 122 "java/lang/IllegalStateException", .initialized "java/lang/IllegalStateException", .fieldLink RX5 30 "LogSpooler" "forwarder" "LLogSpooler$Forwarder;", .methodLink RX5 188 yX0_flying, .instanceMethod yX0_flying, .selects RX0 yX0_flying yX0_flying, .initialized RX0, .code yX0_flying cX0_flying 1 (some .int), .fieldLink RX0 19 "LogSpooler$Forwarder" "firstQueued" "I", .fieldLink RX0 22 "LogSpooler$Forwarder" "acknowledgedOnes" "I", .methodLink RX5 204 yX0_acknowledgeFirst, .instanceMethod yX0_acknowledgeFirst, .selects RX0 yX0_acknowledgeFirst yX0_acknowledgeFirst, .code yX0_acknowledgeFirst cX0_acknowledgeFirst 2 (some .int), .methodLink RX0 39 yX0_lineAt, .instanceMethod yX0_lineAt, .selects RX0 yX0_lineAt yX0_lineAt, .code yX0_lineAt cX0_lineAt 2 (some .int), .fieldLink RX0 9 "LogSpooler$Forwarder" "row" "[I"] ++ wsX50 ++ wsX00 ++ (vx_atS RX5 126 "java/lang/IllegalStateException" ["java/lang/RuntimeException", "java/lang/Exception"]).filter goodWord)
def wsX5_time : List Cond := .code yX5_time cX5_time 1 (some .int) :: ([.fieldLink RX5 41 "LogSpooler" "now" "I"] ++ wsX50)
def wsX5_tokens : List Cond := .code yX5_tokens cX5_tokens 2 (some .int) :: ([.fieldLink RX5 142 "LogSpooler$Sender" "tokensLeft" "I", .methodLink RX5 112 yX5_senderAt, .instanceMethod yX5_senderAt, .selects RX5 yX5_senderAt yX5_senderAt, .initialized RX5, .code yX5_senderAt cX5_senderAt 2 (some (.object "LogSpooler$Sender")), .classLink RX5 80 "java/lang/IndexOutOfBoundsException", .initialized "java/lang/IndexOutOfBoundsException", .fieldLink RX5 11 "LogSpooler" "senders" "[LLogSpooler$Sender;"] ++ wsX40 ++ wsX50 ++ (vx_atS RX5 84 "java/lang/IndexOutOfBoundsException" ["java/lang/RuntimeException", "java/lang/Exception"]).filter goodWord)
def wsX5_repeats : List Cond := .code yX5_repeats cX5_repeats 2 (some .int) :: ([.fieldLink RX5 207 "LogSpooler$Sender" "untoldRepeats" "I", .methodLink RX5 112 yX5_senderAt, .instanceMethod yX5_senderAt, .selects RX5 yX5_senderAt yX5_senderAt, .initialized RX5, .code yX5_senderAt cX5_senderAt 2 (some (.object "LogSpooler$Sender")), .classLink RX5 80 "java/lang/IndexOutOfBoundsException", .initialized "java/lang/IndexOutOfBoundsException", .fieldLink RX5 11 "LogSpooler" "senders" "[LLogSpooler$Sender;"] ++ wsX40 ++ wsX50 ++ (vx_atS RX5 84 "java/lang/IndexOutOfBoundsException" ["java/lang/RuntimeException", "java/lang/Exception"]).filter goodWord)
def wsX5_drops : List Cond := .code yX5_drops cX5_drops 2 (some .int) :: ([.fieldLink RX5 145 "LogSpooler$Sender" "untoldDrops" "I", .methodLink RX5 112 yX5_senderAt, .instanceMethod yX5_senderAt, .selects RX5 yX5_senderAt yX5_senderAt, .initialized RX5, .code yX5_senderAt cX5_senderAt 2 (some (.object "LogSpooler$Sender")), .classLink RX5 80 "java/lang/IndexOutOfBoundsException", .initialized "java/lang/IndexOutOfBoundsException", .fieldLink RX5 11 "LogSpooler" "senders" "[LLogSpooler$Sender;"] ++ wsX40 ++ wsX50 ++ (vx_atS RX5 84 "java/lang/IndexOutOfBoundsException" ["java/lang/RuntimeException", "java/lang/Exception"]).filter goodWord)
def wsX5_size : List Cond := .code yX5_size cX5_size 2 (some .int) :: ([.fieldLink RX5 109 "LogSpooler$LogFile" "sumOfLengths" "I", .methodLink RX5 99 yX5_fileAt, .instanceMethod yX5_fileAt, .selects RX5 yX5_fileAt yX5_fileAt, .initialized RX5, .code yX5_fileAt cX5_fileAt 2 (some (.object "LogSpooler$LogFile")), .classLink RX5 80 "java/lang/IndexOutOfBoundsException", .initialized "java/lang/IndexOutOfBoundsException", .fieldLink RX5 23 "LogSpooler" "files" "[LLogSpooler$LogFile;"] ++ wsX20 ++ wsX50 ++ (vx_atS RX5 84 "java/lang/IndexOutOfBoundsException" ["java/lang/RuntimeException", "java/lang/Exception"]).filter goodWord)
def wsX5_lines : List Cond := .code yX5_lines cX5_lines 4 (some .int) :: ([.classLink RX5 80 "java/lang/IndexOutOfBoundsException", .initialized "java/lang/IndexOutOfBoundsException", .methodLink RX5 99 yX5_fileAt, .instanceMethod yX5_fileAt, .selects RX5 yX5_fileAt yX5_fileAt, .initialized RX5, .code yX5_fileAt cX5_fileAt 2 (some (.object "LogSpooler$LogFile")), .fieldLink RX5 23 "LogSpooler" "files" "[LLogSpooler$LogFile;", .methodLink RX5 210 yX2_has, .instanceMethod yX2_has, .selects RX2 yX2_has yX2_has, .initialized RX2, .code yX2_has cX2_has 2 (some .boolean), .fieldLink RX2 37 "LogSpooler$LogFile" "olderOnes" "I", .methodLink RX5 216 yX2_linesOf, .instanceMethod yX2_linesOf, .selects RX2 yX2_linesOf yX2_linesOf, .code yX2_linesOf cX2_linesOf 3 (some .int), .fieldLink RX2 18 "LogSpooler$LogFile" "end" "I", .methodLink RX2 50 yX2_startOf, .instanceMethod yX2_startOf, .selects RX2 yX2_startOf yX2_startOf, .code yX2_startOf cX2_startOf 3 (some .int), .fieldLink RX2 15 "LogSpooler$LogFile" "starts" "[I"] ++ wsX50 ++ wsX20 ++ (vx_atS RX5 84 "java/lang/IndexOutOfBoundsException" ["java/lang/RuntimeException", "java/lang/Exception"]).filter goodWord)
def wsX5_line_r1 : List Cond := [Cond.classLink RX5 80 "java/lang/IndexOutOfBoundsException", Cond.initialized "java/lang/IndexOutOfBoundsException", Cond.methodLink RX5 99 yX5_fileAt, Cond.instanceMethod yX5_fileAt, Cond.selects RX5 yX5_fileAt yX5_fileAt, Cond.initialized RX5, Cond.code yX5_fileAt cX5_fileAt 2 (some (.object "LogSpooler$LogFile")), Cond.fieldLink RX5 23 "LogSpooler" "files" "[LLogSpooler$LogFile;", Cond.methodLink RX5 210 yX2_has, Cond.instanceMethod yX2_has, Cond.selects RX2 yX2_has yX2_has, Cond.initialized RX2, Cond.code yX2_has cX2_has 2 (some .boolean), Cond.fieldLink RX2 37 "LogSpooler$LogFile" "olderOnes" "I", Cond.methodLink RX5 216 yX2_linesOf, Cond.instanceMethod yX2_linesOf, Cond.selects RX2 yX2_linesOf yX2_linesOf, Cond.code yX2_linesOf cX2_linesOf 3 (some .int), Cond.fieldLink RX2 18 "LogSpooler$LogFile" "end" "I", Cond.methodLink RX2 50 yX2_startOf, Cond.instanceMethod yX2_startOf, Cond.selects RX2 yX2_startOf yX2_startOf, Cond.code yX2_startOf cX2_startOf 3 (some .int), Cond.fieldLink RX2 15 "LogSpooler$LogFile" "starts" "[I"]
def wsX5_line_r2 : List Cond := [Cond.methodLink RX5 59 yX5_isWithin, Cond.static yX5_isWithin, Cond.code yX5_isWithin cX5_isWithin 3 (some .boolean), Cond.methodLink RX5 222 yX2_lineAt, Cond.instanceMethod yX2_lineAt, Cond.selects RX2 yX2_lineAt yX2_lineAt, Cond.code yX2_lineAt cX2_lineAt 4 (some .int), Cond.fieldLink RX2 9 "LogSpooler$LogFile" "row" "[I"]
def wsX5_line : List Cond := .code yX5_line cX5_line 5 (some .int) :: ((wsX5_line_r1 ++ wsX5_line_r2) ++ wsX50 ++ wsX20 ++ (vx_atS RX5 84 "java/lang/IndexOutOfBoundsException" ["java/lang/RuntimeException", "java/lang/Exception"]).filter goodWord)
def wsX5_generations : List Cond := .code yX5_generations cX5_generations 2 (some .int) :: ([.fieldLink RX5 175 "LogSpooler$LogFile" "olderOnes" "I", .methodLink RX5 99 yX5_fileAt, .instanceMethod yX5_fileAt, .selects RX5 yX5_fileAt yX5_fileAt, .initialized RX5, .code yX5_fileAt cX5_fileAt 2 (some (.object "LogSpooler$LogFile")), .classLink RX5 80 "java/lang/IndexOutOfBoundsException", .initialized "java/lang/IndexOutOfBoundsException", .fieldLink RX5 23 "LogSpooler" "files" "[LLogSpooler$LogFile;"] ++ wsX20 ++ wsX50 ++ (vx_atS RX5 84 "java/lang/IndexOutOfBoundsException" ["java/lang/RuntimeException", "java/lang/Exception"]).filter goodWord)
def wsX5_queued : List Cond := .code yX5_queued cX5_queued 1 (some .int) :: ([.fieldLink RX5 30 "LogSpooler" "forwarder" "LLogSpooler$Forwarder;", .methodLink RX5 183 yX0_waiting, .instanceMethod yX0_waiting, .selects RX0 yX0_waiting yX0_waiting, .initialized RX0, .code yX0_waiting cX0_waiting 1 (some .int), .fieldLink RX0 15 "LogSpooler$Forwarder" "end" "I", .fieldLink RX0 19 "LogSpooler$Forwarder" "firstQueued" "I"] ++ wsX50 ++ wsX00)
def wsX5_inFlight : List Cond := .code yX5_inFlight cX5_inFlight 1 (some .int) :: ([.fieldLink RX5 30 "LogSpooler" "forwarder" "LLogSpooler$Forwarder;", .methodLink RX5 188 yX0_flying, .instanceMethod yX0_flying, .selects RX0 yX0_flying yX0_flying, .initialized RX0, .code yX0_flying cX0_flying 1 (some .int), .fieldLink RX0 19 "LogSpooler$Forwarder" "firstQueued" "I", .fieldLink RX0 22 "LogSpooler$Forwarder" "acknowledgedOnes" "I"] ++ wsX50 ++ wsX00)
def wsX5_acknowledged : List Cond := .code yX5_acknowledged cX5_acknowledged 1 (some .int) :: ([.fieldLink RX5 30 "LogSpooler" "forwarder" "LLogSpooler$Forwarder;", .fieldLink RX5 225 "LogSpooler$Forwarder" "acknowledgedOnes" "I"] ++ wsX50 ++ wsX00)
def wsX5_lost : List Cond := .code yX5_lost cX5_lost 1 (some .int) :: ([.fieldLink RX5 30 "LogSpooler" "forwarder" "LLogSpooler$Forwarder;", .fieldLink RX5 228 "LogSpooler$Forwarder" "lostOnes" "I"] ++ wsX50 ++ wsX00)
def wsX5_messages : List Cond := .code yX5_messages cX5_messages 1 (some .int) :: ([.fieldLink RX5 37 "LogSpooler" "ledger" "LLogSpooler$Ledger;", .fieldLink RX5 154 "LogSpooler$Ledger" "entries" "I"] ++ wsX50 ++ wsX10)
def wsX5_fateOf : List Cond := .code yX5_fateOf cX5_fateOf 2 (some .int) :: ([.classLink RX5 80 "java/lang/IndexOutOfBoundsException", .initialized "java/lang/IndexOutOfBoundsException", .fieldLink RX5 37 "LogSpooler" "ledger" "LLogSpooler$Ledger;", .methodLink RX5 231 yX1_has, .instanceMethod yX1_has, .selects RX1 yX1_has yX1_has, .initialized RX1, .code yX1_has cX1_has 2 (some .boolean), .fieldLink RX1 18 "LogSpooler$Ledger" "entries" "I", .methodLink RX5 234 yX1_fateAt, .instanceMethod yX1_fateAt, .selects RX1 yX1_fateAt yX1_fateAt, .code yX1_fateAt cX1_fateAt 2 (some .int), .fieldLink RX1 9 "LogSpooler$Ledger" "fates" "[I"] ++ wsX50 ++ wsX10 ++ (vx_atS RX5 84 "java/lang/IndexOutOfBoundsException" ["java/lang/RuntimeException", "java/lang/Exception"]).filter goodWord)
def wsX5_count : List Cond := .code yX5_count cX5_count 2 (some .int) :: ([.classLink RX5 80 "java/lang/IndexOutOfBoundsException", .initialized "java/lang/IndexOutOfBoundsException", .fieldLink RX5 37 "LogSpooler" "ledger" "LLogSpooler$Ledger;", .methodLink RX5 59 yX5_isWithin, .static yX5_isWithin, .initialized RX5, .code yX5_isWithin cX5_isWithin 3 (some .boolean), .methodLink RX5 239 yX1_entriesWith, .instanceMethod yX1_entriesWith, .selects RX1 yX1_entriesWith yX1_entriesWith, .initialized RX1, .code yX1_entriesWith cX1_entriesWith 4 (some .int), .fieldLink RX1 18 "LogSpooler$Ledger" "entries" "I", .fieldLink RX1 9 "LogSpooler$Ledger" "fates" "[I"] ++ wsX50 ++ wsX10 ++ (vx_atS RX5 84 "java/lang/IndexOutOfBoundsException" ["java/lang/RuntimeException", "java/lang/Exception"]).filter goodWord)
def wsX5_targetsOf : List Cond := .code yX5_targetsOf cX5_targetsOf 2 (some .int) :: ([.classLink RX5 80 "java/lang/IndexOutOfBoundsException", .initialized "java/lang/IndexOutOfBoundsException", .fieldLink RX5 37 "LogSpooler" "ledger" "LLogSpooler$Ledger;", .methodLink RX5 231 yX1_has, .instanceMethod yX1_has, .selects RX1 yX1_has yX1_has, .initialized RX1, .code yX1_has cX1_has 2 (some .boolean), .fieldLink RX1 18 "LogSpooler$Ledger" "entries" "I", .methodLink RX5 242 yX1_targetsAt, .instanceMethod yX1_targetsAt, .selects RX1 yX1_targetsAt yX1_targetsAt, .code yX1_targetsAt cX1_targetsAt 2 (some .int), .fieldLink RX1 15 "LogSpooler$Ledger" "targetSets" "[I"] ++ wsX50 ++ wsX10 ++ (vx_atS RX5 84 "java/lang/IndexOutOfBoundsException" ["java/lang/RuntimeException", "java/lang/Exception"]).filter goodWord)
def wsX6_init_r1 : List Cond := [Cond.methodLink RX6 1 objectInit, Cond.instanceMethod objectInit, Cond.code objectInit ⟨#[0xb1]⟩ 1 none, Cond.fieldLink RX6 7 "LogSpoolerModel" "burst" "I", Cond.fieldLink RX6 13 "LogSpoolerModel" "tokenTime" "I", Cond.fieldLink RX6 16 "LogSpoolerModel" "fold" "I", Cond.arrayClass .int, Cond.fieldLink RX6 19 "LogSpoolerModel" "tokens" "[I", Cond.fieldLink RX6 23 "LogSpoolerModel" "repeats" "[I", Cond.fieldLink RX6 26 "LogSpoolerModel" "firstRepeats" "[I", Cond.fieldLink RX6 29 "LogSpoolerModel" "drops" "[I", Cond.fieldLink RX6 32 "LogSpoolerModel" "lasts" "[I", Cond.arrayClass .boolean, Cond.fieldLink RX6 35 "LogSpoolerModel" "isSet" "[Z", Cond.fieldLink RX6 39 "LogSpoolerModel" "facilities" "[I", Cond.fieldLink RX6 42 "LogSpoolerModel" "severities" "[I", Cond.fieldLink RX6 45 "LogSpoolerModel" "senders" "[I", Cond.fieldLink RX6 48 "LogSpoolerModel" "targets" "[I", Cond.fieldLink RX6 51 "LogSpoolerModel" "most" "[I", Cond.fieldLink RX6 54 "LogSpoolerModel" "ages" "[I", Cond.fieldLink RX6 57 "LogSpoolerModel" "kept" "[I", Cond.fieldLink RX6 60 "LogSpoolerModel" "sizes" "[I", Cond.fieldLink RX6 63 "LogSpoolerModel" "ends" "[I", Cond.fieldLink RX6 66 "LogSpoolerModel" "generations" "[I"]
def wsX6_init_r2 : List Cond := [Cond.fieldLink RX6 69 "LogSpoolerModel" "starts" "[I", Cond.fieldLink RX6 72 "LogSpoolerModel" "lines" "[I", Cond.fieldLink RX6 75 "LogSpoolerModel" "times" "[I", Cond.fieldLink RX6 78 "LogSpoolerModel" "forwarded" "[I", Cond.fieldLink RX6 81 "LogSpoolerModel" "fates" "[I", Cond.fieldLink RX6 84 "LogSpoolerModel" "wentTo" "[I"]
def wsX6_init : List Cond := .code yX6_init cX6_init 2 none :: ((wsX6_init_r1 ++ wsX6_init_r2) ++ wsX60)
def wsX6_thrown : List Cond := .code yX6_thrown cX6_thrown 1 (some .int) :: ([.fieldLink RX6 87 "LogSpoolerModel" "thrown" "I"] ++ wsX60)
def wsX6_holds : List Cond := .code yX6_holds cX6_holds 2 (some .boolean) :: ([.fieldLink RX6 87 "LogSpoolerModel" "thrown" "I"] ++ wsX60)
def wsX6_isIn : List Cond := .code yX6_isIn cX6_isIn 3 (some .boolean) :: ([])
def wsX6_setRate : List Cond := .code yX6_setRate cX6_setRate 5 (some .int) :: ([.fieldLink RX6 7 "LogSpoolerModel" "burst" "I", .fieldLink RX6 13 "LogSpoolerModel" "tokenTime" "I", .fieldLink RX6 19 "LogSpoolerModel" "tokens" "[I", .methodLink RX6 90 yX6_isIn, .static yX6_isIn, .initialized RX6, .code yX6_isIn cX6_isIn 3 (some .boolean), .methodLink RX6 94 yX6_holds, .instanceMethod yX6_holds, .selects RX6 yX6_holds yX6_holds, .code yX6_holds cX6_holds 2 (some .boolean), .fieldLink RX6 87 "LogSpoolerModel" "thrown" "I"] ++ wsX60)
def wsX6_setFold : List Cond := .code yX6_setFold cX6_setFold 3 (some .int) :: ([.fieldLink RX6 16 "LogSpoolerModel" "fold" "I", .methodLink RX6 90 yX6_isIn, .static yX6_isIn, .initialized RX6, .code yX6_isIn cX6_isIn 3 (some .boolean), .methodLink RX6 94 yX6_holds, .instanceMethod yX6_holds, .selects RX6 yX6_holds yX6_holds, .code yX6_holds cX6_holds 2 (some .boolean), .fieldLink RX6 87 "LogSpoolerModel" "thrown" "I"] ++ wsX60)
def wsX6_setRule : List Cond := .code yX6_setRule cX6_setRule 10 (some .int) :: ([.fieldLink RX6 35 "LogSpoolerModel" "isSet" "[Z", .fieldLink RX6 39 "LogSpoolerModel" "facilities" "[I", .fieldLink RX6 42 "LogSpoolerModel" "severities" "[I", .fieldLink RX6 45 "LogSpoolerModel" "senders" "[I", .fieldLink RX6 48 "LogSpoolerModel" "targets" "[I", .methodLink RX6 90 yX6_isIn, .static yX6_isIn, .initialized RX6, .code yX6_isIn cX6_isIn 3 (some .boolean), .methodLink RX6 94 yX6_holds, .instanceMethod yX6_holds, .selects RX6 yX6_holds yX6_holds, .code yX6_holds cX6_holds 2 (some .boolean), .fieldLink RX6 87 "LogSpoolerModel" "thrown" "I"] ++ wsX60)
def wsX6_removeRule : List Cond := .code yX6_removeRule cX6_removeRule 3 (some .boolean) :: ([.fieldLink RX6 35 "LogSpoolerModel" "isSet" "[Z", .methodLink RX6 90 yX6_isIn, .static yX6_isIn, .initialized RX6, .code yX6_isIn cX6_isIn 3 (some .boolean), .methodLink RX6 94 yX6_holds, .instanceMethod yX6_holds, .selects RX6 yX6_holds yX6_holds, .code yX6_holds cX6_holds 2 (some .boolean), .fieldLink RX6 87 "LogSpoolerModel" "thrown" "I"] ++ wsX60)
def wsX6_isFile : List Cond := .code yX6_isFile cX6_isFile 1 (some .boolean) :: ([.methodLink RX6 90 yX6_isIn, .static yX6_isIn, .initialized RX6, .code yX6_isIn cX6_isIn 3 (some .boolean)])
def wsX6_setFile : List Cond := .code yX6_setFile cX6_setFile 6 (some .int) :: ([.fieldLink RX6 51 "LogSpoolerModel" "most" "[I", .fieldLink RX6 54 "LogSpoolerModel" "ages" "[I", .fieldLink RX6 57 "LogSpoolerModel" "kept" "[I", .fieldLink RX6 66 "LogSpoolerModel" "generations" "[I", .fieldLink RX6 60 "LogSpoolerModel" "sizes" "[I", .methodLink RX6 90 yX6_isIn, .static yX6_isIn, .initialized RX6, .code yX6_isIn cX6_isIn 3 (some .boolean), .methodLink RX6 98 yX6_isFile, .static yX6_isFile, .code yX6_isFile cX6_isFile 1 (some .boolean), .methodLink RX6 94 yX6_holds, .instanceMethod yX6_holds, .selects RX6 yX6_holds yX6_holds, .code yX6_holds cX6_holds 2 (some .boolean), .fieldLink RX6 87 "LogSpoolerModel" "thrown" "I"] ++ wsX60)
def wsX6_linesOf : List Cond := .code yX6_linesOf cX6_linesOf 2 (some .int) :: ([.fieldLink RX6 63 "LogSpoolerModel" "ends" "[I", .fieldLink RX6 69 "LogSpoolerModel" "starts" "[I"] ++ wsX60)
def wsX6_rotates : List Cond := .code yX6_rotates cX6_rotates 4 none :: ([.fieldLink RX6 69 "LogSpoolerModel" "starts" "[I", .fieldLink RX6 63 "LogSpoolerModel" "ends" "[I", .fieldLink RX6 66 "LogSpoolerModel" "generations" "[I", .fieldLink RX6 57 "LogSpoolerModel" "kept" "[I", .fieldLink RX6 60 "LogSpoolerModel" "sizes" "[I", .fieldLink RX6 101 "LogSpoolerModel" "rotations" "I"] ++ wsX60)
def wsX6_comesTo : List Cond := .code yX6_comesTo cX6_comesTo 4 none :: ([.fieldLink RX6 60 "LogSpoolerModel" "sizes" "[I", .fieldLink RX6 51 "LogSpoolerModel" "most" "[I", .fieldLink RX6 72 "LogSpoolerModel" "lines" "[I", .fieldLink RX6 63 "LogSpoolerModel" "ends" "[I", .fieldLink RX6 75 "LogSpoolerModel" "times" "[I", .fieldLink RX6 112 "LogSpoolerModel" "time" "I", .methodLink RX6 104 yX6_linesOf, .instanceMethod yX6_linesOf, .selects RX6 yX6_linesOf yX6_linesOf, .initialized RX6, .code yX6_linesOf cX6_linesOf 2 (some .int), .fieldLink RX6 69 "LogSpoolerModel" "starts" "[I", .methodLink RX6 108 yX6_rotates, .instanceMethod yX6_rotates, .selects RX6 yX6_rotates yX6_rotates, .code yX6_rotates cX6_rotates 4 none, .fieldLink RX6 66 "LogSpoolerModel" "generations" "[I", .fieldLink RX6 57 "LogSpoolerModel" "kept" "[I", .fieldLink RX6 101 "LogSpoolerModel" "rotations" "I"] ++ wsX60)
def wsX6_forwards : List Cond := .code yX6_forwards cX6_forwards 2 none :: ([.fieldLink RX6 115 "LogSpoolerModel" "taken" "I", .fieldLink RX6 118 "LogSpoolerModel" "acknowledged" "I", .fieldLink RX6 121 "LogSpoolerModel" "lost" "I", .fieldLink RX6 78 "LogSpoolerModel" "forwarded" "[I"] ++ wsX60)
def wsX6_goes_r1 : List Cond := [Cond.fieldLink RX6 35 "LogSpoolerModel" "isSet" "[Z", Cond.fieldLink RX6 39 "LogSpoolerModel" "facilities" "[I", Cond.fieldLink RX6 42 "LogSpoolerModel" "severities" "[I", Cond.fieldLink RX6 45 "LogSpoolerModel" "senders" "[I", Cond.fieldLink RX6 48 "LogSpoolerModel" "targets" "[I", Cond.methodLink RX6 124 yX6_forwards, Cond.instanceMethod yX6_forwards, Cond.selects RX6 yX6_forwards yX6_forwards, Cond.initialized RX6, Cond.code yX6_forwards cX6_forwards 2 none, Cond.fieldLink RX6 115 "LogSpoolerModel" "taken" "I", Cond.fieldLink RX6 118 "LogSpoolerModel" "acknowledged" "I", Cond.fieldLink RX6 121 "LogSpoolerModel" "lost" "I", Cond.fieldLink RX6 78 "LogSpoolerModel" "forwarded" "[I", Cond.methodLink RX6 127 yX6_comesTo, Cond.instanceMethod yX6_comesTo, Cond.selects RX6 yX6_comesTo yX6_comesTo, Cond.code yX6_comesTo cX6_comesTo 4 none, Cond.fieldLink RX6 60 "LogSpoolerModel" "sizes" "[I", Cond.fieldLink RX6 51 "LogSpoolerModel" "most" "[I", Cond.fieldLink RX6 72 "LogSpoolerModel" "lines" "[I", Cond.fieldLink RX6 63 "LogSpoolerModel" "ends" "[I", Cond.fieldLink RX6 75 "LogSpoolerModel" "times" "[I", Cond.fieldLink RX6 112 "LogSpoolerModel" "time" "I"]
def wsX6_goes_r2 : List Cond := [Cond.methodLink RX6 104 yX6_linesOf, Cond.instanceMethod yX6_linesOf, Cond.selects RX6 yX6_linesOf yX6_linesOf, Cond.code yX6_linesOf cX6_linesOf 2 (some .int), Cond.fieldLink RX6 69 "LogSpoolerModel" "starts" "[I", Cond.methodLink RX6 108 yX6_rotates, Cond.instanceMethod yX6_rotates, Cond.selects RX6 yX6_rotates yX6_rotates, Cond.code yX6_rotates cX6_rotates 4 none, Cond.fieldLink RX6 66 "LogSpoolerModel" "generations" "[I", Cond.fieldLink RX6 57 "LogSpoolerModel" "kept" "[I", Cond.fieldLink RX6 101 "LogSpoolerModel" "rotations" "I"]
def wsX6_goes : List Cond := .code yX6_goes cX6_goes 9 (some .int) :: ((wsX6_goes_r1 ++ wsX6_goes_r2) ++ wsX60)
def wsX6_tellsRepeats_r1 : List Cond := [Cond.fieldLink RX6 23 "LogSpoolerModel" "repeats" "[I", Cond.fieldLink RX6 32 "LogSpoolerModel" "lasts" "[I", Cond.constant RX6 131 (160000), Cond.methodLink RX6 132 yX6_goes, Cond.instanceMethod yX6_goes, Cond.selects RX6 yX6_goes yX6_goes, Cond.initialized RX6, Cond.code yX6_goes cX6_goes 9 (some .int), Cond.fieldLink RX6 35 "LogSpoolerModel" "isSet" "[Z", Cond.fieldLink RX6 39 "LogSpoolerModel" "facilities" "[I", Cond.fieldLink RX6 42 "LogSpoolerModel" "severities" "[I", Cond.fieldLink RX6 45 "LogSpoolerModel" "senders" "[I", Cond.fieldLink RX6 48 "LogSpoolerModel" "targets" "[I", Cond.methodLink RX6 124 yX6_forwards, Cond.instanceMethod yX6_forwards, Cond.selects RX6 yX6_forwards yX6_forwards, Cond.code yX6_forwards cX6_forwards 2 none, Cond.fieldLink RX6 115 "LogSpoolerModel" "taken" "I", Cond.fieldLink RX6 118 "LogSpoolerModel" "acknowledged" "I", Cond.fieldLink RX6 121 "LogSpoolerModel" "lost" "I", Cond.fieldLink RX6 78 "LogSpoolerModel" "forwarded" "[I", Cond.methodLink RX6 127 yX6_comesTo, Cond.instanceMethod yX6_comesTo, Cond.selects RX6 yX6_comesTo yX6_comesTo]
def wsX6_tellsRepeats_r2 : List Cond := [Cond.code yX6_comesTo cX6_comesTo 4 none, Cond.fieldLink RX6 60 "LogSpoolerModel" "sizes" "[I", Cond.fieldLink RX6 51 "LogSpoolerModel" "most" "[I", Cond.fieldLink RX6 72 "LogSpoolerModel" "lines" "[I", Cond.fieldLink RX6 63 "LogSpoolerModel" "ends" "[I", Cond.fieldLink RX6 75 "LogSpoolerModel" "times" "[I", Cond.fieldLink RX6 112 "LogSpoolerModel" "time" "I", Cond.methodLink RX6 104 yX6_linesOf, Cond.instanceMethod yX6_linesOf, Cond.selects RX6 yX6_linesOf yX6_linesOf, Cond.code yX6_linesOf cX6_linesOf 2 (some .int), Cond.fieldLink RX6 69 "LogSpoolerModel" "starts" "[I", Cond.methodLink RX6 108 yX6_rotates, Cond.instanceMethod yX6_rotates, Cond.selects RX6 yX6_rotates yX6_rotates, Cond.code yX6_rotates cX6_rotates 4 none, Cond.fieldLink RX6 66 "LogSpoolerModel" "generations" "[I", Cond.fieldLink RX6 57 "LogSpoolerModel" "kept" "[I", Cond.fieldLink RX6 101 "LogSpoolerModel" "rotations" "I"]
def wsX6_tellsRepeats : List Cond := .code yX6_tellsRepeats cX6_tellsRepeats 4 none :: ((wsX6_tellsRepeats_r1 ++ wsX6_tellsRepeats_r2) ++ wsX60)
def wsX6_tellsDrops_r1 : List Cond := [Cond.fieldLink RX6 29 "LogSpoolerModel" "drops" "[I", Cond.constant RX6 136 (100000), Cond.methodLink RX6 132 yX6_goes, Cond.instanceMethod yX6_goes, Cond.selects RX6 yX6_goes yX6_goes, Cond.initialized RX6, Cond.code yX6_goes cX6_goes 9 (some .int), Cond.fieldLink RX6 35 "LogSpoolerModel" "isSet" "[Z", Cond.fieldLink RX6 39 "LogSpoolerModel" "facilities" "[I", Cond.fieldLink RX6 42 "LogSpoolerModel" "severities" "[I", Cond.fieldLink RX6 45 "LogSpoolerModel" "senders" "[I", Cond.fieldLink RX6 48 "LogSpoolerModel" "targets" "[I", Cond.methodLink RX6 124 yX6_forwards, Cond.instanceMethod yX6_forwards, Cond.selects RX6 yX6_forwards yX6_forwards, Cond.code yX6_forwards cX6_forwards 2 none, Cond.fieldLink RX6 115 "LogSpoolerModel" "taken" "I", Cond.fieldLink RX6 118 "LogSpoolerModel" "acknowledged" "I", Cond.fieldLink RX6 121 "LogSpoolerModel" "lost" "I", Cond.fieldLink RX6 78 "LogSpoolerModel" "forwarded" "[I", Cond.methodLink RX6 127 yX6_comesTo, Cond.instanceMethod yX6_comesTo, Cond.selects RX6 yX6_comesTo yX6_comesTo, Cond.code yX6_comesTo cX6_comesTo 4 none]
def wsX6_tellsDrops_r2 : List Cond := [Cond.fieldLink RX6 60 "LogSpoolerModel" "sizes" "[I", Cond.fieldLink RX6 51 "LogSpoolerModel" "most" "[I", Cond.fieldLink RX6 72 "LogSpoolerModel" "lines" "[I", Cond.fieldLink RX6 63 "LogSpoolerModel" "ends" "[I", Cond.fieldLink RX6 75 "LogSpoolerModel" "times" "[I", Cond.fieldLink RX6 112 "LogSpoolerModel" "time" "I", Cond.methodLink RX6 104 yX6_linesOf, Cond.instanceMethod yX6_linesOf, Cond.selects RX6 yX6_linesOf yX6_linesOf, Cond.code yX6_linesOf cX6_linesOf 2 (some .int), Cond.fieldLink RX6 69 "LogSpoolerModel" "starts" "[I", Cond.methodLink RX6 108 yX6_rotates, Cond.instanceMethod yX6_rotates, Cond.selects RX6 yX6_rotates yX6_rotates, Cond.code yX6_rotates cX6_rotates 4 none, Cond.fieldLink RX6 66 "LogSpoolerModel" "generations" "[I", Cond.fieldLink RX6 57 "LogSpoolerModel" "kept" "[I", Cond.fieldLink RX6 101 "LogSpoolerModel" "rotations" "I"]
def wsX6_tellsDrops : List Cond := .code yX6_tellsDrops cX6_tellsDrops 4 none :: ((wsX6_tellsDrops_r1 ++ wsX6_tellsDrops_r2) ++ wsX60)
def wsX6_notes : List Cond := .code yX6_notes cX6_notes 3 (some .int) :: ([.fieldLink RX6 81 "LogSpoolerModel" "fates" "[I", .fieldLink RX6 137 "LogSpoolerModel" "messages" "I", .fieldLink RX6 84 "LogSpoolerModel" "wentTo" "[I"] ++ wsX60)
def wsX6_message_r1 : List Cond := [Cond.fieldLink RX6 137 "LogSpoolerModel" "messages" "I", Cond.constant RX6 131 (160000), Cond.fieldLink RX6 16 "LogSpoolerModel" "fold" "I", Cond.fieldLink RX6 32 "LogSpoolerModel" "lasts" "[I", Cond.fieldLink RX6 26 "LogSpoolerModel" "firstRepeats" "[I", Cond.fieldLink RX6 23 "LogSpoolerModel" "repeats" "[I", Cond.fieldLink RX6 112 "LogSpoolerModel" "time" "I", Cond.fieldLink RX6 19 "LogSpoolerModel" "tokens" "[I", Cond.fieldLink RX6 29 "LogSpoolerModel" "drops" "[I", Cond.methodLink RX6 90 yX6_isIn, Cond.static yX6_isIn, Cond.initialized RX6, Cond.code yX6_isIn cX6_isIn 3 (some .boolean), Cond.methodLink RX6 94 yX6_holds, Cond.instanceMethod yX6_holds, Cond.selects RX6 yX6_holds yX6_holds, Cond.code yX6_holds cX6_holds 2 (some .boolean), Cond.fieldLink RX6 87 "LogSpoolerModel" "thrown" "I", Cond.methodLink RX6 140 yX6_notes, Cond.instanceMethod yX6_notes, Cond.selects RX6 yX6_notes yX6_notes, Cond.code yX6_notes cX6_notes 3 (some .int), Cond.fieldLink RX6 81 "LogSpoolerModel" "fates" "[I", Cond.fieldLink RX6 84 "LogSpoolerModel" "wentTo" "[I"]
def wsX6_message_r2 : List Cond := [Cond.methodLink RX6 144 yX6_tellsRepeats, Cond.instanceMethod yX6_tellsRepeats, Cond.selects RX6 yX6_tellsRepeats yX6_tellsRepeats, Cond.code yX6_tellsRepeats cX6_tellsRepeats 4 none, Cond.methodLink RX6 132 yX6_goes, Cond.instanceMethod yX6_goes, Cond.selects RX6 yX6_goes yX6_goes, Cond.code yX6_goes cX6_goes 9 (some .int), Cond.fieldLink RX6 35 "LogSpoolerModel" "isSet" "[Z", Cond.fieldLink RX6 39 "LogSpoolerModel" "facilities" "[I", Cond.fieldLink RX6 42 "LogSpoolerModel" "severities" "[I", Cond.fieldLink RX6 45 "LogSpoolerModel" "senders" "[I", Cond.fieldLink RX6 48 "LogSpoolerModel" "targets" "[I", Cond.methodLink RX6 124 yX6_forwards, Cond.instanceMethod yX6_forwards, Cond.selects RX6 yX6_forwards yX6_forwards, Cond.code yX6_forwards cX6_forwards 2 none, Cond.fieldLink RX6 115 "LogSpoolerModel" "taken" "I", Cond.fieldLink RX6 118 "LogSpoolerModel" "acknowledged" "I", Cond.fieldLink RX6 121 "LogSpoolerModel" "lost" "I", Cond.fieldLink RX6 78 "LogSpoolerModel" "forwarded" "[I", Cond.methodLink RX6 127 yX6_comesTo, Cond.instanceMethod yX6_comesTo, Cond.selects RX6 yX6_comesTo yX6_comesTo]
def wsX6_message_r3 : List Cond := [Cond.code yX6_comesTo cX6_comesTo 4 none, Cond.fieldLink RX6 60 "LogSpoolerModel" "sizes" "[I", Cond.fieldLink RX6 51 "LogSpoolerModel" "most" "[I", Cond.fieldLink RX6 72 "LogSpoolerModel" "lines" "[I", Cond.fieldLink RX6 63 "LogSpoolerModel" "ends" "[I", Cond.fieldLink RX6 75 "LogSpoolerModel" "times" "[I", Cond.methodLink RX6 104 yX6_linesOf, Cond.instanceMethod yX6_linesOf, Cond.selects RX6 yX6_linesOf yX6_linesOf, Cond.code yX6_linesOf cX6_linesOf 2 (some .int), Cond.fieldLink RX6 69 "LogSpoolerModel" "starts" "[I", Cond.methodLink RX6 108 yX6_rotates, Cond.instanceMethod yX6_rotates, Cond.selects RX6 yX6_rotates yX6_rotates, Cond.code yX6_rotates cX6_rotates 4 none, Cond.fieldLink RX6 66 "LogSpoolerModel" "generations" "[I", Cond.fieldLink RX6 57 "LogSpoolerModel" "kept" "[I", Cond.fieldLink RX6 101 "LogSpoolerModel" "rotations" "I", Cond.methodLink RX6 147 yX6_tellsDrops, Cond.instanceMethod yX6_tellsDrops, Cond.selects RX6 yX6_tellsDrops yX6_tellsDrops, Cond.code yX6_tellsDrops cX6_tellsDrops 4 none, Cond.constant RX6 136 (100000)]
def wsX6_message : List Cond := .code yX6_message cX6_message 10 (some .int) :: ((wsX6_message_r1 ++ (wsX6_message_r2 ++ wsX6_message_r3)) ++ wsX60)
def wsX6_due : List Cond := .code yX6_due cX6_due 4 (some .int) :: ([.fieldLink RX6 23 "LogSpoolerModel" "repeats" "[I", .fieldLink RX6 112 "LogSpoolerModel" "time" "I", .fieldLink RX6 26 "LogSpoolerModel" "firstRepeats" "[I", .fieldLink RX6 16 "LogSpoolerModel" "fold" "I"] ++ wsX60)
def wsX6_passes_r1 : List Cond := [Cond.fieldLink RX6 112 "LogSpoolerModel" "time" "I", Cond.fieldLink RX6 19 "LogSpoolerModel" "tokens" "[I", Cond.fieldLink RX6 13 "LogSpoolerModel" "tokenTime" "I", Cond.fieldLink RX6 7 "LogSpoolerModel" "burst" "I", Cond.fieldLink RX6 54 "LogSpoolerModel" "ages" "[I", Cond.fieldLink RX6 75 "LogSpoolerModel" "times" "[I", Cond.fieldLink RX6 69 "LogSpoolerModel" "starts" "[I", Cond.methodLink RX6 150 yX6_due, Cond.instanceMethod yX6_due, Cond.selects RX6 yX6_due yX6_due, Cond.initialized RX6, Cond.code yX6_due cX6_due 4 (some .int), Cond.fieldLink RX6 23 "LogSpoolerModel" "repeats" "[I", Cond.fieldLink RX6 26 "LogSpoolerModel" "firstRepeats" "[I", Cond.fieldLink RX6 16 "LogSpoolerModel" "fold" "I", Cond.methodLink RX6 144 yX6_tellsRepeats, Cond.instanceMethod yX6_tellsRepeats, Cond.selects RX6 yX6_tellsRepeats yX6_tellsRepeats, Cond.code yX6_tellsRepeats cX6_tellsRepeats 4 none, Cond.fieldLink RX6 32 "LogSpoolerModel" "lasts" "[I", Cond.constant RX6 131 (160000), Cond.methodLink RX6 132 yX6_goes, Cond.instanceMethod yX6_goes, Cond.selects RX6 yX6_goes yX6_goes]
def wsX6_passes_r2 : List Cond := [Cond.code yX6_goes cX6_goes 9 (some .int), Cond.fieldLink RX6 35 "LogSpoolerModel" "isSet" "[Z", Cond.fieldLink RX6 39 "LogSpoolerModel" "facilities" "[I", Cond.fieldLink RX6 42 "LogSpoolerModel" "severities" "[I", Cond.fieldLink RX6 45 "LogSpoolerModel" "senders" "[I", Cond.fieldLink RX6 48 "LogSpoolerModel" "targets" "[I", Cond.methodLink RX6 124 yX6_forwards, Cond.instanceMethod yX6_forwards, Cond.selects RX6 yX6_forwards yX6_forwards, Cond.code yX6_forwards cX6_forwards 2 none, Cond.fieldLink RX6 115 "LogSpoolerModel" "taken" "I", Cond.fieldLink RX6 118 "LogSpoolerModel" "acknowledged" "I", Cond.fieldLink RX6 121 "LogSpoolerModel" "lost" "I", Cond.fieldLink RX6 78 "LogSpoolerModel" "forwarded" "[I", Cond.methodLink RX6 127 yX6_comesTo, Cond.instanceMethod yX6_comesTo, Cond.selects RX6 yX6_comesTo yX6_comesTo, Cond.code yX6_comesTo cX6_comesTo 4 none, Cond.fieldLink RX6 60 "LogSpoolerModel" "sizes" "[I", Cond.fieldLink RX6 51 "LogSpoolerModel" "most" "[I", Cond.fieldLink RX6 72 "LogSpoolerModel" "lines" "[I", Cond.fieldLink RX6 63 "LogSpoolerModel" "ends" "[I", Cond.methodLink RX6 104 yX6_linesOf, Cond.instanceMethod yX6_linesOf]
def wsX6_passes_r3 : List Cond := [Cond.selects RX6 yX6_linesOf yX6_linesOf, Cond.code yX6_linesOf cX6_linesOf 2 (some .int), Cond.methodLink RX6 108 yX6_rotates, Cond.instanceMethod yX6_rotates, Cond.selects RX6 yX6_rotates yX6_rotates, Cond.code yX6_rotates cX6_rotates 4 none, Cond.fieldLink RX6 66 "LogSpoolerModel" "generations" "[I", Cond.fieldLink RX6 57 "LogSpoolerModel" "kept" "[I", Cond.fieldLink RX6 101 "LogSpoolerModel" "rotations" "I"]
def wsX6_passes : List Cond := .code yX6_passes cX6_passes 3 none :: ((wsX6_passes_r1 ++ (wsX6_passes_r2 ++ wsX6_passes_r3)) ++ wsX60)
def wsX6_pass_r1 : List Cond := [Cond.fieldLink RX6 101 "LogSpoolerModel" "rotations" "I", Cond.methodLink RX6 90 yX6_isIn, Cond.static yX6_isIn, Cond.initialized RX6, Cond.code yX6_isIn cX6_isIn 3 (some .boolean), Cond.methodLink RX6 94 yX6_holds, Cond.instanceMethod yX6_holds, Cond.selects RX6 yX6_holds yX6_holds, Cond.code yX6_holds cX6_holds 2 (some .boolean), Cond.fieldLink RX6 87 "LogSpoolerModel" "thrown" "I", Cond.methodLink RX6 154 yX6_passes, Cond.instanceMethod yX6_passes, Cond.selects RX6 yX6_passes yX6_passes, Cond.code yX6_passes cX6_passes 3 none, Cond.fieldLink RX6 112 "LogSpoolerModel" "time" "I", Cond.fieldLink RX6 19 "LogSpoolerModel" "tokens" "[I", Cond.fieldLink RX6 13 "LogSpoolerModel" "tokenTime" "I", Cond.fieldLink RX6 7 "LogSpoolerModel" "burst" "I", Cond.fieldLink RX6 54 "LogSpoolerModel" "ages" "[I", Cond.fieldLink RX6 75 "LogSpoolerModel" "times" "[I", Cond.fieldLink RX6 69 "LogSpoolerModel" "starts" "[I", Cond.methodLink RX6 150 yX6_due, Cond.instanceMethod yX6_due, Cond.selects RX6 yX6_due yX6_due]
def wsX6_pass_r2 : List Cond := [Cond.code yX6_due cX6_due 4 (some .int), Cond.fieldLink RX6 23 "LogSpoolerModel" "repeats" "[I", Cond.fieldLink RX6 26 "LogSpoolerModel" "firstRepeats" "[I", Cond.fieldLink RX6 16 "LogSpoolerModel" "fold" "I", Cond.methodLink RX6 144 yX6_tellsRepeats, Cond.instanceMethod yX6_tellsRepeats, Cond.selects RX6 yX6_tellsRepeats yX6_tellsRepeats, Cond.code yX6_tellsRepeats cX6_tellsRepeats 4 none, Cond.fieldLink RX6 32 "LogSpoolerModel" "lasts" "[I", Cond.constant RX6 131 (160000), Cond.methodLink RX6 132 yX6_goes, Cond.instanceMethod yX6_goes, Cond.selects RX6 yX6_goes yX6_goes, Cond.code yX6_goes cX6_goes 9 (some .int), Cond.fieldLink RX6 35 "LogSpoolerModel" "isSet" "[Z", Cond.fieldLink RX6 39 "LogSpoolerModel" "facilities" "[I", Cond.fieldLink RX6 42 "LogSpoolerModel" "severities" "[I", Cond.fieldLink RX6 45 "LogSpoolerModel" "senders" "[I", Cond.fieldLink RX6 48 "LogSpoolerModel" "targets" "[I", Cond.methodLink RX6 124 yX6_forwards, Cond.instanceMethod yX6_forwards, Cond.selects RX6 yX6_forwards yX6_forwards, Cond.code yX6_forwards cX6_forwards 2 none, Cond.fieldLink RX6 115 "LogSpoolerModel" "taken" "I"]
def wsX6_pass_r3 : List Cond := [Cond.fieldLink RX6 118 "LogSpoolerModel" "acknowledged" "I", Cond.fieldLink RX6 121 "LogSpoolerModel" "lost" "I", Cond.fieldLink RX6 78 "LogSpoolerModel" "forwarded" "[I", Cond.methodLink RX6 127 yX6_comesTo, Cond.instanceMethod yX6_comesTo, Cond.selects RX6 yX6_comesTo yX6_comesTo, Cond.code yX6_comesTo cX6_comesTo 4 none, Cond.fieldLink RX6 60 "LogSpoolerModel" "sizes" "[I", Cond.fieldLink RX6 51 "LogSpoolerModel" "most" "[I", Cond.fieldLink RX6 72 "LogSpoolerModel" "lines" "[I", Cond.fieldLink RX6 63 "LogSpoolerModel" "ends" "[I", Cond.methodLink RX6 104 yX6_linesOf, Cond.instanceMethod yX6_linesOf, Cond.selects RX6 yX6_linesOf yX6_linesOf, Cond.code yX6_linesOf cX6_linesOf 2 (some .int), Cond.methodLink RX6 108 yX6_rotates, Cond.instanceMethod yX6_rotates, Cond.selects RX6 yX6_rotates yX6_rotates, Cond.code yX6_rotates cX6_rotates 4 none, Cond.fieldLink RX6 66 "LogSpoolerModel" "generations" "[I", Cond.fieldLink RX6 57 "LogSpoolerModel" "kept" "[I"]
def wsX6_pass : List Cond := .code yX6_pass cX6_pass 3 (some .int) :: ((wsX6_pass_r1 ++ (wsX6_pass_r2 ++ wsX6_pass_r3)) ++ wsX60)
def wsX6_rotate_r1 : List Cond := [Cond.fieldLink RX6 66 "LogSpoolerModel" "generations" "[I", Cond.methodLink RX6 98 yX6_isFile, Cond.static yX6_isFile, Cond.initialized RX6, Cond.code yX6_isFile cX6_isFile 1 (some .boolean), Cond.methodLink RX6 90 yX6_isIn, Cond.static yX6_isIn, Cond.code yX6_isIn cX6_isIn 3 (some .boolean), Cond.methodLink RX6 104 yX6_linesOf, Cond.instanceMethod yX6_linesOf, Cond.selects RX6 yX6_linesOf yX6_linesOf, Cond.code yX6_linesOf cX6_linesOf 2 (some .int), Cond.fieldLink RX6 63 "LogSpoolerModel" "ends" "[I", Cond.fieldLink RX6 69 "LogSpoolerModel" "starts" "[I", Cond.methodLink RX6 94 yX6_holds, Cond.instanceMethod yX6_holds, Cond.selects RX6 yX6_holds yX6_holds, Cond.code yX6_holds cX6_holds 2 (some .boolean), Cond.fieldLink RX6 87 "LogSpoolerModel" "thrown" "I", Cond.methodLink RX6 108 yX6_rotates, Cond.instanceMethod yX6_rotates, Cond.selects RX6 yX6_rotates yX6_rotates, Cond.code yX6_rotates cX6_rotates 4 none, Cond.fieldLink RX6 57 "LogSpoolerModel" "kept" "[I"]
def wsX6_rotate_r2 : List Cond := [Cond.fieldLink RX6 60 "LogSpoolerModel" "sizes" "[I", Cond.fieldLink RX6 101 "LogSpoolerModel" "rotations" "I"]
def wsX6_rotate : List Cond := .code yX6_rotate cX6_rotate 3 (some .int) :: ((wsX6_rotate_r1 ++ wsX6_rotate_r2) ++ wsX60)
def wsX6_connect : List Cond := .code yX6_connect cX6_connect 1 (some .int) :: ([.fieldLink RX6 157 "LogSpoolerModel" "isConnected" "Z", .fieldLink RX6 115 "LogSpoolerModel" "taken" "I", .fieldLink RX6 161 "LogSpoolerModel" "sent" "I", .methodLink RX6 94 yX6_holds, .instanceMethod yX6_holds, .selects RX6 yX6_holds yX6_holds, .initialized RX6, .code yX6_holds cX6_holds 2 (some .boolean), .fieldLink RX6 87 "LogSpoolerModel" "thrown" "I"] ++ wsX60)
def wsX6_disconnect : List Cond := .code yX6_disconnect cX6_disconnect 2 (some .int) :: ([.fieldLink RX6 157 "LogSpoolerModel" "isConnected" "Z", .fieldLink RX6 161 "LogSpoolerModel" "sent" "I", .fieldLink RX6 118 "LogSpoolerModel" "acknowledged" "I", .methodLink RX6 94 yX6_holds, .instanceMethod yX6_holds, .selects RX6 yX6_holds yX6_holds, .initialized RX6, .code yX6_holds cX6_holds 2 (some .boolean), .fieldLink RX6 87 "LogSpoolerModel" "thrown" "I"] ++ wsX60)
def wsX6_send : List Cond := .code yX6_send cX6_send 1 (some .int) :: ([.fieldLink RX6 157 "LogSpoolerModel" "isConnected" "Z", .fieldLink RX6 115 "LogSpoolerModel" "taken" "I", .fieldLink RX6 161 "LogSpoolerModel" "sent" "I", .fieldLink RX6 118 "LogSpoolerModel" "acknowledged" "I", .fieldLink RX6 78 "LogSpoolerModel" "forwarded" "[I", .methodLink RX6 94 yX6_holds, .instanceMethod yX6_holds, .selects RX6 yX6_holds yX6_holds, .initialized RX6, .code yX6_holds cX6_holds 2 (some .boolean), .fieldLink RX6 87 "LogSpoolerModel" "thrown" "I"] ++ wsX60)
def wsX6_acknowledge : List Cond := .code yX6_acknowledge cX6_acknowledge 1 (some .int) :: ([.fieldLink RX6 161 "LogSpoolerModel" "sent" "I", .fieldLink RX6 118 "LogSpoolerModel" "acknowledged" "I", .fieldLink RX6 78 "LogSpoolerModel" "forwarded" "[I", .methodLink RX6 94 yX6_holds, .instanceMethod yX6_holds, .selects RX6 yX6_holds yX6_holds, .initialized RX6, .code yX6_holds cX6_holds 2 (some .boolean), .fieldLink RX6 87 "LogSpoolerModel" "thrown" "I"] ++ wsX60)
def wsX6_time : List Cond := .code yX6_time cX6_time 1 (some .int) :: ([.fieldLink RX6 87 "LogSpoolerModel" "thrown" "I", .fieldLink RX6 112 "LogSpoolerModel" "time" "I"] ++ wsX60)
def wsX6_isSender : List Cond := .code yX6_isSender cX6_isSender 2 (some .boolean) :: ([.methodLink RX6 90 yX6_isIn, .static yX6_isIn, .initialized RX6, .code yX6_isIn cX6_isIn 3 (some .boolean), .methodLink RX6 94 yX6_holds, .instanceMethod yX6_holds, .selects RX6 yX6_holds yX6_holds, .code yX6_holds cX6_holds 2 (some .boolean), .fieldLink RX6 87 "LogSpoolerModel" "thrown" "I"] ++ wsX60)
def wsX6_tokens : List Cond := .code yX6_tokens cX6_tokens 2 (some .int) :: ([.fieldLink RX6 19 "LogSpoolerModel" "tokens" "[I", .methodLink RX6 164 yX6_isSender, .instanceMethod yX6_isSender, .selects RX6 yX6_isSender yX6_isSender, .initialized RX6, .code yX6_isSender cX6_isSender 2 (some .boolean), .methodLink RX6 90 yX6_isIn, .static yX6_isIn, .code yX6_isIn cX6_isIn 3 (some .boolean), .methodLink RX6 94 yX6_holds, .instanceMethod yX6_holds, .selects RX6 yX6_holds yX6_holds, .code yX6_holds cX6_holds 2 (some .boolean), .fieldLink RX6 87 "LogSpoolerModel" "thrown" "I"] ++ wsX60)
def wsX6_repeats : List Cond := .code yX6_repeats cX6_repeats 2 (some .int) :: ([.fieldLink RX6 23 "LogSpoolerModel" "repeats" "[I", .methodLink RX6 164 yX6_isSender, .instanceMethod yX6_isSender, .selects RX6 yX6_isSender yX6_isSender, .initialized RX6, .code yX6_isSender cX6_isSender 2 (some .boolean), .methodLink RX6 90 yX6_isIn, .static yX6_isIn, .code yX6_isIn cX6_isIn 3 (some .boolean), .methodLink RX6 94 yX6_holds, .instanceMethod yX6_holds, .selects RX6 yX6_holds yX6_holds, .code yX6_holds cX6_holds 2 (some .boolean), .fieldLink RX6 87 "LogSpoolerModel" "thrown" "I"] ++ wsX60)
def wsX6_drops : List Cond := .code yX6_drops cX6_drops 2 (some .int) :: ([.fieldLink RX6 29 "LogSpoolerModel" "drops" "[I", .methodLink RX6 164 yX6_isSender, .instanceMethod yX6_isSender, .selects RX6 yX6_isSender yX6_isSender, .initialized RX6, .code yX6_isSender cX6_isSender 2 (some .boolean), .methodLink RX6 90 yX6_isIn, .static yX6_isIn, .code yX6_isIn cX6_isIn 3 (some .boolean), .methodLink RX6 94 yX6_holds, .instanceMethod yX6_holds, .selects RX6 yX6_holds yX6_holds, .code yX6_holds cX6_holds 2 (some .boolean), .fieldLink RX6 87 "LogSpoolerModel" "thrown" "I"] ++ wsX60)
def wsX6_size : List Cond := .code yX6_size cX6_size 2 (some .int) :: ([.fieldLink RX6 60 "LogSpoolerModel" "sizes" "[I", .methodLink RX6 98 yX6_isFile, .static yX6_isFile, .initialized RX6, .code yX6_isFile cX6_isFile 1 (some .boolean), .methodLink RX6 90 yX6_isIn, .static yX6_isIn, .code yX6_isIn cX6_isIn 3 (some .boolean), .methodLink RX6 94 yX6_holds, .instanceMethod yX6_holds, .selects RX6 yX6_holds yX6_holds, .code yX6_holds cX6_holds 2 (some .boolean), .fieldLink RX6 87 "LogSpoolerModel" "thrown" "I"] ++ wsX60)
def wsX6_isPart : List Cond := .code yX6_isPart cX6_isPart 3 (some .boolean) :: ([.fieldLink RX6 66 "LogSpoolerModel" "generations" "[I", .methodLink RX6 98 yX6_isFile, .static yX6_isFile, .initialized RX6, .code yX6_isFile cX6_isFile 1 (some .boolean), .methodLink RX6 90 yX6_isIn, .static yX6_isIn, .code yX6_isIn cX6_isIn 3 (some .boolean)] ++ wsX60)
def wsX6_startOf : List Cond := .code yX6_startOf cX6_startOf 3 (some .int) :: ([.fieldLink RX6 69 "LogSpoolerModel" "starts" "[I"] ++ wsX60)
def wsX6_endOf : List Cond := .code yX6_endOf cX6_endOf 3 (some .int) :: ([.fieldLink RX6 63 "LogSpoolerModel" "ends" "[I", .fieldLink RX6 69 "LogSpoolerModel" "starts" "[I"] ++ wsX60)
def wsX6_lines_r1 : List Cond := [Cond.methodLink RX6 167 yX6_isPart, Cond.instanceMethod yX6_isPart, Cond.selects RX6 yX6_isPart yX6_isPart, Cond.initialized RX6, Cond.code yX6_isPart cX6_isPart 3 (some .boolean), Cond.fieldLink RX6 66 "LogSpoolerModel" "generations" "[I", Cond.methodLink RX6 98 yX6_isFile, Cond.static yX6_isFile, Cond.code yX6_isFile cX6_isFile 1 (some .boolean), Cond.methodLink RX6 90 yX6_isIn, Cond.static yX6_isIn, Cond.code yX6_isIn cX6_isIn 3 (some .boolean), Cond.methodLink RX6 94 yX6_holds, Cond.instanceMethod yX6_holds, Cond.selects RX6 yX6_holds yX6_holds, Cond.code yX6_holds cX6_holds 2 (some .boolean), Cond.fieldLink RX6 87 "LogSpoolerModel" "thrown" "I", Cond.methodLink RX6 171 yX6_endOf, Cond.instanceMethod yX6_endOf, Cond.selects RX6 yX6_endOf yX6_endOf, Cond.code yX6_endOf cX6_endOf 3 (some .int), Cond.fieldLink RX6 63 "LogSpoolerModel" "ends" "[I", Cond.fieldLink RX6 69 "LogSpoolerModel" "starts" "[I", Cond.methodLink RX6 174 yX6_startOf]
def wsX6_lines_r2 : List Cond := [Cond.instanceMethod yX6_startOf, Cond.selects RX6 yX6_startOf yX6_startOf, Cond.code yX6_startOf cX6_startOf 3 (some .int)]
def wsX6_lines : List Cond := .code yX6_lines cX6_lines 3 (some .int) :: ((wsX6_lines_r1 ++ wsX6_lines_r2) ++ wsX60)
def wsX6_line_r1 : List Cond := [Cond.fieldLink RX6 72 "LogSpoolerModel" "lines" "[I", Cond.methodLink RX6 167 yX6_isPart, Cond.instanceMethod yX6_isPart, Cond.selects RX6 yX6_isPart yX6_isPart, Cond.initialized RX6, Cond.code yX6_isPart cX6_isPart 3 (some .boolean), Cond.fieldLink RX6 66 "LogSpoolerModel" "generations" "[I", Cond.methodLink RX6 98 yX6_isFile, Cond.static yX6_isFile, Cond.code yX6_isFile cX6_isFile 1 (some .boolean), Cond.methodLink RX6 90 yX6_isIn, Cond.static yX6_isIn, Cond.code yX6_isIn cX6_isIn 3 (some .boolean), Cond.methodLink RX6 171 yX6_endOf, Cond.instanceMethod yX6_endOf, Cond.selects RX6 yX6_endOf yX6_endOf, Cond.code yX6_endOf cX6_endOf 3 (some .int), Cond.fieldLink RX6 63 "LogSpoolerModel" "ends" "[I", Cond.fieldLink RX6 69 "LogSpoolerModel" "starts" "[I", Cond.methodLink RX6 174 yX6_startOf, Cond.instanceMethod yX6_startOf, Cond.selects RX6 yX6_startOf yX6_startOf, Cond.code yX6_startOf cX6_startOf 3 (some .int), Cond.methodLink RX6 94 yX6_holds]
def wsX6_line_r2 : List Cond := [Cond.instanceMethod yX6_holds, Cond.selects RX6 yX6_holds yX6_holds, Cond.code yX6_holds cX6_holds 2 (some .boolean), Cond.fieldLink RX6 87 "LogSpoolerModel" "thrown" "I"]
def wsX6_line : List Cond := .code yX6_line cX6_line 5 (some .int) :: ((wsX6_line_r1 ++ wsX6_line_r2) ++ wsX60)
def wsX6_generations : List Cond := .code yX6_generations cX6_generations 2 (some .int) :: ([.fieldLink RX6 66 "LogSpoolerModel" "generations" "[I", .methodLink RX6 98 yX6_isFile, .static yX6_isFile, .initialized RX6, .code yX6_isFile cX6_isFile 1 (some .boolean), .methodLink RX6 90 yX6_isIn, .static yX6_isIn, .code yX6_isIn cX6_isIn 3 (some .boolean), .methodLink RX6 94 yX6_holds, .instanceMethod yX6_holds, .selects RX6 yX6_holds yX6_holds, .code yX6_holds cX6_holds 2 (some .boolean), .fieldLink RX6 87 "LogSpoolerModel" "thrown" "I"] ++ wsX60)
def wsX6_queued : List Cond := .code yX6_queued cX6_queued 1 (some .int) :: ([.fieldLink RX6 87 "LogSpoolerModel" "thrown" "I", .fieldLink RX6 115 "LogSpoolerModel" "taken" "I", .fieldLink RX6 161 "LogSpoolerModel" "sent" "I"] ++ wsX60)
def wsX6_inFlight : List Cond := .code yX6_inFlight cX6_inFlight 1 (some .int) :: ([.fieldLink RX6 87 "LogSpoolerModel" "thrown" "I", .fieldLink RX6 161 "LogSpoolerModel" "sent" "I", .fieldLink RX6 118 "LogSpoolerModel" "acknowledged" "I"] ++ wsX60)
def wsX6_acknowledged : List Cond := .code yX6_acknowledged cX6_acknowledged 1 (some .int) :: ([.fieldLink RX6 87 "LogSpoolerModel" "thrown" "I", .fieldLink RX6 118 "LogSpoolerModel" "acknowledged" "I"] ++ wsX60)
def wsX6_lost : List Cond := .code yX6_lost cX6_lost 1 (some .int) :: ([.fieldLink RX6 87 "LogSpoolerModel" "thrown" "I", .fieldLink RX6 121 "LogSpoolerModel" "lost" "I"] ++ wsX60)
def wsX6_messages : List Cond := .code yX6_messages cX6_messages 1 (some .int) :: ([.fieldLink RX6 87 "LogSpoolerModel" "thrown" "I", .fieldLink RX6 137 "LogSpoolerModel" "messages" "I"] ++ wsX60)
def wsX6_isMessage : List Cond := .code yX6_isMessage cX6_isMessage 2 (some .boolean) :: ([.fieldLink RX6 137 "LogSpoolerModel" "messages" "I", .methodLink RX6 94 yX6_holds, .instanceMethod yX6_holds, .selects RX6 yX6_holds yX6_holds, .initialized RX6, .code yX6_holds cX6_holds 2 (some .boolean), .fieldLink RX6 87 "LogSpoolerModel" "thrown" "I"] ++ wsX60)
def wsX6_fateOf : List Cond := .code yX6_fateOf cX6_fateOf 2 (some .int) :: ([.fieldLink RX6 81 "LogSpoolerModel" "fates" "[I", .methodLink RX6 177 yX6_isMessage, .instanceMethod yX6_isMessage, .selects RX6 yX6_isMessage yX6_isMessage, .initialized RX6, .code yX6_isMessage cX6_isMessage 2 (some .boolean), .fieldLink RX6 137 "LogSpoolerModel" "messages" "I", .methodLink RX6 94 yX6_holds, .instanceMethod yX6_holds, .selects RX6 yX6_holds yX6_holds, .code yX6_holds cX6_holds 2 (some .boolean), .fieldLink RX6 87 "LogSpoolerModel" "thrown" "I"] ++ wsX60)
def wsX6_count : List Cond := .code yX6_count cX6_count 4 (some .int) :: ([.fieldLink RX6 137 "LogSpoolerModel" "messages" "I", .fieldLink RX6 81 "LogSpoolerModel" "fates" "[I", .methodLink RX6 90 yX6_isIn, .static yX6_isIn, .initialized RX6, .code yX6_isIn cX6_isIn 3 (some .boolean), .methodLink RX6 94 yX6_holds, .instanceMethod yX6_holds, .selects RX6 yX6_holds yX6_holds, .code yX6_holds cX6_holds 2 (some .boolean), .fieldLink RX6 87 "LogSpoolerModel" "thrown" "I"] ++ wsX60)
def wsX6_targetsOf : List Cond := .code yX6_targetsOf cX6_targetsOf 2 (some .int) :: ([.fieldLink RX6 84 "LogSpoolerModel" "wentTo" "[I", .methodLink RX6 177 yX6_isMessage, .instanceMethod yX6_isMessage, .selects RX6 yX6_isMessage yX6_isMessage, .initialized RX6, .code yX6_isMessage cX6_isMessage 2 (some .boolean), .fieldLink RX6 137 "LogSpoolerModel" "messages" "I", .methodLink RX6 94 yX6_holds, .instanceMethod yX6_holds, .selects RX6 yX6_holds yX6_holds, .code yX6_holds cX6_holds 2 (some .boolean), .fieldLink RX6 87 "LogSpoolerModel" "thrown" "I"] ++ wsX60)
def wsL_setRate : List Cond := .codeWith yL_setRate cL_setRate 5 (some .int) [(0, 10, 13, 13)] :: ([.classLink RL 13 "java/lang/IllegalArgumentException", .methodLink RL 7 yX5_setRate, .instanceMethod yX5_setRate, .selects RX5 yX5_setRate yX5_setRate, .initialized RX5, .code yX5_setRate cX5_setRate 5 (some .int), .classLink RX5 63 "java/lang/IllegalArgumentException", .initialized "java/lang/IllegalArgumentException", .fieldLink RX5 45 "LogSpooler" "burst" "I", .fieldLink RX5 48 "LogSpooler" "tokenTime" "I", .fieldLink RX5 11 "LogSpooler" "senders" "[LLogSpooler$Sender;", .methodLink RX5 59 yX5_isWithin, .static yX5_isWithin, .code yX5_isWithin cX5_isWithin 3 (some .boolean), .methodLink RX5 70 yX4_capTokens, .instanceMethod yX4_capTokens, .selects RX4 yX4_capTokens yX4_capTokens, .initialized RX4, .code yX4_capTokens cX4_capTokens 2 none, .fieldLink RX4 36 "LogSpooler$Sender" "tokensLeft" "I"] ++ wsX50 ++ wsX40 ++ (vx_atS RX5 67 "java/lang/IllegalArgumentException" ["java/lang/RuntimeException", "java/lang/Exception"]).filter goodWord)
def wsL_setFold : List Cond := .codeWith yL_setFold cL_setFold 4 (some .int) [(0, 9, 12, 13)] :: ([.classLink RL 13 "java/lang/IllegalArgumentException", .methodLink RL 15 yX5_setFold, .instanceMethod yX5_setFold, .selects RX5 yX5_setFold yX5_setFold, .initialized RX5, .code yX5_setFold cX5_setFold 3 (some .int), .classLink RX5 63 "java/lang/IllegalArgumentException", .initialized "java/lang/IllegalArgumentException", .fieldLink RX5 51 "LogSpooler" "foldTime" "I", .methodLink RX5 59 yX5_isWithin, .static yX5_isWithin, .code yX5_isWithin cX5_isWithin 3 (some .boolean)] ++ wsX50 ++ (vx_atS RX5 67 "java/lang/IllegalArgumentException" ["java/lang/RuntimeException", "java/lang/Exception"]).filter goodWord)
def wsL_setRule_r1 : List Cond := [Cond.classLink RL 23 "java/lang/IndexOutOfBoundsException", Cond.classLink RL 13 "java/lang/IllegalArgumentException", Cond.methodLink RL 19 yX5_setRule, Cond.instanceMethod yX5_setRule, Cond.selects RX5 yX5_setRule yX5_setRule, Cond.initialized RX5, Cond.code yX5_setRule cX5_setRule 7 (some .int), Cond.classLink RX5 80 "java/lang/IndexOutOfBoundsException", Cond.initialized "java/lang/IndexOutOfBoundsException", Cond.classLink RX5 63 "java/lang/IllegalArgumentException", Cond.initialized "java/lang/IllegalArgumentException", Cond.methodLink RX5 76 yX5_ruleAt, Cond.instanceMethod yX5_ruleAt, Cond.selects RX5 yX5_ruleAt yX5_ruleAt, Cond.code yX5_ruleAt cX5_ruleAt 2 (some (.object "LogSpooler$Rule")), Cond.fieldLink RX5 17 "LogSpooler" "rules" "[LLogSpooler$Rule;", Cond.methodLink RX5 59 yX5_isWithin, Cond.static yX5_isWithin, Cond.code yX5_isWithin cX5_isWithin 3 (some .boolean), Cond.methodLink RX5 87 yX3_put, Cond.instanceMethod yX3_put, Cond.selects RX3 yX3_put yX3_put, Cond.initialized RX3, Cond.code yX3_put cX3_put 5 none]
def wsL_setRule_r2 : List Cond := [Cond.fieldLink RX3 9 "LogSpooler$Rule" "isSet" "Z", Cond.fieldLink RX3 15 "LogSpooler$Rule" "facilities" "I", Cond.fieldLink RX3 19 "LogSpooler$Rule" "severity" "I", Cond.fieldLink RX3 22 "LogSpooler$Rule" "sender" "I", Cond.fieldLink RX3 25 "LogSpooler$Rule" "target" "I", Cond.methodLink RX5 91 yX5_rulesThatAreSet, Cond.instanceMethod yX5_rulesThatAreSet, Cond.selects RX5 yX5_rulesThatAreSet yX5_rulesThatAreSet, Cond.code yX5_rulesThatAreSet cX5_rulesThatAreSet 3 (some .int), Cond.fieldLink RX5 95 "LogSpooler$Rule" "isSet" "Z"]
def wsL_setRule : List Cond := .codeWith yL_setRule cL_setRule 8 (some .int) [(0, 16, 19, 23), (0, 16, 23, 13)] :: ((wsL_setRule_r1 ++ wsL_setRule_r2) ++ wsX50 ++ wsX30 ++ (vx_atS RX5 84 "java/lang/IndexOutOfBoundsException" ["java/lang/RuntimeException", "java/lang/Exception"]).filter goodWord ++ (vx_atS RX5 67 "java/lang/IllegalArgumentException" ["java/lang/RuntimeException", "java/lang/Exception"]).filter goodWord)
def wsL_removeRule : List Cond := .codeWith yL_removeRule cL_removeRule 4 (some .int) [(0, 16, 19, 23)] :: ([.classLink RL 23 "java/lang/IndexOutOfBoundsException", .methodLink RL 25 yX5_removeRule, .instanceMethod yX5_removeRule, .selects RX5 yX5_removeRule yX5_removeRule, .initialized RX5, .code yX5_removeRule cX5_removeRule 4 (some .boolean), .fieldLink RX5 95 "LogSpooler$Rule" "isSet" "Z", .methodLink RX5 76 yX5_ruleAt, .instanceMethod yX5_ruleAt, .selects RX5 yX5_ruleAt yX5_ruleAt, .code yX5_ruleAt cX5_ruleAt 2 (some (.object "LogSpooler$Rule")), .classLink RX5 80 "java/lang/IndexOutOfBoundsException", .initialized "java/lang/IndexOutOfBoundsException", .fieldLink RX5 17 "LogSpooler" "rules" "[LLogSpooler$Rule;"] ++ wsX30 ++ wsX50 ++ (vx_atS RX5 84 "java/lang/IndexOutOfBoundsException" ["java/lang/RuntimeException", "java/lang/Exception"]).filter goodWord)
def wsL_setFile_r1 : List Cond := [Cond.classLink RL 23 "java/lang/IndexOutOfBoundsException", Cond.classLink RL 13 "java/lang/IllegalArgumentException", Cond.methodLink RL 29 yX5_setFile, Cond.instanceMethod yX5_setFile, Cond.selects RX5 yX5_setFile yX5_setFile, Cond.initialized RX5, Cond.code yX5_setFile cX5_setFile 6 (some .int), Cond.classLink RX5 63 "java/lang/IllegalArgumentException", Cond.initialized "java/lang/IllegalArgumentException", Cond.fieldLink RX5 109 "LogSpooler$LogFile" "sumOfLengths" "I", Cond.methodLink RX5 99 yX5_fileAt, Cond.instanceMethod yX5_fileAt, Cond.selects RX5 yX5_fileAt yX5_fileAt, Cond.code yX5_fileAt cX5_fileAt 2 (some (.object "LogSpooler$LogFile")), Cond.classLink RX5 80 "java/lang/IndexOutOfBoundsException", Cond.initialized "java/lang/IndexOutOfBoundsException", Cond.fieldLink RX5 23 "LogSpooler" "files" "[LLogSpooler$LogFile;", Cond.methodLink RX5 59 yX5_isWithin, Cond.static yX5_isWithin, Cond.code yX5_isWithin cX5_isWithin 3 (some .boolean), Cond.methodLink RX5 105 yX2_limit, Cond.instanceMethod yX2_limit, Cond.selects RX2 yX2_limit yX2_limit, Cond.initialized RX2]
def wsL_setFile_r2 : List Cond := [Cond.code yX2_limit cX2_limit 4 none, Cond.fieldLink RX2 22 "LogSpooler$LogFile" "greatestSize" "I", Cond.fieldLink RX2 25 "LogSpooler$LogFile" "age" "I", Cond.fieldLink RX2 28 "LogSpooler$LogFile" "kept" "I", Cond.fieldLink RX2 37 "LogSpooler$LogFile" "olderOnes" "I"]
def wsL_setFile : List Cond := .codeWith yL_setFile cL_setFile 7 (some .int) [(0, 14, 17, 23), (0, 14, 21, 13)] :: ((wsL_setFile_r1 ++ wsL_setFile_r2) ++ wsX20 ++ wsX50 ++ (vx_atS RX5 67 "java/lang/IllegalArgumentException" ["java/lang/RuntimeException", "java/lang/Exception"]).filter goodWord ++ (vx_atS RX5 84 "java/lang/IndexOutOfBoundsException" ["java/lang/RuntimeException", "java/lang/Exception"]).filter goodWord)
def wsL_message_r1 : List Cond := [Cond.classLink RL 23 "java/lang/IndexOutOfBoundsException", Cond.classLink RL 13 "java/lang/IllegalArgumentException", Cond.classLink RL 36 "java/lang/IllegalStateException", Cond.methodLink RL 33 yX5_message, Cond.instanceMethod yX5_message, Cond.selects RX5 yX5_message yX5_message, Cond.initialized RX5, Cond.code yX5_message cX5_message 8 (some .int), Cond.classLink RX5 63 "java/lang/IllegalArgumentException", Cond.initialized "java/lang/IllegalArgumentException", Cond.classLink RX5 122 "java/lang/IllegalStateException", Cond.initialized "java/lang/IllegalStateException", Cond.fieldLink RX5 37 "LogSpooler" "ledger" "LLogSpooler$Ledger;", Cond.fieldLink RX5 51 "LogSpooler" "foldTime" "I", Cond.fieldLink RX5 41 "LogSpooler" "now" "I", Cond.fieldLink RX5 142 "LogSpooler$Sender" "tokensLeft" "I", Cond.fieldLink RX5 145 "LogSpooler$Sender" "untoldDrops" "I", Cond.fieldLink RX5 154 "LogSpooler$Ledger" "entries" "I", Cond.methodLink RX5 112 yX5_senderAt, Cond.instanceMethod yX5_senderAt, Cond.selects RX5 yX5_senderAt yX5_senderAt, Cond.code yX5_senderAt cX5_senderAt 2 (some (.object "LogSpooler$Sender")), Cond.classLink RX5 80 "java/lang/IndexOutOfBoundsException", Cond.initialized "java/lang/IndexOutOfBoundsException"]
def wsL_message_r2 : List Cond := [Cond.fieldLink RX5 11 "LogSpooler" "senders" "[LLogSpooler$Sender;", Cond.methodLink RX5 59 yX5_isWithin, Cond.static yX5_isWithin, Cond.code yX5_isWithin cX5_isWithin 3 (some .boolean), Cond.methodLink RX5 118 yX1_isFull, Cond.instanceMethod yX1_isFull, Cond.selects RX1 yX1_isFull yX1_isFull, Cond.initialized RX1, Cond.code yX1_isFull cX1_isFull 1 (some .boolean), Cond.fieldLink RX1 18 "LogSpooler$Ledger" "entries" "I", Cond.methodLink RX5 127 yX4_lastIs, Cond.instanceMethod yX4_lastIs, Cond.selects RX4 yX4_lastIs yX4_lastIs, Cond.initialized RX4, Cond.code yX4_lastIs cX4_lastIs 5 (some .boolean), Cond.fieldLink RX4 21 "LogSpooler$Sender" "lastFacility" "I", Cond.fieldLink RX4 24 "LogSpooler$Sender" "lastSeverity" "I", Cond.fieldLink RX4 27 "LogSpooler$Sender" "lastText" "I", Cond.fieldLink RX4 30 "LogSpooler$Sender" "lastLength" "I", Cond.methodLink RX5 131 yX4_countRepeat, Cond.instanceMethod yX4_countRepeat, Cond.selects RX4 yX4_countRepeat yX4_countRepeat, Cond.code yX4_countRepeat cX4_countRepeat 2 none, Cond.fieldLink RX4 9 "LogSpooler$Sender" "untoldRepeats" "I"]
def wsL_message_r3 : List Cond := [Cond.fieldLink RX4 15 "LogSpooler$Sender" "firstRepeat" "I", Cond.methodLink RX5 134 yX1_enter, Cond.instanceMethod yX1_enter, Cond.selects RX1 yX1_enter yX1_enter, Cond.code yX1_enter cX1_enter 3 (some .int), Cond.fieldLink RX1 9 "LogSpooler$Ledger" "fates" "[I", Cond.fieldLink RX1 15 "LogSpooler$Ledger" "targetSets" "[I", Cond.methodLink RX5 138 yX5_tellRepeats, Cond.instanceMethod yX5_tellRepeats, Cond.selects RX5 yX5_tellRepeats yX5_tellRepeats, Cond.code yX5_tellRepeats cX5_tellRepeats 3 none, Cond.fieldLink RX5 207 "LogSpooler$Sender" "untoldRepeats" "I", Cond.fieldLink RX5 251 "LogSpooler$Sender" "number" "I", Cond.fieldLink RX5 254 "LogSpooler$Sender" "lastFacility" "I", Cond.fieldLink RX5 257 "LogSpooler$Sender" "lastSeverity" "I", Cond.methodLink RX5 157 yX5_route, Cond.instanceMethod yX5_route, Cond.selects RX5 yX5_route yX5_route, Cond.code yX5_route cX5_route 10 (some .int), Cond.fieldLink RX5 17 "LogSpooler" "rules" "[LLogSpooler$Rule;", Cond.fieldLink RX5 261 "LogSpooler$Rule" "target" "I", Cond.fieldLink RX5 23 "LogSpooler" "files" "[LLogSpooler$LogFile;", Cond.fieldLink RX5 30 "LogSpooler" "forwarder" "LLogSpooler$Forwarder;", Cond.methodLink RX5 264 yX3_fits]
def wsL_message_r4 : List Cond := [Cond.instanceMethod yX3_fits, Cond.selects RX3 yX3_fits yX3_fits, Cond.initialized RX3, Cond.code yX3_fits cX3_fits 4 (some .boolean), Cond.fieldLink RX3 9 "LogSpooler$Rule" "isSet" "Z", Cond.fieldLink RX3 15 "LogSpooler$Rule" "facilities" "I", Cond.fieldLink RX3 19 "LogSpooler$Rule" "severity" "I", Cond.fieldLink RX3 22 "LogSpooler$Rule" "sender" "I", Cond.methodLink RX5 267 yX2_add, Cond.instanceMethod yX2_add, Cond.selects RX2 yX2_add yX2_add, Cond.initialized RX2, Cond.code yX2_add cX2_add 4 none, Cond.fieldLink RX2 34 "LogSpooler$LogFile" "sumOfLengths" "I", Cond.fieldLink RX2 22 "LogSpooler$LogFile" "greatestSize" "I", Cond.fieldLink RX2 31 "LogSpooler$LogFile" "firstCame" "I", Cond.fieldLink RX2 18 "LogSpooler$LogFile" "end" "I", Cond.fieldLink RX2 9 "LogSpooler$LogFile" "row" "[I", Cond.methodLink RX2 43 yX2_isEmpty, Cond.instanceMethod yX2_isEmpty, Cond.selects RX2 yX2_isEmpty yX2_isEmpty, Cond.code yX2_isEmpty cX2_isEmpty 1 (some .boolean), Cond.fieldLink RX2 15 "LogSpooler$LogFile" "starts" "[I", Cond.methodLink RX2 47 yX2_turnOver]
def wsL_message_r5 : List Cond := [Cond.instanceMethod yX2_turnOver, Cond.selects RX2 yX2_turnOver yX2_turnOver, Cond.code yX2_turnOver cX2_turnOver 2 none, Cond.fieldLink RX2 40 "LogSpooler$LogFile" "rotations" "I", Cond.fieldLink RX2 37 "LogSpooler$LogFile" "olderOnes" "I", Cond.fieldLink RX2 28 "LogSpooler$LogFile" "kept" "I", Cond.methodLink RX5 270 yX0_take, Cond.instanceMethod yX0_take, Cond.selects RX0 yX0_take yX0_take, Cond.initialized RX0, Cond.code yX0_take cX0_take 2 none, Cond.fieldLink RX0 15 "LogSpooler$Forwarder" "end" "I", Cond.fieldLink RX0 22 "LogSpooler$Forwarder" "acknowledgedOnes" "I", Cond.fieldLink RX0 9 "LogSpooler$Forwarder" "row" "[I", Cond.fieldLink RX0 25 "LogSpooler$Forwarder" "lostOnes" "I", Cond.methodLink RX5 148 yX5_tellDrops, Cond.instanceMethod yX5_tellDrops, Cond.selects RX5 yX5_tellDrops yX5_tellDrops, Cond.code yX5_tellDrops cX5_tellDrops 3 none, Cond.constant RX5 260 (100000), Cond.methodLink RX5 151 yX4_setLast, Cond.instanceMethod yX4_setLast, Cond.selects RX4 yX4_setLast yX4_setLast, Cond.code yX4_setLast cX4_setLast 5 none]
def wsL_message : List Cond := .codeWith yL_message cL_message 8 (some .int) [(0, 16, 19, 23), (0, 16, 23, 13), (0, 16, 27, 36)] :: ((wsL_message_r1 ++ (wsL_message_r2 ++ (wsL_message_r3 ++ (wsL_message_r4 ++ wsL_message_r5)))) ++ wsX50 ++ wsX40 ++ wsX10 ++ wsX30 ++ wsX20 ++ wsX00 ++ (vx_atS RX5 67 "java/lang/IllegalArgumentException" ["java/lang/RuntimeException", "java/lang/Exception"]).filter goodWord ++ (vx_atS RX5 126 "java/lang/IllegalStateException" ["java/lang/RuntimeException", "java/lang/Exception"]).filter goodWord ++ (vx_atS RX5 84 "java/lang/IndexOutOfBoundsException" ["java/lang/RuntimeException", "java/lang/Exception"]).filter goodWord)
def wsL_pass_r1 : List Cond := [Cond.classLink RL 13 "java/lang/IllegalArgumentException", Cond.methodLink RL 38 yX5_pass, Cond.instanceMethod yX5_pass, Cond.selects RX5 yX5_pass yX5_pass, Cond.initialized RX5, Cond.code yX5_pass cX5_pass 4 (some .int), Cond.classLink RX5 63 "java/lang/IllegalArgumentException", Cond.initialized "java/lang/IllegalArgumentException", Cond.methodLink RX5 59 yX5_isWithin, Cond.static yX5_isWithin, Cond.code yX5_isWithin cX5_isWithin 3 (some .boolean), Cond.methodLink RX5 161 yX5_rotationsOfAllFiles, Cond.instanceMethod yX5_rotationsOfAllFiles, Cond.selects RX5 yX5_rotationsOfAllFiles yX5_rotationsOfAllFiles, Cond.code yX5_rotationsOfAllFiles cX5_rotationsOfAllFiles 3 (some .int), Cond.fieldLink RX5 23 "LogSpooler" "files" "[LLogSpooler$LogFile;", Cond.fieldLink RX5 295 "LogSpooler$LogFile" "rotations" "I", Cond.methodLink RX5 164 yX5_passOneSecond, Cond.instanceMethod yX5_passOneSecond, Cond.selects RX5 yX5_passOneSecond yX5_passOneSecond, Cond.code yX5_passOneSecond cX5_passOneSecond 1 none, Cond.fieldLink RX5 41 "LogSpooler" "now" "I", Cond.fieldLink RX5 48 "LogSpooler" "tokenTime" "I", Cond.methodLink RX5 273 yX5_giveTokens]
def wsL_pass_r2 : List Cond := [Cond.instanceMethod yX5_giveTokens, Cond.selects RX5 yX5_giveTokens yX5_giveTokens, Cond.code yX5_giveTokens cX5_giveTokens 2 none, Cond.fieldLink RX5 11 "LogSpooler" "senders" "[LLogSpooler$Sender;", Cond.fieldLink RX5 45 "LogSpooler" "burst" "I", Cond.methodLink RX5 282 yX4_gainToken, Cond.instanceMethod yX4_gainToken, Cond.selects RX4 yX4_gainToken yX4_gainToken, Cond.initialized RX4, Cond.code yX4_gainToken cX4_gainToken 2 none, Cond.fieldLink RX4 36 "LogSpooler$Sender" "tokensLeft" "I", Cond.methodLink RX5 276 yX5_tellDueRepeats, Cond.instanceMethod yX5_tellDueRepeats, Cond.selects RX5 yX5_tellDueRepeats yX5_tellDueRepeats, Cond.code yX5_tellDueRepeats cX5_tellDueRepeats 3 none, Cond.methodLink RX5 285 yX5_firstWithDueRepeats, Cond.instanceMethod yX5_firstWithDueRepeats, Cond.selects RX5 yX5_firstWithDueRepeats yX5_firstWithDueRepeats, Cond.code yX5_firstWithDueRepeats cX5_firstWithDueRepeats 5 (some (.object "LogSpooler$Sender")), Cond.fieldLink RX5 207 "LogSpooler$Sender" "untoldRepeats" "I", Cond.fieldLink RX5 289 "LogSpooler$Sender" "firstRepeat" "I", Cond.fieldLink RX5 51 "LogSpooler" "foldTime" "I", Cond.methodLink RX5 138 yX5_tellRepeats, Cond.instanceMethod yX5_tellRepeats]
def wsL_pass_r3 : List Cond := [Cond.selects RX5 yX5_tellRepeats yX5_tellRepeats, Cond.code yX5_tellRepeats cX5_tellRepeats 3 none, Cond.fieldLink RX5 251 "LogSpooler$Sender" "number" "I", Cond.fieldLink RX5 254 "LogSpooler$Sender" "lastFacility" "I", Cond.fieldLink RX5 257 "LogSpooler$Sender" "lastSeverity" "I", Cond.methodLink RX5 157 yX5_route, Cond.instanceMethod yX5_route, Cond.selects RX5 yX5_route yX5_route, Cond.code yX5_route cX5_route 10 (some .int), Cond.fieldLink RX5 17 "LogSpooler" "rules" "[LLogSpooler$Rule;", Cond.fieldLink RX5 261 "LogSpooler$Rule" "target" "I", Cond.fieldLink RX5 30 "LogSpooler" "forwarder" "LLogSpooler$Forwarder;", Cond.methodLink RX5 264 yX3_fits, Cond.instanceMethod yX3_fits, Cond.selects RX3 yX3_fits yX3_fits, Cond.initialized RX3, Cond.code yX3_fits cX3_fits 4 (some .boolean), Cond.fieldLink RX3 9 "LogSpooler$Rule" "isSet" "Z", Cond.fieldLink RX3 15 "LogSpooler$Rule" "facilities" "I", Cond.fieldLink RX3 19 "LogSpooler$Rule" "severity" "I", Cond.fieldLink RX3 22 "LogSpooler$Rule" "sender" "I", Cond.methodLink RX5 267 yX2_add, Cond.instanceMethod yX2_add, Cond.selects RX2 yX2_add yX2_add]
def wsL_pass_r4 : List Cond := [Cond.initialized RX2, Cond.code yX2_add cX2_add 4 none, Cond.fieldLink RX2 34 "LogSpooler$LogFile" "sumOfLengths" "I", Cond.fieldLink RX2 22 "LogSpooler$LogFile" "greatestSize" "I", Cond.fieldLink RX2 31 "LogSpooler$LogFile" "firstCame" "I", Cond.fieldLink RX2 18 "LogSpooler$LogFile" "end" "I", Cond.fieldLink RX2 9 "LogSpooler$LogFile" "row" "[I", Cond.methodLink RX2 43 yX2_isEmpty, Cond.instanceMethod yX2_isEmpty, Cond.selects RX2 yX2_isEmpty yX2_isEmpty, Cond.code yX2_isEmpty cX2_isEmpty 1 (some .boolean), Cond.fieldLink RX2 15 "LogSpooler$LogFile" "starts" "[I", Cond.methodLink RX2 47 yX2_turnOver, Cond.instanceMethod yX2_turnOver, Cond.selects RX2 yX2_turnOver yX2_turnOver, Cond.code yX2_turnOver cX2_turnOver 2 none, Cond.fieldLink RX2 40 "LogSpooler$LogFile" "rotations" "I", Cond.fieldLink RX2 37 "LogSpooler$LogFile" "olderOnes" "I", Cond.fieldLink RX2 28 "LogSpooler$LogFile" "kept" "I", Cond.methodLink RX5 270 yX0_take, Cond.instanceMethod yX0_take, Cond.selects RX0 yX0_take yX0_take, Cond.initialized RX0, Cond.code yX0_take cX0_take 2 none]
def wsL_pass_r5 : List Cond := [Cond.fieldLink RX0 15 "LogSpooler$Forwarder" "end" "I", Cond.fieldLink RX0 22 "LogSpooler$Forwarder" "acknowledgedOnes" "I", Cond.fieldLink RX0 9 "LogSpooler$Forwarder" "row" "[I", Cond.fieldLink RX0 25 "LogSpooler$Forwarder" "lostOnes" "I", Cond.methodLink RX5 279 yX5_rotateAgedFiles, Cond.instanceMethod yX5_rotateAgedFiles, Cond.selects RX5 yX5_rotateAgedFiles yX5_rotateAgedFiles, Cond.code yX5_rotateAgedFiles cX5_rotateAgedFiles 2 none, Cond.methodLink RX5 292 yX2_isAged, Cond.instanceMethod yX2_isAged, Cond.selects RX2 yX2_isAged yX2_isAged, Cond.code yX2_isAged cX2_isAged 2 (some .boolean), Cond.fieldLink RX2 25 "LogSpooler$LogFile" "age" "I", Cond.methodLink RX5 172 yX2_turnOver]
def wsL_pass : List Cond := .codeWith yL_pass cL_pass 4 (some .int) [(0, 9, 12, 13)] :: ((wsL_pass_r1 ++ (wsL_pass_r2 ++ (wsL_pass_r3 ++ (wsL_pass_r4 ++ wsL_pass_r5)))) ++ wsX50 ++ wsX20 ++ wsX40 ++ wsX30 ++ wsX00 ++ (vx_atS RX5 67 "java/lang/IllegalArgumentException" ["java/lang/RuntimeException", "java/lang/Exception"]).filter goodWord)
def wsL_rotate_r1 : List Cond := [Cond.classLink RL 23 "java/lang/IndexOutOfBoundsException", Cond.classLink RL 36 "java/lang/IllegalStateException", Cond.methodLink RL 41 yX5_rotate, Cond.instanceMethod yX5_rotate, Cond.selects RX5 yX5_rotate yX5_rotate, Cond.initialized RX5, Cond.code yX5_rotate cX5_rotate 3 (some .int), Cond.classLink RX5 122 "java/lang/IllegalStateException", Cond.initialized "java/lang/IllegalStateException", Cond.fieldLink RX5 175 "LogSpooler$LogFile" "olderOnes" "I", Cond.methodLink RX5 99 yX5_fileAt, Cond.instanceMethod yX5_fileAt, Cond.selects RX5 yX5_fileAt yX5_fileAt, Cond.code yX5_fileAt cX5_fileAt 2 (some (.object "LogSpooler$LogFile")), Cond.classLink RX5 80 "java/lang/IndexOutOfBoundsException", Cond.initialized "java/lang/IndexOutOfBoundsException", Cond.fieldLink RX5 23 "LogSpooler" "files" "[LLogSpooler$LogFile;", Cond.methodLink RX5 167 yX2_isEmpty, Cond.instanceMethod yX2_isEmpty, Cond.selects RX2 yX2_isEmpty yX2_isEmpty, Cond.initialized RX2, Cond.code yX2_isEmpty cX2_isEmpty 1 (some .boolean), Cond.fieldLink RX2 18 "LogSpooler$LogFile" "end" "I", Cond.fieldLink RX2 15 "LogSpooler$LogFile" "starts" "[I"]
def wsL_rotate_r2 : List Cond := [Cond.methodLink RX5 172 yX2_turnOver, Cond.instanceMethod yX2_turnOver, Cond.selects RX2 yX2_turnOver yX2_turnOver, Cond.code yX2_turnOver cX2_turnOver 2 none, Cond.fieldLink RX2 34 "LogSpooler$LogFile" "sumOfLengths" "I", Cond.fieldLink RX2 40 "LogSpooler$LogFile" "rotations" "I", Cond.fieldLink RX2 37 "LogSpooler$LogFile" "olderOnes" "I", Cond.fieldLink RX2 28 "LogSpooler$LogFile" "kept" "I"]
def wsL_rotate : List Cond := .codeWith yL_rotate cL_rotate 4 (some .int) [(0, 9, 12, 23), (0, 9, 15, 36)] :: ((wsL_rotate_r1 ++ wsL_rotate_r2) ++ wsX20 ++ wsX50 ++ (vx_atS RX5 126 "java/lang/IllegalStateException" ["java/lang/RuntimeException", "java/lang/Exception"]).filter goodWord ++ (vx_atS RX5 84 "java/lang/IndexOutOfBoundsException" ["java/lang/RuntimeException", "java/lang/Exception"]).filter goodWord)
def wsL_connect : List Cond := .codeWith yL_connect cL_connect 3 (some .int) [(0, 8, 11, 36)] :: ([.classLink RL 36 "java/lang/IllegalStateException", .methodLink RL 44 yX5_connect, .instanceMethod yX5_connect, .selects RX5 yX5_connect yX5_connect, .initialized RX5, .code yX5_connect cX5_connect 1 (some .int), .classLink RX5 122 "java/lang/IllegalStateException", .initialized "java/lang/IllegalStateException", .fieldLink RX5 30 "LogSpooler" "forwarder" "LLogSpooler$Forwarder;", .fieldLink RX5 178 "LogSpooler$Forwarder" "isConnected" "Z", .methodLink RX5 183 yX0_waiting, .instanceMethod yX0_waiting, .selects RX0 yX0_waiting yX0_waiting, .initialized RX0, .code yX0_waiting cX0_waiting 1 (some .int), .fieldLink RX0 15 "LogSpooler$Forwarder" "end" "I", .fieldLink RX0 19 "LogSpooler$Forwarder" "firstQueued" "I"] ++ wsX50 ++ wsX00 ++ (vx_atS RX5 126 "java/lang/IllegalStateException" ["java/lang/RuntimeException", "java/lang/Exception"]).filter goodWord)
def wsL_disconnect : List Cond := .codeWith yL_disconnect cL_disconnect 3 (some .int) [(0, 8, 11, 36)] :: ([.classLink RL 36 "java/lang/IllegalStateException", .methodLink RL 48 yX5_disconnect, .instanceMethod yX5_disconnect, .selects RX5 yX5_disconnect yX5_disconnect, .initialized RX5, .code yX5_disconnect cX5_disconnect 2 (some .int), .classLink RX5 122 "java/lang/IllegalStateException", .initialized "java/lang/IllegalStateException", .fieldLink RX5 30 "LogSpooler" "forwarder" "LLogSpooler$Forwarder;", .fieldLink RX5 178 "LogSpooler$Forwarder" "isConnected" "Z", .methodLink RX5 188 yX0_flying, .instanceMethod yX0_flying, .selects RX0 yX0_flying yX0_flying, .initialized RX0, .code yX0_flying cX0_flying 1 (some .int), .fieldLink RX0 19 "LogSpooler$Forwarder" "firstQueued" "I", .fieldLink RX0 22 "LogSpooler$Forwarder" "acknowledgedOnes" "I", .methodLink RX5 191 yX0_loseConnection, .instanceMethod yX0_loseConnection, .selects RX0 yX0_loseConnection yX0_loseConnection, .code yX0_loseConnection cX0_loseConnection 1 none, .fieldLink RX0 28 "LogSpooler$Forwarder" "isConnected" "Z"] ++ wsX50 ++ wsX00 ++ (vx_atS RX5 126 "java/lang/IllegalStateException" ["java/lang/RuntimeException", "java/lang/Exception"]).filter goodWord)
def wsL_send_r1 : List Cond := [Cond.classLink RL 36 "java/lang/IllegalStateException", Cond.methodLink RL 51 yX5_send, Cond.instanceMethod yX5_send, Cond.selects RX5 yX5_send yX5_send, Cond.initialized RX5, Cond.code yX5_send cX5_send 1 (some .int), Cond.classLink RX5 122 "java/lang/IllegalStateException", Cond.initialized "java/lang/IllegalStateException", Cond.fieldLink RX5 30 "LogSpooler" "forwarder" "LLogSpooler$Forwarder;", Cond.methodLink RX5 194 yX0_canSend, Cond.instanceMethod yX0_canSend, Cond.selects RX0 yX0_canSend yX0_canSend, Cond.initialized RX0, Cond.code yX0_canSend cX0_canSend 1 (some .boolean), Cond.fieldLink RX0 28 "LogSpooler$Forwarder" "isConnected" "Z", Cond.methodLink RX0 32 yX0_waiting, Cond.instanceMethod yX0_waiting, Cond.selects RX0 yX0_waiting yX0_waiting, Cond.code yX0_waiting cX0_waiting 1 (some .int), Cond.fieldLink RX0 15 "LogSpooler$Forwarder" "end" "I", Cond.fieldLink RX0 19 "LogSpooler$Forwarder" "firstQueued" "I", Cond.methodLink RX0 36 yX0_flying, Cond.instanceMethod yX0_flying, Cond.selects RX0 yX0_flying yX0_flying]
def wsL_send_r2 : List Cond := [Cond.code yX0_flying cX0_flying 1 (some .int), Cond.fieldLink RX0 22 "LogSpooler$Forwarder" "acknowledgedOnes" "I", Cond.methodLink RX5 199 yX0_sendFirst, Cond.instanceMethod yX0_sendFirst, Cond.selects RX0 yX0_sendFirst yX0_sendFirst, Cond.code yX0_sendFirst cX0_sendFirst 2 (some .int), Cond.methodLink RX0 39 yX0_lineAt, Cond.instanceMethod yX0_lineAt, Cond.selects RX0 yX0_lineAt yX0_lineAt, Cond.code yX0_lineAt cX0_lineAt 2 (some .int), Cond.fieldLink RX0 9 "LogSpooler$Forwarder" "row" "[I"]
def wsL_send : List Cond := .codeWith yL_send cL_send 3 (some .int) [(0, 8, 11, 36)] :: ((wsL_send_r1 ++ wsL_send_r2) ++ wsX50 ++ wsX00 ++ (vx_atS RX5 126 "java/lang/IllegalStateException" ["java/lang/RuntimeException", "java/lang/Exception"]).filter goodWord)
def wsL_acknowledge_r1 : List Cond := [Cond.classLink RL 36 "java/lang/IllegalStateException", Cond.methodLink RL 54 yX5_acknowledge, Cond.instanceMethod yX5_acknowledge, Cond.selects RX5 yX5_acknowledge yX5_acknowledge, Cond.initialized RX5, Cond.code yX5_acknowledge cX5_acknowledge 1 (some .int), Cond.classLink RX5 122 "java/lang/IllegalStateException", Cond.initialized "java/lang/IllegalStateException", Cond.fieldLink RX5 30 "LogSpooler" "forwarder" "LLogSpooler$Forwarder;", Cond.methodLink RX5 188 yX0_flying, Cond.instanceMethod yX0_flying, Cond.selects RX0 yX0_flying yX0_flying, Cond.initialized RX0, Cond.code yX0_flying cX0_flying 1 (some .int), Cond.fieldLink RX0 19 "LogSpooler$Forwarder" "firstQueued" "I", Cond.fieldLink RX0 22 "LogSpooler$Forwarder" "acknowledgedOnes" "I", Cond.methodLink RX5 204 yX0_acknowledgeFirst, Cond.instanceMethod yX0_acknowledgeFirst, Cond.selects RX0 yX0_acknowledgeFirst yX0_acknowledgeFirst, Cond.code yX0_acknowledgeFirst cX0_acknowledgeFirst 2 (some .int), Cond.methodLink RX0 39 yX0_lineAt, Cond.instanceMethod yX0_lineAt, Cond.selects RX0 yX0_lineAt yX0_lineAt, Cond.code yX0_lineAt cX0_lineAt 2 (some .int)]
def wsL_acknowledge_r2 : List Cond := [Cond.fieldLink RX0 9 "LogSpooler$Forwarder" "row" "[I"]
def wsL_acknowledge : List Cond := .codeWith yL_acknowledge cL_acknowledge 3 (some .int) [(0, 8, 11, 36)] :: ((wsL_acknowledge_r1 ++ wsL_acknowledge_r2) ++ wsX50 ++ wsX00 ++ (vx_atS RX5 126 "java/lang/IllegalStateException" ["java/lang/RuntimeException", "java/lang/Exception"]).filter goodWord)
def wsL_tokens : List Cond := .codeWith yL_tokens cL_tokens 4 (some .int) [(0, 9, 12, 23)] :: ([.classLink RL 23 "java/lang/IndexOutOfBoundsException", .methodLink RL 57 yX5_tokens, .instanceMethod yX5_tokens, .selects RX5 yX5_tokens yX5_tokens, .initialized RX5, .code yX5_tokens cX5_tokens 2 (some .int), .fieldLink RX5 142 "LogSpooler$Sender" "tokensLeft" "I", .methodLink RX5 112 yX5_senderAt, .instanceMethod yX5_senderAt, .selects RX5 yX5_senderAt yX5_senderAt, .code yX5_senderAt cX5_senderAt 2 (some (.object "LogSpooler$Sender")), .classLink RX5 80 "java/lang/IndexOutOfBoundsException", .initialized "java/lang/IndexOutOfBoundsException", .fieldLink RX5 11 "LogSpooler" "senders" "[LLogSpooler$Sender;"] ++ wsX40 ++ wsX50 ++ (vx_atS RX5 84 "java/lang/IndexOutOfBoundsException" ["java/lang/RuntimeException", "java/lang/Exception"]).filter goodWord)
def wsL_repeats : List Cond := .codeWith yL_repeats cL_repeats 4 (some .int) [(0, 9, 12, 23)] :: ([.classLink RL 23 "java/lang/IndexOutOfBoundsException", .methodLink RL 60 yX5_repeats, .instanceMethod yX5_repeats, .selects RX5 yX5_repeats yX5_repeats, .initialized RX5, .code yX5_repeats cX5_repeats 2 (some .int), .fieldLink RX5 207 "LogSpooler$Sender" "untoldRepeats" "I", .methodLink RX5 112 yX5_senderAt, .instanceMethod yX5_senderAt, .selects RX5 yX5_senderAt yX5_senderAt, .code yX5_senderAt cX5_senderAt 2 (some (.object "LogSpooler$Sender")), .classLink RX5 80 "java/lang/IndexOutOfBoundsException", .initialized "java/lang/IndexOutOfBoundsException", .fieldLink RX5 11 "LogSpooler" "senders" "[LLogSpooler$Sender;"] ++ wsX40 ++ wsX50 ++ (vx_atS RX5 84 "java/lang/IndexOutOfBoundsException" ["java/lang/RuntimeException", "java/lang/Exception"]).filter goodWord)
def wsL_drops : List Cond := .codeWith yL_drops cL_drops 4 (some .int) [(0, 9, 12, 23)] :: ([.classLink RL 23 "java/lang/IndexOutOfBoundsException", .methodLink RL 63 yX5_drops, .instanceMethod yX5_drops, .selects RX5 yX5_drops yX5_drops, .initialized RX5, .code yX5_drops cX5_drops 2 (some .int), .fieldLink RX5 145 "LogSpooler$Sender" "untoldDrops" "I", .methodLink RX5 112 yX5_senderAt, .instanceMethod yX5_senderAt, .selects RX5 yX5_senderAt yX5_senderAt, .code yX5_senderAt cX5_senderAt 2 (some (.object "LogSpooler$Sender")), .classLink RX5 80 "java/lang/IndexOutOfBoundsException", .initialized "java/lang/IndexOutOfBoundsException", .fieldLink RX5 11 "LogSpooler" "senders" "[LLogSpooler$Sender;"] ++ wsX40 ++ wsX50 ++ (vx_atS RX5 84 "java/lang/IndexOutOfBoundsException" ["java/lang/RuntimeException", "java/lang/Exception"]).filter goodWord)
def wsL_size : List Cond := .codeWith yL_size cL_size 4 (some .int) [(0, 9, 12, 23)] :: ([.classLink RL 23 "java/lang/IndexOutOfBoundsException", .methodLink RL 66 yX5_size, .instanceMethod yX5_size, .selects RX5 yX5_size yX5_size, .initialized RX5, .code yX5_size cX5_size 2 (some .int), .fieldLink RX5 109 "LogSpooler$LogFile" "sumOfLengths" "I", .methodLink RX5 99 yX5_fileAt, .instanceMethod yX5_fileAt, .selects RX5 yX5_fileAt yX5_fileAt, .code yX5_fileAt cX5_fileAt 2 (some (.object "LogSpooler$LogFile")), .classLink RX5 80 "java/lang/IndexOutOfBoundsException", .initialized "java/lang/IndexOutOfBoundsException", .fieldLink RX5 23 "LogSpooler" "files" "[LLogSpooler$LogFile;"] ++ wsX20 ++ wsX50 ++ (vx_atS RX5 84 "java/lang/IndexOutOfBoundsException" ["java/lang/RuntimeException", "java/lang/Exception"]).filter goodWord)
def wsL_lines_r1 : List Cond := [Cond.classLink RL 23 "java/lang/IndexOutOfBoundsException", Cond.methodLink RL 69 yX5_lines, Cond.instanceMethod yX5_lines, Cond.selects RX5 yX5_lines yX5_lines, Cond.initialized RX5, Cond.code yX5_lines cX5_lines 4 (some .int), Cond.classLink RX5 80 "java/lang/IndexOutOfBoundsException", Cond.initialized "java/lang/IndexOutOfBoundsException", Cond.methodLink RX5 99 yX5_fileAt, Cond.instanceMethod yX5_fileAt, Cond.selects RX5 yX5_fileAt yX5_fileAt, Cond.code yX5_fileAt cX5_fileAt 2 (some (.object "LogSpooler$LogFile")), Cond.fieldLink RX5 23 "LogSpooler" "files" "[LLogSpooler$LogFile;", Cond.methodLink RX5 210 yX2_has, Cond.instanceMethod yX2_has, Cond.selects RX2 yX2_has yX2_has, Cond.initialized RX2, Cond.code yX2_has cX2_has 2 (some .boolean), Cond.fieldLink RX2 37 "LogSpooler$LogFile" "olderOnes" "I", Cond.methodLink RX5 216 yX2_linesOf, Cond.instanceMethod yX2_linesOf, Cond.selects RX2 yX2_linesOf yX2_linesOf, Cond.code yX2_linesOf cX2_linesOf 3 (some .int), Cond.fieldLink RX2 18 "LogSpooler$LogFile" "end" "I"]
def wsL_lines_r2 : List Cond := [Cond.methodLink RX2 50 yX2_startOf, Cond.instanceMethod yX2_startOf, Cond.selects RX2 yX2_startOf yX2_startOf, Cond.code yX2_startOf cX2_startOf 3 (some .int), Cond.fieldLink RX2 15 "LogSpooler$LogFile" "starts" "[I"]
def wsL_lines : List Cond := .codeWith yL_lines cL_lines 5 (some .int) [(0, 10, 13, 23)] :: ((wsL_lines_r1 ++ wsL_lines_r2) ++ wsX50 ++ wsX20 ++ (vx_atS RX5 84 "java/lang/IndexOutOfBoundsException" ["java/lang/RuntimeException", "java/lang/Exception"]).filter goodWord)
def wsL_line_r1 : List Cond := [Cond.classLink RL 23 "java/lang/IndexOutOfBoundsException", Cond.methodLink RL 72 yX5_line, Cond.instanceMethod yX5_line, Cond.selects RX5 yX5_line yX5_line, Cond.initialized RX5, Cond.code yX5_line cX5_line 5 (some .int), Cond.classLink RX5 80 "java/lang/IndexOutOfBoundsException", Cond.initialized "java/lang/IndexOutOfBoundsException", Cond.methodLink RX5 99 yX5_fileAt, Cond.instanceMethod yX5_fileAt, Cond.selects RX5 yX5_fileAt yX5_fileAt, Cond.code yX5_fileAt cX5_fileAt 2 (some (.object "LogSpooler$LogFile")), Cond.fieldLink RX5 23 "LogSpooler" "files" "[LLogSpooler$LogFile;", Cond.methodLink RX5 210 yX2_has, Cond.instanceMethod yX2_has, Cond.selects RX2 yX2_has yX2_has, Cond.initialized RX2, Cond.code yX2_has cX2_has 2 (some .boolean), Cond.fieldLink RX2 37 "LogSpooler$LogFile" "olderOnes" "I", Cond.methodLink RX5 216 yX2_linesOf, Cond.instanceMethod yX2_linesOf, Cond.selects RX2 yX2_linesOf yX2_linesOf, Cond.code yX2_linesOf cX2_linesOf 3 (some .int), Cond.fieldLink RX2 18 "LogSpooler$LogFile" "end" "I"]
def wsL_line_r2 : List Cond := [Cond.methodLink RX2 50 yX2_startOf, Cond.instanceMethod yX2_startOf, Cond.selects RX2 yX2_startOf yX2_startOf, Cond.code yX2_startOf cX2_startOf 3 (some .int), Cond.fieldLink RX2 15 "LogSpooler$LogFile" "starts" "[I", Cond.methodLink RX5 59 yX5_isWithin, Cond.static yX5_isWithin, Cond.code yX5_isWithin cX5_isWithin 3 (some .boolean), Cond.methodLink RX5 222 yX2_lineAt, Cond.instanceMethod yX2_lineAt, Cond.selects RX2 yX2_lineAt yX2_lineAt, Cond.code yX2_lineAt cX2_lineAt 4 (some .int), Cond.fieldLink RX2 9 "LogSpooler$LogFile" "row" "[I"]
def wsL_line : List Cond := .codeWith yL_line cL_line 6 (some .int) [(0, 12, 15, 23)] :: ((wsL_line_r1 ++ wsL_line_r2) ++ wsX50 ++ wsX20 ++ (vx_atS RX5 84 "java/lang/IndexOutOfBoundsException" ["java/lang/RuntimeException", "java/lang/Exception"]).filter goodWord)
def wsL_generations : List Cond := .codeWith yL_generations cL_generations 4 (some .int) [(0, 9, 12, 23)] :: ([.classLink RL 23 "java/lang/IndexOutOfBoundsException", .methodLink RL 76 yX5_generations, .instanceMethod yX5_generations, .selects RX5 yX5_generations yX5_generations, .initialized RX5, .code yX5_generations cX5_generations 2 (some .int), .fieldLink RX5 175 "LogSpooler$LogFile" "olderOnes" "I", .methodLink RX5 99 yX5_fileAt, .instanceMethod yX5_fileAt, .selects RX5 yX5_fileAt yX5_fileAt, .code yX5_fileAt cX5_fileAt 2 (some (.object "LogSpooler$LogFile")), .classLink RX5 80 "java/lang/IndexOutOfBoundsException", .initialized "java/lang/IndexOutOfBoundsException", .fieldLink RX5 23 "LogSpooler" "files" "[LLogSpooler$LogFile;"] ++ wsX20 ++ wsX50 ++ (vx_atS RX5 84 "java/lang/IndexOutOfBoundsException" ["java/lang/RuntimeException", "java/lang/Exception"]).filter goodWord)
def wsL_fateOf : List Cond := .codeWith yL_fateOf cL_fateOf 4 (some .int) [(0, 9, 12, 23)] :: ([.classLink RL 23 "java/lang/IndexOutOfBoundsException", .methodLink RL 79 yX5_fateOf, .instanceMethod yX5_fateOf, .selects RX5 yX5_fateOf yX5_fateOf, .initialized RX5, .code yX5_fateOf cX5_fateOf 2 (some .int), .classLink RX5 80 "java/lang/IndexOutOfBoundsException", .initialized "java/lang/IndexOutOfBoundsException", .fieldLink RX5 37 "LogSpooler" "ledger" "LLogSpooler$Ledger;", .methodLink RX5 231 yX1_has, .instanceMethod yX1_has, .selects RX1 yX1_has yX1_has, .initialized RX1, .code yX1_has cX1_has 2 (some .boolean), .fieldLink RX1 18 "LogSpooler$Ledger" "entries" "I", .methodLink RX5 234 yX1_fateAt, .instanceMethod yX1_fateAt, .selects RX1 yX1_fateAt yX1_fateAt, .code yX1_fateAt cX1_fateAt 2 (some .int), .fieldLink RX1 9 "LogSpooler$Ledger" "fates" "[I"] ++ wsX50 ++ wsX10 ++ (vx_atS RX5 84 "java/lang/IndexOutOfBoundsException" ["java/lang/RuntimeException", "java/lang/Exception"]).filter goodWord)
def wsL_count : List Cond := .codeWith yL_count cL_count 4 (some .int) [(0, 9, 12, 23)] :: ([.classLink RL 23 "java/lang/IndexOutOfBoundsException", .methodLink RL 82 yX5_count, .instanceMethod yX5_count, .selects RX5 yX5_count yX5_count, .initialized RX5, .code yX5_count cX5_count 2 (some .int), .classLink RX5 80 "java/lang/IndexOutOfBoundsException", .initialized "java/lang/IndexOutOfBoundsException", .fieldLink RX5 37 "LogSpooler" "ledger" "LLogSpooler$Ledger;", .methodLink RX5 59 yX5_isWithin, .static yX5_isWithin, .code yX5_isWithin cX5_isWithin 3 (some .boolean), .methodLink RX5 239 yX1_entriesWith, .instanceMethod yX1_entriesWith, .selects RX1 yX1_entriesWith yX1_entriesWith, .initialized RX1, .code yX1_entriesWith cX1_entriesWith 4 (some .int), .fieldLink RX1 18 "LogSpooler$Ledger" "entries" "I", .fieldLink RX1 9 "LogSpooler$Ledger" "fates" "[I"] ++ wsX50 ++ wsX10 ++ (vx_atS RX5 84 "java/lang/IndexOutOfBoundsException" ["java/lang/RuntimeException", "java/lang/Exception"]).filter goodWord)
def wsL_targetsOf : List Cond := .codeWith yL_targetsOf cL_targetsOf 4 (some .int) [(0, 9, 12, 23)] :: ([.classLink RL 23 "java/lang/IndexOutOfBoundsException", .methodLink RL 85 yX5_targetsOf, .instanceMethod yX5_targetsOf, .selects RX5 yX5_targetsOf yX5_targetsOf, .initialized RX5, .code yX5_targetsOf cX5_targetsOf 2 (some .int), .classLink RX5 80 "java/lang/IndexOutOfBoundsException", .initialized "java/lang/IndexOutOfBoundsException", .fieldLink RX5 37 "LogSpooler" "ledger" "LLogSpooler$Ledger;", .methodLink RX5 231 yX1_has, .instanceMethod yX1_has, .selects RX1 yX1_has yX1_has, .initialized RX1, .code yX1_has cX1_has 2 (some .boolean), .fieldLink RX1 18 "LogSpooler$Ledger" "entries" "I", .methodLink RX5 242 yX1_targetsAt, .instanceMethod yX1_targetsAt, .selects RX1 yX1_targetsAt yX1_targetsAt, .code yX1_targetsAt cX1_targetsAt 2 (some .int), .fieldLink RX1 15 "LogSpooler$Ledger" "targetSets" "[I"] ++ wsX50 ++ wsX10 ++ (vx_atS RX5 84 "java/lang/IndexOutOfBoundsException" ["java/lang/RuntimeException", "java/lang/Exception"]).filter goodWord)
def wsL_law0_r1 : List Cond := [Cond.classLink RL 8 RX5, Cond.instantiable RX5 9, Cond.initialized RX5, Cond.classLink RL 89 RX6, Cond.instantiable RX6 34, Cond.initialized RX6, Cond.arrayClass .long, Cond.methodLink RL 88 yX5_init, Cond.instanceMethod yX5_init, Cond.code yX5_init cX5_init 2 none, Cond.methodLink RX5 3 objectInit, Cond.instanceMethod objectInit, Cond.code objectInit ⟨#[0xb1]⟩ 1 none, Cond.classLink RX5 9 RX4, Cond.fieldLink RX5 11 "LogSpooler" "senders" "[LLogSpooler$Sender;", Cond.classLink RX5 15 RX3, Cond.fieldLink RX5 17 "LogSpooler" "rules" "[LLogSpooler$Rule;", Cond.classLink RX5 21 RX2, Cond.fieldLink RX5 23 "LogSpooler" "files" "[LLogSpooler$LogFile;", Cond.classLink RX5 27 RX0, Cond.instantiable RX0 6, Cond.initialized RX0, Cond.fieldLink RX5 30 "LogSpooler" "forwarder" "LLogSpooler$Forwarder;", Cond.classLink RX5 34 RX1]
def wsL_law0_r2 : List Cond := [Cond.instantiable RX1 3, Cond.initialized RX1, Cond.fieldLink RX5 37 "LogSpooler" "ledger" "LLogSpooler$Ledger;", Cond.fieldLink RX5 41 "LogSpooler" "now" "I", Cond.fieldLink RX5 45 "LogSpooler" "burst" "I", Cond.fieldLink RX5 48 "LogSpooler" "tokenTime" "I", Cond.fieldLink RX5 51 "LogSpooler" "foldTime" "I", Cond.instantiable RX4 9, Cond.initialized RX4, Cond.instantiable RX3 5, Cond.initialized RX3, Cond.instantiable RX2 10, Cond.initialized RX2, Cond.instanceMethod yX0_init, Cond.code yX0_init cX0_init 1 none, Cond.methodLink RX0 3 objectInit, Cond.arrayClass .int, Cond.fieldLink RX0 9 "LogSpooler$Forwarder" "row" "[I", Cond.fieldLink RX0 15 "LogSpooler$Forwarder" "end" "I", Cond.fieldLink RX0 19 "LogSpooler$Forwarder" "firstQueued" "I", Cond.fieldLink RX0 22 "LogSpooler$Forwarder" "acknowledgedOnes" "I", Cond.fieldLink RX0 25 "LogSpooler$Forwarder" "lostOnes" "I", Cond.fieldLink RX0 28 "LogSpooler$Forwarder" "isConnected" "Z", Cond.instanceMethod yX1_init]
def wsL_law0_r3 : List Cond := [Cond.code yX1_init cX1_init 1 none, Cond.methodLink RX1 3 objectInit, Cond.fieldLink RX1 9 "LogSpooler$Ledger" "fates" "[I", Cond.fieldLink RX1 15 "LogSpooler$Ledger" "targetSets" "[I", Cond.fieldLink RX1 18 "LogSpooler$Ledger" "entries" "I", Cond.methodLink RX5 54 yX4_init, Cond.instanceMethod yX4_init, Cond.code yX4_init cX4_init 3 none, Cond.methodLink RX4 3 objectInit, Cond.fieldLink RX4 9 "LogSpooler$Sender" "untoldRepeats" "I", Cond.fieldLink RX4 15 "LogSpooler$Sender" "firstRepeat" "I", Cond.fieldLink RX4 18 "LogSpooler$Sender" "untoldDrops" "I", Cond.fieldLink RX4 21 "LogSpooler$Sender" "lastFacility" "I", Cond.fieldLink RX4 24 "LogSpooler$Sender" "lastSeverity" "I", Cond.fieldLink RX4 27 "LogSpooler$Sender" "lastText" "I", Cond.fieldLink RX4 30 "LogSpooler$Sender" "lastLength" "I", Cond.fieldLink RX4 33 "LogSpooler$Sender" "number" "I", Cond.fieldLink RX4 36 "LogSpooler$Sender" "tokensLeft" "I", Cond.instanceMethod yX3_init, Cond.code yX3_init cX3_init 1 none, Cond.methodLink RX3 3 objectInit, Cond.fieldLink RX3 9 "LogSpooler$Rule" "isSet" "Z", Cond.fieldLink RX3 15 "LogSpooler$Rule" "facilities" "I", Cond.fieldLink RX3 19 "LogSpooler$Rule" "severity" "I"]
def wsL_law0_r4 : List Cond := [Cond.fieldLink RX3 22 "LogSpooler$Rule" "sender" "I", Cond.fieldLink RX3 25 "LogSpooler$Rule" "target" "I", Cond.instanceMethod yX2_init, Cond.code yX2_init cX2_init 1 none, Cond.methodLink RX2 3 objectInit, Cond.fieldLink RX2 9 "LogSpooler$LogFile" "row" "[I", Cond.fieldLink RX2 15 "LogSpooler$LogFile" "starts" "[I", Cond.fieldLink RX2 18 "LogSpooler$LogFile" "end" "I", Cond.fieldLink RX2 22 "LogSpooler$LogFile" "greatestSize" "I", Cond.fieldLink RX2 25 "LogSpooler$LogFile" "age" "I", Cond.fieldLink RX2 28 "LogSpooler$LogFile" "kept" "I", Cond.fieldLink RX2 31 "LogSpooler$LogFile" "firstCame" "I", Cond.fieldLink RX2 34 "LogSpooler$LogFile" "sumOfLengths" "I", Cond.fieldLink RX2 37 "LogSpooler$LogFile" "olderOnes" "I", Cond.fieldLink RX2 40 "LogSpooler$LogFile" "rotations" "I", Cond.methodLink RL 91 yX6_init, Cond.instanceMethod yX6_init, Cond.code yX6_init cX6_init 2 none, Cond.methodLink RX6 1 objectInit, Cond.fieldLink RX6 7 "LogSpoolerModel" "burst" "I", Cond.fieldLink RX6 13 "LogSpoolerModel" "tokenTime" "I", Cond.fieldLink RX6 16 "LogSpoolerModel" "fold" "I", Cond.fieldLink RX6 19 "LogSpoolerModel" "tokens" "[I", Cond.fieldLink RX6 23 "LogSpoolerModel" "repeats" "[I"]
def wsL_law0_r5 : List Cond := [Cond.fieldLink RX6 26 "LogSpoolerModel" "firstRepeats" "[I", Cond.fieldLink RX6 29 "LogSpoolerModel" "drops" "[I", Cond.fieldLink RX6 32 "LogSpoolerModel" "lasts" "[I", Cond.arrayClass .boolean, Cond.fieldLink RX6 35 "LogSpoolerModel" "isSet" "[Z", Cond.fieldLink RX6 39 "LogSpoolerModel" "facilities" "[I", Cond.fieldLink RX6 42 "LogSpoolerModel" "severities" "[I", Cond.fieldLink RX6 45 "LogSpoolerModel" "senders" "[I", Cond.fieldLink RX6 48 "LogSpoolerModel" "targets" "[I", Cond.fieldLink RX6 51 "LogSpoolerModel" "most" "[I", Cond.fieldLink RX6 54 "LogSpoolerModel" "ages" "[I", Cond.fieldLink RX6 57 "LogSpoolerModel" "kept" "[I", Cond.fieldLink RX6 60 "LogSpoolerModel" "sizes" "[I", Cond.fieldLink RX6 63 "LogSpoolerModel" "ends" "[I", Cond.fieldLink RX6 66 "LogSpoolerModel" "generations" "[I", Cond.fieldLink RX6 69 "LogSpoolerModel" "starts" "[I", Cond.fieldLink RX6 72 "LogSpoolerModel" "lines" "[I", Cond.fieldLink RX6 75 "LogSpoolerModel" "times" "[I", Cond.fieldLink RX6 78 "LogSpoolerModel" "forwarded" "[I", Cond.fieldLink RX6 81 "LogSpoolerModel" "fates" "[I", Cond.fieldLink RX6 84 "LogSpoolerModel" "wentTo" "[I", Cond.methodLink RL 92 yL_setRate, Cond.static yL_setRate, Cond.initialized RL]
def wsL_law0_r6 : List Cond := [Cond.codeWith yL_setRate cL_setRate 5 (some .int) [(0, 10, 13, 13)], Cond.classLink RL 13 "java/lang/IllegalArgumentException", Cond.methodLink RL 7 yX5_setRate, Cond.instanceMethod yX5_setRate, Cond.selects RX5 yX5_setRate yX5_setRate, Cond.code yX5_setRate cX5_setRate 5 (some .int), Cond.classLink RX5 63 "java/lang/IllegalArgumentException", Cond.initialized "java/lang/IllegalArgumentException", Cond.methodLink RX5 59 yX5_isWithin, Cond.static yX5_isWithin, Cond.code yX5_isWithin cX5_isWithin 3 (some .boolean), Cond.methodLink RX5 70 yX4_capTokens, Cond.instanceMethod yX4_capTokens, Cond.selects RX4 yX4_capTokens yX4_capTokens, Cond.code yX4_capTokens cX4_capTokens 2 none, Cond.methodLink RL 97 yX6_setRate, Cond.instanceMethod yX6_setRate, Cond.selects RX6 yX6_setRate yX6_setRate, Cond.code yX6_setRate cX6_setRate 5 (some .int), Cond.methodLink RX6 90 yX6_isIn, Cond.static yX6_isIn, Cond.code yX6_isIn cX6_isIn 3 (some .boolean), Cond.methodLink RX6 94 yX6_holds, Cond.instanceMethod yX6_holds]
def wsL_law0_r7 : List Cond := [Cond.selects RX6 yX6_holds yX6_holds, Cond.code yX6_holds cX6_holds 2 (some .boolean), Cond.fieldLink RX6 87 "LogSpoolerModel" "thrown" "I", Cond.methodLink RL 98 yX6_thrown, Cond.instanceMethod yX6_thrown, Cond.selects RX6 yX6_thrown yX6_thrown, Cond.code yX6_thrown cX6_thrown 1 (some .int), Cond.methodLink RL 101 yL_setFold, Cond.static yL_setFold, Cond.codeWith yL_setFold cL_setFold 4 (some .int) [(0, 9, 12, 13)], Cond.methodLink RL 15 yX5_setFold, Cond.instanceMethod yX5_setFold, Cond.selects RX5 yX5_setFold yX5_setFold, Cond.code yX5_setFold cX5_setFold 3 (some .int), Cond.methodLink RL 104 yX6_setFold, Cond.instanceMethod yX6_setFold, Cond.selects RX6 yX6_setFold yX6_setFold, Cond.code yX6_setFold cX6_setFold 3 (some .int), Cond.methodLink RL 105 yL_setRule, Cond.static yL_setRule, Cond.codeWith yL_setRule cL_setRule 8 (some .int) [(0, 16, 19, 23), (0, 16, 23, 13)], Cond.classLink RL 23 "java/lang/IndexOutOfBoundsException", Cond.methodLink RL 19 yX5_setRule, Cond.instanceMethod yX5_setRule]
def wsL_law0_r8 : List Cond := [Cond.selects RX5 yX5_setRule yX5_setRule, Cond.code yX5_setRule cX5_setRule 7 (some .int), Cond.classLink RX5 80 "java/lang/IndexOutOfBoundsException", Cond.initialized "java/lang/IndexOutOfBoundsException", Cond.methodLink RX5 76 yX5_ruleAt, Cond.instanceMethod yX5_ruleAt, Cond.selects RX5 yX5_ruleAt yX5_ruleAt, Cond.code yX5_ruleAt cX5_ruleAt 2 (some (.object "LogSpooler$Rule")), Cond.methodLink RX5 87 yX3_put, Cond.instanceMethod yX3_put, Cond.selects RX3 yX3_put yX3_put, Cond.code yX3_put cX3_put 5 none, Cond.methodLink RX5 91 yX5_rulesThatAreSet, Cond.instanceMethod yX5_rulesThatAreSet, Cond.selects RX5 yX5_rulesThatAreSet yX5_rulesThatAreSet, Cond.code yX5_rulesThatAreSet cX5_rulesThatAreSet 3 (some .int), Cond.fieldLink RX5 95 "LogSpooler$Rule" "isSet" "Z", Cond.methodLink RL 108 yX6_setRule, Cond.instanceMethod yX6_setRule, Cond.selects RX6 yX6_setRule yX6_setRule, Cond.code yX6_setRule cX6_setRule 10 (some .int), Cond.methodLink RL 109 yL_removeRule, Cond.static yL_removeRule, Cond.codeWith yL_removeRule cL_removeRule 4 (some .int) [(0, 16, 19, 23)]]
def wsL_law0_r9 : List Cond := [Cond.methodLink RL 25 yX5_removeRule, Cond.instanceMethod yX5_removeRule, Cond.selects RX5 yX5_removeRule yX5_removeRule, Cond.code yX5_removeRule cX5_removeRule 4 (some .boolean), Cond.methodLink RL 111 yX6_removeRule, Cond.instanceMethod yX6_removeRule, Cond.selects RX6 yX6_removeRule yX6_removeRule, Cond.code yX6_removeRule cX6_removeRule 3 (some .boolean), Cond.methodLink RL 112 yL_setFile, Cond.static yL_setFile, Cond.codeWith yL_setFile cL_setFile 7 (some .int) [(0, 14, 17, 23), (0, 14, 21, 13)], Cond.methodLink RL 29 yX5_setFile, Cond.instanceMethod yX5_setFile, Cond.selects RX5 yX5_setFile yX5_setFile, Cond.code yX5_setFile cX5_setFile 6 (some .int), Cond.fieldLink RX5 109 "LogSpooler$LogFile" "sumOfLengths" "I", Cond.methodLink RX5 99 yX5_fileAt, Cond.instanceMethod yX5_fileAt, Cond.selects RX5 yX5_fileAt yX5_fileAt, Cond.code yX5_fileAt cX5_fileAt 2 (some (.object "LogSpooler$LogFile")), Cond.methodLink RX5 105 yX2_limit, Cond.instanceMethod yX2_limit, Cond.selects RX2 yX2_limit yX2_limit, Cond.code yX2_limit cX2_limit 4 none]
def wsL_law0_r10 : List Cond := [Cond.methodLink RL 115 yX6_setFile, Cond.instanceMethod yX6_setFile, Cond.selects RX6 yX6_setFile yX6_setFile, Cond.code yX6_setFile cX6_setFile 6 (some .int), Cond.methodLink RX6 98 yX6_isFile, Cond.static yX6_isFile, Cond.code yX6_isFile cX6_isFile 1 (some .boolean), Cond.methodLink RL 116 yL_message, Cond.static yL_message, Cond.codeWith yL_message cL_message 8 (some .int) [(0, 16, 19, 23), (0, 16, 23, 13), (0, 16, 27, 36)], Cond.classLink RL 36 "java/lang/IllegalStateException", Cond.methodLink RL 33 yX5_message, Cond.instanceMethod yX5_message, Cond.selects RX5 yX5_message yX5_message, Cond.code yX5_message cX5_message 8 (some .int), Cond.classLink RX5 122 "java/lang/IllegalStateException", Cond.initialized "java/lang/IllegalStateException", Cond.fieldLink RX5 142 "LogSpooler$Sender" "tokensLeft" "I", Cond.fieldLink RX5 145 "LogSpooler$Sender" "untoldDrops" "I", Cond.fieldLink RX5 154 "LogSpooler$Ledger" "entries" "I", Cond.methodLink RX5 112 yX5_senderAt, Cond.instanceMethod yX5_senderAt, Cond.selects RX5 yX5_senderAt yX5_senderAt, Cond.code yX5_senderAt cX5_senderAt 2 (some (.object "LogSpooler$Sender"))]
def wsL_law0_r11 : List Cond := [Cond.methodLink RX5 118 yX1_isFull, Cond.instanceMethod yX1_isFull, Cond.selects RX1 yX1_isFull yX1_isFull, Cond.code yX1_isFull cX1_isFull 1 (some .boolean), Cond.methodLink RX5 127 yX4_lastIs, Cond.instanceMethod yX4_lastIs, Cond.selects RX4 yX4_lastIs yX4_lastIs, Cond.code yX4_lastIs cX4_lastIs 5 (some .boolean), Cond.methodLink RX5 131 yX4_countRepeat, Cond.instanceMethod yX4_countRepeat, Cond.selects RX4 yX4_countRepeat yX4_countRepeat, Cond.code yX4_countRepeat cX4_countRepeat 2 none, Cond.methodLink RX5 134 yX1_enter, Cond.instanceMethod yX1_enter, Cond.selects RX1 yX1_enter yX1_enter, Cond.code yX1_enter cX1_enter 3 (some .int), Cond.methodLink RX5 138 yX5_tellRepeats, Cond.instanceMethod yX5_tellRepeats, Cond.selects RX5 yX5_tellRepeats yX5_tellRepeats, Cond.code yX5_tellRepeats cX5_tellRepeats 3 none, Cond.fieldLink RX5 207 "LogSpooler$Sender" "untoldRepeats" "I", Cond.fieldLink RX5 251 "LogSpooler$Sender" "number" "I", Cond.fieldLink RX5 254 "LogSpooler$Sender" "lastFacility" "I", Cond.fieldLink RX5 257 "LogSpooler$Sender" "lastSeverity" "I"]
def wsL_law0_r12 : List Cond := [Cond.methodLink RX5 157 yX5_route, Cond.instanceMethod yX5_route, Cond.selects RX5 yX5_route yX5_route, Cond.code yX5_route cX5_route 10 (some .int), Cond.fieldLink RX5 261 "LogSpooler$Rule" "target" "I", Cond.methodLink RX5 264 yX3_fits, Cond.instanceMethod yX3_fits, Cond.selects RX3 yX3_fits yX3_fits, Cond.code yX3_fits cX3_fits 4 (some .boolean), Cond.methodLink RX5 267 yX2_add, Cond.instanceMethod yX2_add, Cond.selects RX2 yX2_add yX2_add, Cond.code yX2_add cX2_add 4 none, Cond.methodLink RX2 43 yX2_isEmpty, Cond.instanceMethod yX2_isEmpty, Cond.selects RX2 yX2_isEmpty yX2_isEmpty, Cond.code yX2_isEmpty cX2_isEmpty 1 (some .boolean), Cond.methodLink RX2 47 yX2_turnOver, Cond.instanceMethod yX2_turnOver, Cond.selects RX2 yX2_turnOver yX2_turnOver, Cond.code yX2_turnOver cX2_turnOver 2 none, Cond.methodLink RX5 270 yX0_take, Cond.instanceMethod yX0_take, Cond.selects RX0 yX0_take yX0_take]
def wsL_law0_r13 : List Cond := [Cond.code yX0_take cX0_take 2 none, Cond.methodLink RX5 148 yX5_tellDrops, Cond.instanceMethod yX5_tellDrops, Cond.selects RX5 yX5_tellDrops yX5_tellDrops, Cond.code yX5_tellDrops cX5_tellDrops 3 none, Cond.constant RX5 260 (100000), Cond.methodLink RX5 151 yX4_setLast, Cond.instanceMethod yX4_setLast, Cond.selects RX4 yX4_setLast yX4_setLast, Cond.code yX4_setLast cX4_setLast 5 none, Cond.methodLink RL 118 yX6_message, Cond.instanceMethod yX6_message, Cond.selects RX6 yX6_message yX6_message, Cond.code yX6_message cX6_message 10 (some .int), Cond.fieldLink RX6 137 "LogSpoolerModel" "messages" "I", Cond.constant RX6 131 (160000), Cond.fieldLink RX6 112 "LogSpoolerModel" "time" "I", Cond.methodLink RX6 140 yX6_notes, Cond.instanceMethod yX6_notes, Cond.selects RX6 yX6_notes yX6_notes, Cond.code yX6_notes cX6_notes 3 (some .int), Cond.methodLink RX6 144 yX6_tellsRepeats, Cond.instanceMethod yX6_tellsRepeats, Cond.selects RX6 yX6_tellsRepeats yX6_tellsRepeats]
def wsL_law0_r14 : List Cond := [Cond.code yX6_tellsRepeats cX6_tellsRepeats 4 none, Cond.methodLink RX6 132 yX6_goes, Cond.instanceMethod yX6_goes, Cond.selects RX6 yX6_goes yX6_goes, Cond.code yX6_goes cX6_goes 9 (some .int), Cond.methodLink RX6 124 yX6_forwards, Cond.instanceMethod yX6_forwards, Cond.selects RX6 yX6_forwards yX6_forwards, Cond.code yX6_forwards cX6_forwards 2 none, Cond.fieldLink RX6 115 "LogSpoolerModel" "taken" "I", Cond.fieldLink RX6 118 "LogSpoolerModel" "acknowledged" "I", Cond.fieldLink RX6 121 "LogSpoolerModel" "lost" "I", Cond.methodLink RX6 127 yX6_comesTo, Cond.instanceMethod yX6_comesTo, Cond.selects RX6 yX6_comesTo yX6_comesTo, Cond.code yX6_comesTo cX6_comesTo 4 none, Cond.methodLink RX6 104 yX6_linesOf, Cond.instanceMethod yX6_linesOf, Cond.selects RX6 yX6_linesOf yX6_linesOf, Cond.code yX6_linesOf cX6_linesOf 2 (some .int), Cond.methodLink RX6 108 yX6_rotates, Cond.instanceMethod yX6_rotates, Cond.selects RX6 yX6_rotates yX6_rotates, Cond.code yX6_rotates cX6_rotates 4 none]
def wsL_law0_r15 : List Cond := [Cond.fieldLink RX6 101 "LogSpoolerModel" "rotations" "I", Cond.methodLink RX6 147 yX6_tellsDrops, Cond.instanceMethod yX6_tellsDrops, Cond.selects RX6 yX6_tellsDrops yX6_tellsDrops, Cond.code yX6_tellsDrops cX6_tellsDrops 4 none, Cond.constant RX6 136 (100000), Cond.methodLink RL 119 yL_pass, Cond.static yL_pass, Cond.codeWith yL_pass cL_pass 4 (some .int) [(0, 9, 12, 13)], Cond.methodLink RL 38 yX5_pass, Cond.instanceMethod yX5_pass, Cond.selects RX5 yX5_pass yX5_pass, Cond.code yX5_pass cX5_pass 4 (some .int), Cond.methodLink RX5 161 yX5_rotationsOfAllFiles, Cond.instanceMethod yX5_rotationsOfAllFiles, Cond.selects RX5 yX5_rotationsOfAllFiles yX5_rotationsOfAllFiles, Cond.code yX5_rotationsOfAllFiles cX5_rotationsOfAllFiles 3 (some .int), Cond.fieldLink RX5 295 "LogSpooler$LogFile" "rotations" "I", Cond.methodLink RX5 164 yX5_passOneSecond, Cond.instanceMethod yX5_passOneSecond, Cond.selects RX5 yX5_passOneSecond yX5_passOneSecond, Cond.code yX5_passOneSecond cX5_passOneSecond 1 none, Cond.methodLink RX5 273 yX5_giveTokens, Cond.instanceMethod yX5_giveTokens]
def wsL_law0_r16 : List Cond := [Cond.selects RX5 yX5_giveTokens yX5_giveTokens, Cond.code yX5_giveTokens cX5_giveTokens 2 none, Cond.methodLink RX5 282 yX4_gainToken, Cond.instanceMethod yX4_gainToken, Cond.selects RX4 yX4_gainToken yX4_gainToken, Cond.code yX4_gainToken cX4_gainToken 2 none, Cond.methodLink RX5 276 yX5_tellDueRepeats, Cond.instanceMethod yX5_tellDueRepeats, Cond.selects RX5 yX5_tellDueRepeats yX5_tellDueRepeats, Cond.code yX5_tellDueRepeats cX5_tellDueRepeats 3 none, Cond.methodLink RX5 285 yX5_firstWithDueRepeats, Cond.instanceMethod yX5_firstWithDueRepeats, Cond.selects RX5 yX5_firstWithDueRepeats yX5_firstWithDueRepeats, Cond.code yX5_firstWithDueRepeats cX5_firstWithDueRepeats 5 (some (.object "LogSpooler$Sender")), Cond.fieldLink RX5 289 "LogSpooler$Sender" "firstRepeat" "I", Cond.methodLink RX5 279 yX5_rotateAgedFiles, Cond.instanceMethod yX5_rotateAgedFiles, Cond.selects RX5 yX5_rotateAgedFiles yX5_rotateAgedFiles, Cond.code yX5_rotateAgedFiles cX5_rotateAgedFiles 2 none, Cond.methodLink RX5 292 yX2_isAged, Cond.instanceMethod yX2_isAged, Cond.selects RX2 yX2_isAged yX2_isAged, Cond.code yX2_isAged cX2_isAged 2 (some .boolean), Cond.methodLink RX5 172 yX2_turnOver]
def wsL_law0_r17 : List Cond := [Cond.methodLink RL 121 yX6_pass, Cond.instanceMethod yX6_pass, Cond.selects RX6 yX6_pass yX6_pass, Cond.code yX6_pass cX6_pass 3 (some .int), Cond.methodLink RX6 154 yX6_passes, Cond.instanceMethod yX6_passes, Cond.selects RX6 yX6_passes yX6_passes, Cond.code yX6_passes cX6_passes 3 none, Cond.methodLink RX6 150 yX6_due, Cond.instanceMethod yX6_due, Cond.selects RX6 yX6_due yX6_due, Cond.code yX6_due cX6_due 4 (some .int), Cond.methodLink RL 122 yL_rotate, Cond.static yL_rotate, Cond.codeWith yL_rotate cL_rotate 4 (some .int) [(0, 9, 12, 23), (0, 9, 15, 36)], Cond.methodLink RL 41 yX5_rotate, Cond.instanceMethod yX5_rotate, Cond.selects RX5 yX5_rotate yX5_rotate, Cond.code yX5_rotate cX5_rotate 3 (some .int), Cond.fieldLink RX5 175 "LogSpooler$LogFile" "olderOnes" "I", Cond.methodLink RX5 167 yX2_isEmpty, Cond.methodLink RL 124 yX6_rotate, Cond.instanceMethod yX6_rotate, Cond.selects RX6 yX6_rotate yX6_rotate]
def wsL_law0_r18 : List Cond := [Cond.code yX6_rotate cX6_rotate 3 (some .int), Cond.methodLink RL 125 yL_connect, Cond.static yL_connect, Cond.codeWith yL_connect cL_connect 3 (some .int) [(0, 8, 11, 36)], Cond.methodLink RL 44 yX5_connect, Cond.instanceMethod yX5_connect, Cond.selects RX5 yX5_connect yX5_connect, Cond.code yX5_connect cX5_connect 1 (some .int), Cond.fieldLink RX5 178 "LogSpooler$Forwarder" "isConnected" "Z", Cond.methodLink RX5 183 yX0_waiting, Cond.instanceMethod yX0_waiting, Cond.selects RX0 yX0_waiting yX0_waiting, Cond.code yX0_waiting cX0_waiting 1 (some .int), Cond.methodLink RL 128 yX6_connect, Cond.instanceMethod yX6_connect, Cond.selects RX6 yX6_connect yX6_connect, Cond.code yX6_connect cX6_connect 1 (some .int), Cond.fieldLink RX6 157 "LogSpoolerModel" "isConnected" "Z", Cond.fieldLink RX6 161 "LogSpoolerModel" "sent" "I", Cond.methodLink RL 129 yL_disconnect, Cond.static yL_disconnect, Cond.codeWith yL_disconnect cL_disconnect 3 (some .int) [(0, 8, 11, 36)], Cond.methodLink RL 48 yX5_disconnect, Cond.instanceMethod yX5_disconnect]
def wsL_law0_r19 : List Cond := [Cond.selects RX5 yX5_disconnect yX5_disconnect, Cond.code yX5_disconnect cX5_disconnect 2 (some .int), Cond.methodLink RX5 188 yX0_flying, Cond.instanceMethod yX0_flying, Cond.selects RX0 yX0_flying yX0_flying, Cond.code yX0_flying cX0_flying 1 (some .int), Cond.methodLink RX5 191 yX0_loseConnection, Cond.instanceMethod yX0_loseConnection, Cond.selects RX0 yX0_loseConnection yX0_loseConnection, Cond.code yX0_loseConnection cX0_loseConnection 1 none, Cond.methodLink RL 131 yX6_disconnect, Cond.instanceMethod yX6_disconnect, Cond.selects RX6 yX6_disconnect yX6_disconnect, Cond.code yX6_disconnect cX6_disconnect 2 (some .int), Cond.methodLink RL 132 yL_send, Cond.static yL_send, Cond.codeWith yL_send cL_send 3 (some .int) [(0, 8, 11, 36)], Cond.methodLink RL 51 yX5_send, Cond.instanceMethod yX5_send, Cond.selects RX5 yX5_send yX5_send, Cond.code yX5_send cX5_send 1 (some .int), Cond.methodLink RX5 194 yX0_canSend, Cond.instanceMethod yX0_canSend, Cond.selects RX0 yX0_canSend yX0_canSend]
def wsL_law0_r20 : List Cond := [Cond.code yX0_canSend cX0_canSend 1 (some .boolean), Cond.methodLink RX0 32 yX0_waiting, Cond.methodLink RX0 36 yX0_flying, Cond.methodLink RX5 199 yX0_sendFirst, Cond.instanceMethod yX0_sendFirst, Cond.selects RX0 yX0_sendFirst yX0_sendFirst, Cond.code yX0_sendFirst cX0_sendFirst 2 (some .int), Cond.methodLink RX0 39 yX0_lineAt, Cond.instanceMethod yX0_lineAt, Cond.selects RX0 yX0_lineAt yX0_lineAt, Cond.code yX0_lineAt cX0_lineAt 2 (some .int), Cond.methodLink RL 134 yX6_send, Cond.instanceMethod yX6_send, Cond.selects RX6 yX6_send yX6_send, Cond.code yX6_send cX6_send 1 (some .int), Cond.methodLink RL 135 yL_acknowledge, Cond.static yL_acknowledge, Cond.codeWith yL_acknowledge cL_acknowledge 3 (some .int) [(0, 8, 11, 36)], Cond.methodLink RL 54 yX5_acknowledge, Cond.instanceMethod yX5_acknowledge, Cond.selects RX5 yX5_acknowledge yX5_acknowledge, Cond.code yX5_acknowledge cX5_acknowledge 1 (some .int), Cond.methodLink RX5 204 yX0_acknowledgeFirst, Cond.instanceMethod yX0_acknowledgeFirst]
def wsL_law0_r21 : List Cond := [Cond.selects RX0 yX0_acknowledgeFirst yX0_acknowledgeFirst, Cond.code yX0_acknowledgeFirst cX0_acknowledgeFirst 2 (some .int), Cond.methodLink RL 137 yX6_acknowledge, Cond.instanceMethod yX6_acknowledge, Cond.selects RX6 yX6_acknowledge yX6_acknowledge, Cond.code yX6_acknowledge cX6_acknowledge 1 (some .int), Cond.methodLink RL 138 yX5_time, Cond.instanceMethod yX5_time, Cond.selects RX5 yX5_time yX5_time, Cond.code yX5_time cX5_time 1 (some .int), Cond.methodLink RL 141 yX6_time, Cond.instanceMethod yX6_time, Cond.selects RX6 yX6_time yX6_time, Cond.code yX6_time cX6_time 1 (some .int), Cond.methodLink RL 142 yL_tokens, Cond.static yL_tokens, Cond.codeWith yL_tokens cL_tokens 4 (some .int) [(0, 9, 12, 23)], Cond.methodLink RL 57 yX5_tokens, Cond.instanceMethod yX5_tokens, Cond.selects RX5 yX5_tokens yX5_tokens, Cond.code yX5_tokens cX5_tokens 2 (some .int), Cond.methodLink RL 144 yX6_tokens, Cond.instanceMethod yX6_tokens, Cond.selects RX6 yX6_tokens yX6_tokens]
def wsL_law0_r22 : List Cond := [Cond.code yX6_tokens cX6_tokens 2 (some .int), Cond.methodLink RX6 164 yX6_isSender, Cond.instanceMethod yX6_isSender, Cond.selects RX6 yX6_isSender yX6_isSender, Cond.code yX6_isSender cX6_isSender 2 (some .boolean), Cond.methodLink RL 145 yL_repeats, Cond.static yL_repeats, Cond.codeWith yL_repeats cL_repeats 4 (some .int) [(0, 9, 12, 23)], Cond.methodLink RL 60 yX5_repeats, Cond.instanceMethod yX5_repeats, Cond.selects RX5 yX5_repeats yX5_repeats, Cond.code yX5_repeats cX5_repeats 2 (some .int), Cond.methodLink RL 147 yX6_repeats, Cond.instanceMethod yX6_repeats, Cond.selects RX6 yX6_repeats yX6_repeats, Cond.code yX6_repeats cX6_repeats 2 (some .int), Cond.methodLink RL 148 yL_drops, Cond.static yL_drops, Cond.codeWith yL_drops cL_drops 4 (some .int) [(0, 9, 12, 23)], Cond.methodLink RL 63 yX5_drops, Cond.instanceMethod yX5_drops, Cond.selects RX5 yX5_drops yX5_drops, Cond.code yX5_drops cX5_drops 2 (some .int), Cond.methodLink RL 150 yX6_drops]
def wsL_law0_r23 : List Cond := [Cond.instanceMethod yX6_drops, Cond.selects RX6 yX6_drops yX6_drops, Cond.code yX6_drops cX6_drops 2 (some .int), Cond.methodLink RL 151 yL_size, Cond.static yL_size, Cond.codeWith yL_size cL_size 4 (some .int) [(0, 9, 12, 23)], Cond.methodLink RL 66 yX5_size, Cond.instanceMethod yX5_size, Cond.selects RX5 yX5_size yX5_size, Cond.code yX5_size cX5_size 2 (some .int), Cond.methodLink RL 153 yX6_size, Cond.instanceMethod yX6_size, Cond.selects RX6 yX6_size yX6_size, Cond.code yX6_size cX6_size 2 (some .int), Cond.methodLink RL 154 yL_lines, Cond.static yL_lines, Cond.codeWith yL_lines cL_lines 5 (some .int) [(0, 10, 13, 23)], Cond.methodLink RL 69 yX5_lines, Cond.instanceMethod yX5_lines, Cond.selects RX5 yX5_lines yX5_lines, Cond.code yX5_lines cX5_lines 4 (some .int), Cond.methodLink RX5 210 yX2_has, Cond.instanceMethod yX2_has, Cond.selects RX2 yX2_has yX2_has]
def wsL_law0_r24 : List Cond := [Cond.code yX2_has cX2_has 2 (some .boolean), Cond.methodLink RX5 216 yX2_linesOf, Cond.instanceMethod yX2_linesOf, Cond.selects RX2 yX2_linesOf yX2_linesOf, Cond.code yX2_linesOf cX2_linesOf 3 (some .int), Cond.methodLink RX2 50 yX2_startOf, Cond.instanceMethod yX2_startOf, Cond.selects RX2 yX2_startOf yX2_startOf, Cond.code yX2_startOf cX2_startOf 3 (some .int), Cond.methodLink RL 156 yX6_lines, Cond.instanceMethod yX6_lines, Cond.selects RX6 yX6_lines yX6_lines, Cond.code yX6_lines cX6_lines 3 (some .int), Cond.methodLink RX6 167 yX6_isPart, Cond.instanceMethod yX6_isPart, Cond.selects RX6 yX6_isPart yX6_isPart, Cond.code yX6_isPart cX6_isPart 3 (some .boolean), Cond.methodLink RX6 171 yX6_endOf, Cond.instanceMethod yX6_endOf, Cond.selects RX6 yX6_endOf yX6_endOf, Cond.code yX6_endOf cX6_endOf 3 (some .int), Cond.methodLink RX6 174 yX6_startOf, Cond.instanceMethod yX6_startOf, Cond.selects RX6 yX6_startOf yX6_startOf]
def wsL_law0_r25 : List Cond := [Cond.code yX6_startOf cX6_startOf 3 (some .int), Cond.methodLink RL 157 yL_line, Cond.static yL_line, Cond.codeWith yL_line cL_line 6 (some .int) [(0, 12, 15, 23)], Cond.methodLink RL 72 yX5_line, Cond.instanceMethod yX5_line, Cond.selects RX5 yX5_line yX5_line, Cond.code yX5_line cX5_line 5 (some .int), Cond.methodLink RX5 222 yX2_lineAt, Cond.instanceMethod yX2_lineAt, Cond.selects RX2 yX2_lineAt yX2_lineAt, Cond.code yX2_lineAt cX2_lineAt 4 (some .int), Cond.methodLink RL 160 yX6_line, Cond.instanceMethod yX6_line, Cond.selects RX6 yX6_line yX6_line, Cond.code yX6_line cX6_line 5 (some .int), Cond.methodLink RL 161 yL_generations, Cond.static yL_generations, Cond.codeWith yL_generations cL_generations 4 (some .int) [(0, 9, 12, 23)], Cond.methodLink RL 76 yX5_generations, Cond.instanceMethod yX5_generations, Cond.selects RX5 yX5_generations yX5_generations, Cond.code yX5_generations cX5_generations 2 (some .int), Cond.methodLink RL 163 yX6_generations]
def wsL_law0_r26 : List Cond := [Cond.instanceMethod yX6_generations, Cond.selects RX6 yX6_generations yX6_generations, Cond.code yX6_generations cX6_generations 2 (some .int), Cond.methodLink RL 164 yX5_queued, Cond.instanceMethod yX5_queued, Cond.selects RX5 yX5_queued yX5_queued, Cond.code yX5_queued cX5_queued 1 (some .int), Cond.methodLink RL 167 yX6_queued, Cond.instanceMethod yX6_queued, Cond.selects RX6 yX6_queued yX6_queued, Cond.code yX6_queued cX6_queued 1 (some .int), Cond.methodLink RL 168 yX5_inFlight, Cond.instanceMethod yX5_inFlight, Cond.selects RX5 yX5_inFlight yX5_inFlight, Cond.code yX5_inFlight cX5_inFlight 1 (some .int), Cond.methodLink RL 171 yX6_inFlight, Cond.instanceMethod yX6_inFlight, Cond.selects RX6 yX6_inFlight yX6_inFlight, Cond.code yX6_inFlight cX6_inFlight 1 (some .int), Cond.methodLink RL 172 yX5_acknowledged, Cond.instanceMethod yX5_acknowledged, Cond.selects RX5 yX5_acknowledged yX5_acknowledged, Cond.code yX5_acknowledged cX5_acknowledged 1 (some .int), Cond.fieldLink RX5 225 "LogSpooler$Forwarder" "acknowledgedOnes" "I"]
def wsL_law0_r27 : List Cond := [Cond.methodLink RL 175 yX6_acknowledged, Cond.instanceMethod yX6_acknowledged, Cond.selects RX6 yX6_acknowledged yX6_acknowledged, Cond.code yX6_acknowledged cX6_acknowledged 1 (some .int), Cond.methodLink RL 176 yX5_lost, Cond.instanceMethod yX5_lost, Cond.selects RX5 yX5_lost yX5_lost, Cond.code yX5_lost cX5_lost 1 (some .int), Cond.fieldLink RX5 228 "LogSpooler$Forwarder" "lostOnes" "I", Cond.methodLink RL 179 yX6_lost, Cond.instanceMethod yX6_lost, Cond.selects RX6 yX6_lost yX6_lost, Cond.code yX6_lost cX6_lost 1 (some .int), Cond.methodLink RL 180 yX5_messages, Cond.instanceMethod yX5_messages, Cond.selects RX5 yX5_messages yX5_messages, Cond.code yX5_messages cX5_messages 1 (some .int), Cond.methodLink RL 183 yX6_messages, Cond.instanceMethod yX6_messages, Cond.selects RX6 yX6_messages yX6_messages, Cond.code yX6_messages cX6_messages 1 (some .int), Cond.methodLink RL 184 yL_fateOf, Cond.static yL_fateOf, Cond.codeWith yL_fateOf cL_fateOf 4 (some .int) [(0, 9, 12, 23)]]
def wsL_law0_r28 : List Cond := [Cond.methodLink RL 79 yX5_fateOf, Cond.instanceMethod yX5_fateOf, Cond.selects RX5 yX5_fateOf yX5_fateOf, Cond.code yX5_fateOf cX5_fateOf 2 (some .int), Cond.methodLink RX5 231 yX1_has, Cond.instanceMethod yX1_has, Cond.selects RX1 yX1_has yX1_has, Cond.code yX1_has cX1_has 2 (some .boolean), Cond.methodLink RX5 234 yX1_fateAt, Cond.instanceMethod yX1_fateAt, Cond.selects RX1 yX1_fateAt yX1_fateAt, Cond.code yX1_fateAt cX1_fateAt 2 (some .int), Cond.methodLink RL 186 yX6_fateOf, Cond.instanceMethod yX6_fateOf, Cond.selects RX6 yX6_fateOf yX6_fateOf, Cond.code yX6_fateOf cX6_fateOf 2 (some .int), Cond.methodLink RX6 177 yX6_isMessage, Cond.instanceMethod yX6_isMessage, Cond.selects RX6 yX6_isMessage yX6_isMessage, Cond.code yX6_isMessage cX6_isMessage 2 (some .boolean), Cond.methodLink RL 187 yL_count, Cond.static yL_count, Cond.codeWith yL_count cL_count 4 (some .int) [(0, 9, 12, 23)], Cond.methodLink RL 82 yX5_count]
def wsL_law0_r29 : List Cond := [Cond.instanceMethod yX5_count, Cond.selects RX5 yX5_count yX5_count, Cond.code yX5_count cX5_count 2 (some .int), Cond.methodLink RX5 239 yX1_entriesWith, Cond.instanceMethod yX1_entriesWith, Cond.selects RX1 yX1_entriesWith yX1_entriesWith, Cond.code yX1_entriesWith cX1_entriesWith 4 (some .int), Cond.methodLink RL 189 yX6_count, Cond.instanceMethod yX6_count, Cond.selects RX6 yX6_count yX6_count, Cond.code yX6_count cX6_count 4 (some .int), Cond.methodLink RL 190 yL_targetsOf, Cond.static yL_targetsOf, Cond.codeWith yL_targetsOf cL_targetsOf 4 (some .int) [(0, 9, 12, 23)], Cond.methodLink RL 85 yX5_targetsOf, Cond.instanceMethod yX5_targetsOf, Cond.selects RX5 yX5_targetsOf yX5_targetsOf, Cond.code yX5_targetsOf cX5_targetsOf 2 (some .int), Cond.methodLink RX5 242 yX1_targetsAt, Cond.instanceMethod yX1_targetsAt, Cond.selects RX1 yX1_targetsAt yX1_targetsAt, Cond.code yX1_targetsAt cX1_targetsAt 2 (some .int), Cond.methodLink RL 192 yX6_targetsOf, Cond.instanceMethod yX6_targetsOf]
def wsL_law0_r30 : List Cond := [Cond.selects RX6 yX6_targetsOf yX6_targetsOf, Cond.code yX6_targetsOf cX6_targetsOf 2 (some .int)]
def wsL_law0 : List Cond := (wsL_law0_r1 ++ (wsL_law0_r2 ++ (wsL_law0_r3 ++ (wsL_law0_r4 ++ (wsL_law0_r5 ++ (wsL_law0_r6 ++ (wsL_law0_r7 ++ (wsL_law0_r8 ++ (wsL_law0_r9 ++ (wsL_law0_r10 ++ (wsL_law0_r11 ++ (wsL_law0_r12 ++ (wsL_law0_r13 ++ (wsL_law0_r14 ++ (wsL_law0_r15 ++ (wsL_law0_r16 ++ (wsL_law0_r17 ++ (wsL_law0_r18 ++ (wsL_law0_r19 ++ (wsL_law0_r20 ++ (wsL_law0_r21 ++ (wsL_law0_r22 ++ (wsL_law0_r23 ++ (wsL_law0_r24 ++ (wsL_law0_r25 ++ (wsL_law0_r26 ++ (wsL_law0_r27 ++ (wsL_law0_r28 ++ (wsL_law0_r29 ++ wsL_law0_r30))))))))))))))))))))))))))))) ++ wsX50 ++ wsX60 ++ wsX00 ++ wsX10 ++ wsX40 ++ wsX30 ++ wsX20 ++ ([] : List Cond)
def wsL_law : List Cond := wsL_law0 ++ (vx_atS RX5 67 "java/lang/IllegalArgumentException" ["java/lang/RuntimeException", "java/lang/Exception"]).filter goodWord ++ (vx_atS RX5 84 "java/lang/IndexOutOfBoundsException" ["java/lang/RuntimeException", "java/lang/Exception"]).filter goodWord ++ (vx_atS RX5 126 "java/lang/IllegalStateException" ["java/lang/RuntimeException", "java/lang/Exception"]).filter goodWord
abbrev vwCl : List vw_C := [(RX0, TX0, 6), (RX1, TX1, 3), (RX2, TX2, 10), (RX3, TX3, 5), (RX4, TX4, 9), (RX5, TX5, 9), (RX6, TX6, 34)]
end
section
/-! THE STATIC WORLD: all objects of the class and of the reference are made in constructors; each has a number (its id); `ad` gives the address of an id; the whole mutable state is one function `xH`: id, place (slot or index) to int. -/
abbrev xH : Type := Nat → Nat → Int32
def xup (h : xH) (k j : Nat) (x : Int32) : xH := fun a b => if a = k then (if b = j then x else h a b) else h a b
theorem xup_same {h : xH} {k j : Nat} {x : Int32} : xup h k j x k j = x := by simp [xup]
theorem xup_ne {h : xH} {k j a b : Nat} {x : Int32} (hn : a ≠ k ∨ b ≠ j) : xup h k j x a b = h a b := by
  unfold xup
  by_cases h1 : a = k
  · by_cases h2 : b = j
    · exact absurd h2 (hn.resolve_left (fun q => q h1))
    · rw [if_pos h1, if_neg h2]
  · rw [if_neg h1]
abbrev xL : Type := List (Option Nat)
abbrev xSh : Type := (Nat × Nat × Option Nat) ⊕ (Nat × xL)
/-- the shape of each id: an array (kind, length, of references: the first id) or an object (class, fields: none an int, some q a reference to q) -/
def xsh (k : Nat) : Option xSh :=
  if 10 ≤ k ∧ k < 16 then some (.inr (4, [none, none, none, none, none, none, none, none, none]))
  else if 20 ≤ k ∧ k < 26 then some (.inr (3, [none, none, none, none, none]))
  else if 30 ≤ k ∧ k < 34 then some (.inr (2, [some (k + 10), some (k + 20), none, none, none, none, none, none, none, none]))
  else if 40 ≤ k ∧ k < 44 then some (.inl (0, 400, none))
  else if 50 ≤ k ∧ k < 54 then some (.inl (0, 6, none))
  else if k = 0 then some (.inr (5, [some 1, some 2, some 3, some 4, some 6, none, none, none, none]))
  else if k = 1 then some (.inl (3, 6, some 10))
  else if k = 2 then some (.inl (4, 6, some 20))
  else if k = 3 then some (.inl (5, 4, some 30))
  else if k = 4 then some (.inr (0, [some 5, none, none, none, none, none]))
  else if k = 5 ∨ k = 7 ∨ k = 8 then some (.inl (0, 400, none))
  else if k = 6 then some (.inr (1, [some 7, some 8, none]))
  else if k = 60 then some (.inr (6, [none, none, none, none, none, some 65, some 66, some 67, some 68, some 69, some 70, some 71, some 72, some 73, some 74, some 75, some 76, some 77, some 78, some 79, some 80, some 81, some 82, some 83, none, some 85, none, none, none, none, none, none, some 92, some 93]))
  else if 65 ≤ k ∧ k < 70 then some (.inl (0, 6, none))
  else if k = 70 then some (.inl (1, 6, none))
  else if 71 ≤ k ∧ k < 75 then some (.inl (0, 6, none))
  else if 75 ≤ k ∧ k < 81 then some (.inl (0, 4, none))
  else if k = 81 then some (.inl (0, 28, none))
  else if k = 82 ∨ k = 83 then some (.inl (0, 1600, none))
  else if k = 85 ∨ k = 92 ∨ k = 93 then some (.inl (0, 400, none))
  else if k = 100 then some (.inl (2, 1, none))
  else none
theorem xsS {k : Nat} (hk : 10 ≤ k ∧ k < 16) : xsh k = some (.inr (4, [none, none, none, none, none, none, none, none, none])) := by rw [xsh, if_pos hk]
theorem xsR {k : Nat} (hk : 20 ≤ k ∧ k < 26) : xsh k = some (.inr (3, [none, none, none, none, none])) := by rw [xsh, if_neg (by omega), if_pos hk]
theorem xsF {k : Nat} (hk : 30 ≤ k ∧ k < 34) : xsh k = some (.inr (2, [some (k + 10), some (k + 20), none, none, none, none, none, none, none, none])) := by rw [xsh, if_neg (by omega), if_neg (by omega), if_pos hk]
theorem xsFr {k : Nat} (hk : 30 ≤ k ∧ k < 34) : xsh (k + 10) = some (.inl (0, 400, none)) := by rw [xsh, if_neg (by omega), if_neg (by omega), if_neg (by omega), if_pos (by omega)]
theorem xsFs {k : Nat} (hk : 30 ≤ k ∧ k < 34) : xsh (k + 20) = some (.inl (0, 6, none)) := by rw [xsh, if_neg (by omega), if_neg (by omega), if_neg (by omega), if_neg (by omega), if_pos (by omega)]
theorem xs0 : xsh 0 = some (.inr (5, [some 1, some 2, some 3, some 4, some 6, none, none, none, none])) := by decide +kernel
theorem xs1 : xsh 1 = some (.inl (3, 6, some 10)) := by decide +kernel
theorem xs2 : xsh 2 = some (.inl (4, 6, some 20)) := by decide +kernel
theorem xs3 : xsh 3 = some (.inl (5, 4, some 30)) := by decide +kernel
theorem xs4 : xsh 4 = some (.inr (0, [some 5, none, none, none, none, none])) := by decide +kernel
theorem xs5 : xsh 5 = some (.inl (0, 400, none)) := by decide +kernel
theorem xs6 : xsh 6 = some (.inr (1, [some 7, some 8, none])) := by decide +kernel
theorem xs7 : xsh 7 = some (.inl (0, 400, none)) := by decide +kernel
theorem xs8 : xsh 8 = some (.inl (0, 400, none)) := by decide +kernel
theorem xs60 : xsh 60 = some (.inr (6, [none, none, none, none, none, some 65, some 66, some 67, some 68, some 69, some 70, some 71, some 72, some 73, some 74, some 75, some 76, some 77, some 78, some 79, some 80, some 81, some 82, some 83, none, some 85, none, none, none, none, none, none, some 92, some 93])) := by decide +kernel
theorem xs65 : xsh 65 = some (.inl (0, 6, none)) := by decide +kernel
theorem xs66 : xsh 66 = some (.inl (0, 6, none)) := by decide +kernel
theorem xs67 : xsh 67 = some (.inl (0, 6, none)) := by decide +kernel
theorem xs68 : xsh 68 = some (.inl (0, 6, none)) := by decide +kernel
theorem xs69 : xsh 69 = some (.inl (0, 6, none)) := by decide +kernel
theorem xs70 : xsh 70 = some (.inl (1, 6, none)) := by decide +kernel
theorem xs71 : xsh 71 = some (.inl (0, 6, none)) := by decide +kernel
theorem xs72 : xsh 72 = some (.inl (0, 6, none)) := by decide +kernel
theorem xs73 : xsh 73 = some (.inl (0, 6, none)) := by decide +kernel
theorem xs74 : xsh 74 = some (.inl (0, 6, none)) := by decide +kernel
theorem xs75 : xsh 75 = some (.inl (0, 4, none)) := by decide +kernel
theorem xs76 : xsh 76 = some (.inl (0, 4, none)) := by decide +kernel
theorem xs77 : xsh 77 = some (.inl (0, 4, none)) := by decide +kernel
theorem xs78 : xsh 78 = some (.inl (0, 4, none)) := by decide +kernel
theorem xs79 : xsh 79 = some (.inl (0, 4, none)) := by decide +kernel
theorem xs80 : xsh 80 = some (.inl (0, 4, none)) := by decide +kernel
theorem xs81 : xsh 81 = some (.inl (0, 28, none)) := by decide +kernel
theorem xs82 : xsh 82 = some (.inl (0, 1600, none)) := by decide +kernel
theorem xs83 : xsh 83 = some (.inl (0, 1600, none)) := by decide +kernel
theorem xs85 : xsh 85 = some (.inl (0, 400, none)) := by decide +kernel
theorem xs92 : xsh 92 = some (.inl (0, 400, none)) := by decide +kernel
theorem xs93 : xsh 93 = some (.inl (0, 400, none)) := by decide +kernel
theorem xs100 : xsh 100 = some (.inl (2, 1, none)) := by decide +kernel
def xfv (ad : Nat → Nat) (h : xH) (k j : Nat) (r : Option Nat) : Value := match r with
  | none => .int (h k j)
  | some q => .ref (ad q)
def xfs (ad : Nat → Nat) (h : xH) (k : Nat) (lay : xL) : List Value := lay.mapIdx (fun j r => xfv ad h k j r)
def xent (ad : Nat → Nat) (T : Nat → ClassId) (h : xH) (k : Nat) (sh : xSh) : va_E := match sh with
  | .inl (t, n, none) => if t = 2 then .inl (T t, n, .inr (.inl (fun j => (h k j).toInt64))) else .inl (T t, n, .inl (h k))
  | .inl (t, n, some b) => .inl (T t, n, .inr (.inr (.inr (.inr (fun j => some (ad (b + j)))))))
  | .inr (ci, lay) => .inr (ci, xfs ad h k lay)
theorem xfs_int {ad : Nat → Nat} {h : xH} {k j : Nat} {lay : xL} (hl : lay[j]? = some none) : (xfs ad h k lay)[j]? = some (.int (h k j)) := by
  simp [xfs, hl, xfv]
theorem xfs_ref {ad : Nat → Nat} {h : xH} {k j q : Nat} {lay : xL} (hl : lay[j]? = some (some q)) : (xfs ad h k lay)[j]? = some (.ref (ad q)) := by
  simp [xfs, hl, xfv]
theorem xfs_len {ad : Nat → Nat} {h : xH} {k : Nat} {lay : xL} : (xfs ad h k lay).length = lay.length := by simp [xfs]
theorem xfs_set {ad : Nat → Nat} {h : xH} {k j : Nat} {lay : xL} {x : Int32} (hl : lay[j]? = some none) : (xfs ad h k lay).set j (.int x) = xfs ad (xup h k j x) k lay := by
  apply List.ext_getElem?
  intro i
  have hj : j < lay.length := (List.getElem?_eq_some_iff.mp hl).1
  by_cases e : i = j
  · subst e
    rw [List.getElem?_set_self (by rw [xfs_len]; exact hj), xfs_int hl, xup_same]
  · rw [List.getElem?_set_ne (Ne.symm e)]
    simp only [xfs, List.getElem?_mapIdx]
    cases hq : lay[i]? with
    | none => rfl
    | some r =>
      cases r with
      | none => simp [xfv, xup_ne (Or.inr e)]
      | some q => simp [xfv]
theorem xfs_other {ad : Nat → Nat} {h : xH} {k k' j : Nat} {lay : xL} {x : Int32} (hk : k' ≠ k) : xfs ad (xup h k j x) k' lay = xfs ad h k' lay := by
  apply List.ext_getElem?
  intro i
  simp only [xfs, List.getElem?_mapIdx]
  cases hq : lay[i]? with
  | none => rfl
  | some r =>
    cases r with
    | none => simp [xfv, xup_ne (Or.inl hk)]
    | some q => simp [xfv]
theorem xup_row {h : xH} {k j k' : Nat} {x : Int32} (hk : k' ≠ k) : xup h k j x k' = h k' := by
  funext b
  exact xup_ne (Or.inl hk)
theorem xent_other {ad : Nat → Nat} {T : Nat → ClassId} {h : xH} {k k' j : Nat} {x : Int32} (sh : xSh) (hk : k' ≠ k) : xent ad T (xup h k j x) k' sh = xent ad T h k' sh := by
  match sh with
  | .inl (t, n, none) => simp only [xent, xup_row hk]
  | .inl (t, n, some b) => rfl
  | .inr (ci, lay) => simp only [xent, xfs_other hk]
def XP (ad : Nat → Nat) (D : va_G) (T : Nat → ClassId) (h : xH) (H : Heap) : Prop := ∀ (k : Nat) (sh : xSh), xsh k = some sh → va_at D vwCl (ad k, xent ad T h k sh) H
def XA (B0 : Nat) (ad : Nat → Nat) : Prop := (∀ (i j : Nat) (a b : xSh), xsh i = some a → xsh j = some b → ad i = ad j → i = j) ∧ ∀ (i : Nat) (a : xSh), xsh i = some a → B0 ≤ ad i
abbrev xtys (T : Nat → ClassId) : List (ClassId × FieldType) := [(T 0, .int), (T 1, .boolean), (T 2, .long), (T 3, .object RX4), (T 4, .object RX3), (T 5, .object RX2)]
abbrev XK (D : va_G) (T : Nat → ClassId) (U : State) : Prop := va_K D vwCl (xtys T) U
theorem XP.one {ad : Nat → Nat} {D : va_G} {T : Nat → ClassId} {h : xH} {H : Heap} (hP : XP ad D T h H) {k : Nat} {sh : xSh} (hs : xsh k = some sh) : va_P D vwCl [(ad k, xent ad T h k sh)] H := by
  intro i q hq
  match i, hq with
  | 0, hq => cases hq; exact hP k sh hs
  | i + 1, hq => simp at hq
theorem XP.set {ad : Nat → Nat} {D : va_G} {T : Nat → ClassId} {h : xH} {H H1 : Heap} {B0 : Nat} (hA : XA B0 ad) (hP : XP ad D T h H) {k j : Nat} {x : Int32} {sh : xSh} (hs : xsh k = some sh) (he : va_at D vwCl (ad k, xent ad T (xup h k j x) k sh) H1) (oq : ∀ q : Nat, q ≠ ad k → H1[q]? = H[q]?) : XP ad D T (xup h k j x) H1 := by
  intro k' sh' hs'
  by_cases e : k' = k
  · subst e
    cases hs.symm.trans hs'
    exact he
  · rw [xent_other sh' e]
    exact (hP k' sh' hs').kept (oq (ad k') (fun z => e (hA.1 _ _ _ _ hs' hs z)))
theorem XP.kept {ad : Nat → Nat} {D : va_G} {T : Nat → ClassId} {h : xH} {H H1 : Heap} (hP : XP ad D T h H) (hq : ∀ k sh, xsh k = some sh → H1[ad k]? = H[ad k]?) : XP ad D T h H1 := fun k sh hs => (hP k sh hs).kept (hq k sh hs)
theorem XP.lt {ad : Nat → Nat} {D : va_G} {T : Nat → ClassId} {h : xH} {H : Heap} (hP : XP ad D T h H) {k : Nat} {sh : xSh} (hs : xsh k = some sh) : ad k < H.size := (hP k sh hs).lt
-- what the throws need of the start: words that no method's list holds, texts, two statics
def xEa : String := "java/lang/IllegalArgumentException"
def xEs : String := "java/lang/IllegalStateException"
def xEi : String := "java/lang/IndexOutOfBoundsException"
def xnw : List Cond := [.castable "java/lang/IllegalArgumentException" "java/lang/IllegalArgumentException", .castable "java/lang/IllegalStateException" "java/lang/IllegalStateException", .castable "java/lang/IndexOutOfBoundsException" "java/lang/IndexOutOfBoundsException", .declares (Bundle.initS "java/lang/RuntimeException"), .declares (Bundle.initS "java/lang/Exception"), .declares (Bundle.initS "java/lang/Throwable")]
def xstr : List (Nat × String) := [(65, "burst or seconds is out of range"), (74, "seconds is out of range"), (247, "no such rule"), (82, "no such sender, nor any"), (85, "facilities, severity or target is out of range"), (249, "no such file"), (103, "size, age or kept is out of range"), (245, "no such sender"), (116, "facility, severity, text or length is out of range"), (124, "no more messages can come"), (170, "the file has no lines"), (181, "it is connected"), (186, "it is not connected"), (197, "it is not connected, none is queued, or 5 are in flight"), (202, "none is in flight"), (214, "no such generation"), (220, "no such place"), (232, "no such message"), (237, "no such fate")]
def xncs : List (String × String) := [("java/lang/IllegalArgumentException", "java/lang/IndexOutOfBoundsException"), ("java/lang/IllegalStateException", "java/lang/IndexOutOfBoundsException"), ("java/lang/IllegalStateException", "java/lang/IllegalArgumentException")]
def XN (B0 : Nat) (U : State) (H : Heap) : Prop := (∀ w ∈ xnw, va_Nw w U) ∧ (∀ q ∈ xncs, va_Nc q.1 q.2 U) ∧ (∀ q ∈ xstr, ∃ sa : Nat, vk_R RX5 q.1 q.2 sa U) ∧ vx_Zq Bundle.tN "UNASSIGNED_STACK" Bundle.steD (fun q => B0 ≤ q) U H ∧ vx_Zq Bundle.tN "SUPPRESSED_SENTINEL" Bundle.listD (fun q => B0 ≤ q) U H
theorem xcast_moved {u U : State} (hvm : u.vm.Alike U.vm) {a b : String} (h : va_Nw (.castable a b) u) : va_Nw (.castable a b) U := by
  have h1 : (Cond.castable a b).before #[] (u.setVm U.vm) = true := by
    rw [Cond.castable_setVm hvm]; exact h
  exact va_tabs rfl (rfl : (u.setVm U.vm).vm = U.vm) h1
theorem xdecl_moved {u U : State} (hvm : u.vm.Alike U.vm) {a : MethodName} (h : va_Nw (.declares a) u) : va_Nw (.declares a) U := by
  have h1 : (Cond.declares a).before #[] (u.setVm U.vm) = true := by
    rw [Cond.declares_setVm hvm]; exact h
  exact va_tabs rfl (rfl : (u.setVm U.vm).vm = U.vm) h1
theorem XN.warm {B0 : Nat} {s U : State} {H : Heap} (hW : s.WarmedH U.vm) (h : XN B0 s H) : XN B0 U H := by
  obtain ⟨h1, h2, h3, h4, h5⟩ := h
  refine ⟨?_, fun q hq => (h2 q hq).moved hW.alike, fun q hq => ?_, h4.moved hW.alike, h5.moved hW.alike⟩
  · intro w hw
    have h9 := h1 w hw
    simp only [xnw, List.mem_cons, List.not_mem_nil, or_false] at hw
    rcases hw with rfl | rfl | rfl | rfl | rfl | rfl <;> first | exact xcast_moved hW.alike h9 | exact xdecl_moved hW.alike h9
  · obtain ⟨sa, h9⟩ := h3 q hq
    exact ⟨sa, vk_R.warm hW h9⟩
theorem XN.kept {B0 : Nat} {U : State} {H H1 : Heap} (h : XN B0 U H) (hq : ∀ a : Nat, a < H.size → ¬ B0 ≤ a → H1[a]? = H[a]?) : XN B0 U H1 := ⟨h.1, h.2.1, h.2.2.1, h.2.2.2.1.kept hq, h.2.2.2.2.kept hq⟩
theorem XN.call {B0 : Nat} {U : State} {H : Heap} {g : JFrame} {mk : MethodId} {a : Array Value} (h : XN B0 U H) : XN B0 (U.calling g mk a) H := XN.warm (s := U) (U := U.calling g mk a) (State.WarmedH.refl U) h
/-- THE WORLD of a state -/
def XW (B0 : Nat) (ad : Nat → Nat) (D : va_G) (T : Nat → ClassId) (h : xH) (U : State) : Prop := B0 ≤ U.heap.size ∧ XP ad D T h U.heap ∧ XK D T U ∧ XN B0 U U.heap
theorem XW.call {B0 : Nat} {ad : Nat → Nat} {D : va_G} {T : Nat → ClassId} {h : xH} {U : State} {g : JFrame} {mk : MethodId} {a : Array Value} (q : XW B0 ad D T h U) : XW B0 ad D T h (U.calling g mk a) := ⟨q.1, q.2.1, va_K.moved (u := U) (U := U.calling g mk a) (Vm.Alike.refl U.vm) q.2.2.1, q.2.2.2.call⟩
theorem XW.mk {B0 : Nat} {ad : Nat → Nat} {D : va_G} {T : Nat → ClassId} {h : xH} {s U : State} {H : Heap} {locs : List Loc} (hB0 : B0 ≤ s.heap.size) (hP : XP ad D T h H) (hK : XK D T s) (hN : XN B0 s s.heap) (hS : va_S (fun q => B0 ≤ q) s.heap H locs) (hU : U.heap = H) (hW : s.WarmedH U.vm) : XW B0 ad D T h U :=
  ⟨by rw [hU]; exact Nat.le_trans hB0 hS.1, by rw [hU]; exact hP, va_K.moved hW.alike hK, by rw [hU]; exact (hN.kept (fun a h1 h2 => hS.2.1 a h1 h2)).warm hW⟩
-- CONTRACTS: what a method does to the world, by a predicate K on its answer and the new world (its 'wp' is a premise of the contract's theorem)
def XQ {α : Type} (B0 : Nat) (ad : Nat → Nat) (D : va_G) (T : Nat → ClassId) (enc : α → Option Value) (K : α → xH → Prop) : Array Value → State → Outcome → State → Prop := fun _ st o t => (∃ (r : α) (h' : xH), o = .returned (enc r) ∧ K r h' ∧ XP ad D T h' t.heap) ∧ va_F (fun q => B0 ≤ q) st t
def XX (B0 : Nat) (ad : Nat → Nat) (D : va_G) (T : Nat → ClassId) (KX : String → xH → Prop) : String → State → State → Prop := fun E st t => (∃ h' : xH, KX E h' ∧ XP ad D T h' t.heap) ∧ va_F (fun q => B0 ≤ q) st t
abbrev xei : Int32 → Option Value := fun x => some (.int x)
abbrev xev : Unit → Option Value := fun _ => none
abbrev xer (ad : Nat → Nat) : Nat → Option Value := fun k => some (.ref (ad k))
abbrev xeq (ad : Nat → Nat) : Option Nat → Option Value := fun o => some (va_rf (o.map ad))
def XM {α : Type} (l : Launch) (y : MethodName) (ws : List Cond) (rm : Room) (B0 : Nat) (ad : Nat → Nat) (D : va_G) (T : Nat → ClassId) (h : xH) (As : List Value) (enc : α → Option Value) (K : α → xH → Prop) (mc ms : Nat) : Prop :=
  Met l y ws rm (va_Pc As (XW B0 ad D T h)) (XQ B0 ad D T enc K) mc ms (fun q => B0 ≤ q)
def XT {α : Type} (l : Launch) (y : MethodName) (ws : List Cond) (rm : Room) (B0 : Nat) (ad : Nat → Nat) (D : va_G) (T : Nat → ClassId) (h : xH) (As : List Value) (enc : α → Option Value) (K : α → xH → Prop) (KX : String → xH → Prop) (mc ms : Nat) : Prop :=
  vx_Met l y ws rm (va_Pc As (XW B0 ad D T h)) (XQ B0 ad D T enc K) (XX B0 ad D T KX) mc ms (fun q => B0 ≤ q)
theorem xblind {B0 : Nat} {ad : Nat → Nat} {D : va_G} {T : Nat → ClassId} {h : xH} {As : List Value} : FrameBlind (va_Pc As (XW B0 ad D T h)) := fun _ _ _ _ q => ⟨q.1, q.2.call⟩
section XROWS
variable {p : Program} {l : Launch} {e : Env} {R : Room} {s : State} {m : MethodId} {args : Array Value} {below : List Frame} {meth : Method} {c : Code} {H : Heap} {locs : List Loc} {cells slots : Nat} {Q : State → Prop}
variable {cc : ByteArray} {pc : Nat} {ls : Array Slot} {rest : List Value} {ad : Nat → Nat} {D : va_G} {T : Nat → ClassId} {h : xH} {B0 : Nat} {H0 : Heap}
theorem xg_get (hexec : p.tables.exec = Jvm.exec) (hb : c.code = cc) {own ref C : String} {TC : u_T} {N ci index : Nat} {Ts : List Cond} (hts : ∀ w ∈ Ts, w.before args s = true) (hin : ∀ w ∈ u_ws C TC N, w ∈ Ts) (hown : s.vm.findClass own = some m.cls) (hK : XK D T s) (hP : XP ad D T h H) {k : Nat} {lay : xL} (hsh : xsh k = some (.inr (ci, lay))) (hc : vwCl[ci]? = some (C, TC, N)) (j : Nat) (hj : j < N) (hlink : (Cond.fieldLink own index ref (TC j).2.1 (TC j).2.2.1).before args s = true) (hsame : ∀ x, s.fieldFound? (TC j).1 (TC j).2.1 (TC j).2.2.1 = some x → s.fieldFound? ref (TC j).2.1 (TC j).2.2.1 = some x) (hl : lay[j]? = some none) (hdg : decode cc pc = .ok (.getfield index, 3))
    (kk : W p l e R s m args below meth c H locs cells slots Q (F0 m (pc + 3) ls (.int (h k j) :: rest))) : W p l e R s m args below meth c H locs cells slots Q (F0 m pc ls (.ref (ad k) :: rest)) :=
  va_get hexec hb hts hin hown hK (hP.one hsh) 0 rfl hc j hj hlink hsame (xfs_int hl) hdg kk
theorem xg_getr (hexec : p.tables.exec = Jvm.exec) (hb : c.code = cc) {own ref C : String} {TC : u_T} {N ci index : Nat} {Ts : List Cond} (hts : ∀ w ∈ Ts, w.before args s = true) (hin : ∀ w ∈ u_ws C TC N, w ∈ Ts) (hown : s.vm.findClass own = some m.cls) (hK : XK D T s) (hP : XP ad D T h H) {k : Nat} {lay : xL} (hsh : xsh k = some (.inr (ci, lay))) (hc : vwCl[ci]? = some (C, TC, N)) (j : Nat) (hj : j < N) (hlink : (Cond.fieldLink own index ref (TC j).2.1 (TC j).2.2.1).before args s = true) (hsame : ∀ x, s.fieldFound? (TC j).1 (TC j).2.1 (TC j).2.2.1 = some x → s.fieldFound? ref (TC j).2.1 (TC j).2.2.1 = some x) {q : Nat} (hl : lay[j]? = some (some q)) (hdg : decode cc pc = .ok (.getfield index, 3))
    (kk : W p l e R s m args below meth c H locs cells slots Q (F0 m (pc + 3) ls (.ref (ad q) :: rest))) : W p l e R s m args below meth c H locs cells slots Q (F0 m pc ls (.ref (ad k) :: rest)) :=
  va_get hexec hb hts hin hown hK (hP.one hsh) 0 rfl hc j hj hlink hsame (xfs_ref hl) hdg kk
theorem xg_put (hexec : p.tables.exec = Jvm.exec) (hb : c.code = cc) {own ref C : String} {TC : u_T} {N ci index : Nat} {Ts : List Cond} (hts : ∀ w ∈ Ts, w.before args s = true) (hin : ∀ w ∈ u_ws C TC N, w ∈ Ts) (ty0 : Nat → FieldType) (hty : ∀ k, k < N → parseFieldDescriptor (TC k).2.2.1 = some (ty0 k)) (hnm : ∀ a, a < N → ∀ b, b < N → a ≠ b → (TC a).2.1 ≠ (TC b).2.1) (hown : s.vm.findClass own = some m.cls) (hK : XK D T s) (hP : XP ad D T h H) (hA : XA B0 ad) (hS0 : va_S (fun q => B0 ≤ q) H0 H locs) {k : Nat} {lay : xL} (hsh : xsh k = some (.inr (ci, lay))) (hc : vwCl[ci]? = some (C, TC, N)) (j : Nat) (hj : j < N) (hlink : (Cond.fieldLink own index ref (TC j).2.1 (TC j).2.2.1).before args s = true) (hsame : ∀ x, s.fieldFound? (TC j).1 (TC j).2.1 (TC j).2.2.1 = some x → s.fieldFound? ref (TC j).2.1 (TC j).2.2.1 = some x) (hl : lay[j]? = some none) (hfin : (TC j).2.2.2 = false) {ty : FieldType} {x : Int32} (hd : parseFieldDescriptor (TC j).2.2.1 = some ty) (hn : narrow ty (.int x) = .int x) (hfit : fits ty (.int x) = true)
    (hdg : decode cc pc = .ok (.putfield index, 3)) (kk : ∀ (H1 : Heap) (locs1 : List Loc) (h1 : xH), h1 = xup h k j x → XP ad D T h1 H1 → va_S (fun q => B0 ≤ q) H0 H1 locs1 → W p l e R s m args below meth c H1 locs1 cells slots Q (F0 m (pc + 3) ls rest)) : W p l e R s m args below meth c H locs cells slots Q (F0 m pc ls (.int x :: .ref (ad k) :: rest)) := by
  have hap := va_apart (own := own) hts hin ty0 hty hnm hK hc
  obtain ⟨r, h1, cell, q1, q2, q3, q4⟩ := hP k _ hsh
  have hr : r = (C, TC, N) := Option.some.inj (h1.symm.trans hc)
  subst hr
  obtain ⟨hSl, hfc, kC, hkC, hkind⟩ := hK.1 ci _ hc
  obtain ⟨cf, kf, fi, f, hi, hsl⟩ := hSl j hj
  have hlay := hts _ (hin _ (u_in_lay hj))
  unfold u_lay at hlay
  rw [if_neg (by rw [hfin]; decide)] at hlay
  have hst := (u_facts hfc hkC (u_lays hts hin hj) hi).1
  have h6 := u_store hfc hkC hkind hlay hi hd hn hfit
  have hjl : j < (xfs ad h k lay).length := by rw [xfs_len]; exact (List.getElem?_eq_some_iff.mp hl).1
  refine W.putK hexec hb (f := f) ⟨hown, hlink, ⟨_, _, _, hsame _ hi⟩, hst⟩ (by rw [q2]; exact h6) q1 q3 (by rw [hsl]; exact k2_hasslot (q4 j hj)) rfl rfl hdg fun H' e1 e2 e3 => ?_
  rw [hsl] at e1 ⊢
  refine kk H' _ _ rfl (XP.set hA hP hsh ?_ e3) (hS0.put e2 e3 (hA.2 k _ hsh))
  refine ⟨_, hc, ?_⟩
  rw [← xfs_set hl]
  exact t_OB.to (V := updV (vp_V (xfs ad h k lay)) j (.int x)) ⟨_, e1, q2, q3, t_set q4 hap hj (.int x)⟩ (fun i _ => vp_updV_set hjl (.int x) i)
theorem xcell_i {t n : Nat} {k : Nat} (ht : t ≠ 2) : xent ad T h k (.inl (t, n, none)) = .inl (T t, n, .inl (h k)) := by simp [xent, ht]
theorem xupd {k j : Nat} {x : Int32} : upd (h k) j x = xup h k j x k := by
  funext b
  simp only [upd, xup, if_true]
theorem xg_iald (hexec : p.tables.exec = Jvm.exec) (hb : c.code = cc) (hK : XK D T s) (hP : XP ad D T h H) {k n : Nat} (hsh : xsh k = some (.inl (0, n, none))) {i : Int32} (hin : vp_in i n) (hdg : decode cc pc = .ok (.iaload, 1))
    (kk : W p l e R s m args below meth c H locs cells slots Q (F0 m (pc + 1) ls (.int (h k i.toNatClampNeg) :: rest))) : W p l e R s m args below meth c H locs cells slots Q (F0 m pc ls (.int i :: .ref (ad k) :: rest)) :=
  va_iald hexec hb hK (hP.one hsh) 0 0 rfl rfl hin hdg kk
theorem xg_zald (hexec : p.tables.exec = Jvm.exec) (hb : c.code = cc) (hK : XK D T s) (hP : XP ad D T h H) {k n : Nat} (hsh : xsh k = some (.inl (1, n, none))) {i : Int32} (hin : vp_in i n) (hdg : decode cc pc = .ok (.baload, 1))
    (kk : W p l e R s m args below meth c H locs cells slots Q (F0 m (pc + 1) ls (.int (h k i.toNatClampNeg) :: rest))) : W p l e R s m args below meth c H locs cells slots Q (F0 m pc ls (.int i :: .ref (ad k) :: rest)) :=
  va_zald hexec hb hK (hP.one hsh) 0 1 rfl rfl hin hdg kk
theorem xg_lald (hexec : p.tables.exec = Jvm.exec) (hb : c.code = cc) (hK : XK D T s) (hP : XP ad D T h H) {k n : Nat} (hsh : xsh k = some (.inl (2, n, none))) {i : Int32} (hin : vp_in i n) (hdg : decode cc pc = .ok (.laload, 1))
    (kk : W p l e R s m args below meth c H locs cells slots Q (F0 m (pc + 1) ls (.long (h k i.toNatClampNeg).toInt64 :: rest))) : W p l e R s m args below meth c H locs cells slots Q (F0 m pc ls (.int i :: .ref (ad k) :: rest)) :=
  va_lald hexec hb hK (hP.one hsh) 0 2 rfl rfl hin hdg kk
theorem xg_aald (hexec : p.tables.exec = Jvm.exec) (hb : c.code = cc) (hK : XK D T s) (hP : XP ad D T h H) {k t n b : Nat} {C : String} (hsh : xsh k = some (.inl (t, n, some b))) (ht : (xtys T)[t]? = some (T t, .object C)) {i : Int32} (hin : vp_in i n) (hdg : decode cc pc = .ok (.aaload, 1))
    (kk : i.toNatClampNeg < n → W p l e R s m args below meth c H locs cells slots Q (F0 m (pc + 1) ls (.ref (ad (b + i.toNatClampNeg)) :: rest))) : W p l e R s m args below meth c H locs cells slots Q (F0 m pc ls (.int i :: .ref (ad k) :: rest)) :=
  va_aldq hexec hb hK (hP.one hsh) 0 t rfl ht hin hdg (kk (Nat.not_le.mp fun q => hin (Or.inr q)))
theorem xg_alen (hexec : p.tables.exec = Jvm.exec) (hb : c.code = cc) (hK : XK D T s) (hP : XP ad D T h H) {k n : Nat} (hsh : xsh k = some (.inl (0, n, none))) {v : Int32} (hv : Int32.ofNat n = v) (hdg : decode cc pc = .ok (.arraylength, 1))
    (kk : W p l e R s m args below meth c H locs cells slots Q (F0 m (pc + 1) ls (.int v :: rest))) : W p l e R s m args below meth c H locs cells slots Q (F0 m pc ls (.ref (ad k) :: rest)) :=
  va_alen hexec hb hK (hP.one hsh) 0 0 rfl rfl hv hdg kk
theorem xg_iast (hexec : p.tables.exec = Jvm.exec) (hb : c.code = cc) (hK : XK D T s) (hP : XP ad D T h H) (hA : XA B0 ad) (hS : va_S (fun q => B0 ≤ q) H0 H locs) {k n : Nat} (hsh : xsh k = some (.inl (0, n, none))) {i : Int32} {x : Int32} (hin : vp_in i n) (hdg : decode cc pc = .ok (.iastore, 1))
    (kk : ∀ (H1 : Heap) (locs1 : List Loc) (h1 : xH), h1 = xup h k i.toNatClampNeg x → XP ad D T h1 H1 → va_S (fun q => B0 ≤ q) H0 H1 locs1 → W p l e R s m args below meth c H1 locs1 cells slots Q (F0 m (pc + 1) ls rest)) : W p l e R s m args below meth c H locs cells slots Q (F0 m pc ls (.int x :: .int i :: .ref (ad k) :: rest)) := by
  refine W.iast hexec hb (hP k _ hsh) ((hK.2 0 _ rfl).1 n (fun j => .int (h k j))) (fun q => by cases q) (by show ¬ (i < 0 ∨ (arrV _ _ _).slots.size ≤ _); rw [arrV_size]; exact hin) rfl rfl hdg fun H1 e z oq => ?_
  refine kk H1 _ _ rfl (XP.set hA hP hsh ?_ oq) (hS.put z oq (hA.2 k _ hsh))
  rw [xcell_i (by decide)]
  show H1[ad k]? = some (vp_cell _ _)
  rw [e, ← xupd]
  show some ((vp_cell _ (n, .inl (h k))).setSlot _ _) = _
  rw [vp_cell_i, vp_cell_i, arrV_store]
  congr 2
  funext q
  by_cases hq : q = i.toNatClampNeg
  · subst hq
    simp [updV, upd]
  · simp [updV, upd, hq]
theorem xg_zast (hexec : p.tables.exec = Jvm.exec) (hb : c.code = cc) (hK : XK D T s) (hP : XP ad D T h H) (hA : XA B0 ad) (hS : va_S (fun q => B0 ≤ q) H0 H locs) {k n : Nat} (hsh : xsh k = some (.inl (1, n, none))) {i : Int32} {x : Int32} (hx : vp_nar .boolean x = x) (hin : vp_in i n) (hdg : decode cc pc = .ok (.bastore, 1))
    (kk : ∀ (H1 : Heap) (locs1 : List Loc) (h1 : xH), h1 = xup h k i.toNatClampNeg x → XP ad D T h1 H1 → va_S (fun q => B0 ≤ q) H0 H1 locs1 → W p l e R s m args below meth c H1 locs1 cells slots Q (F0 m (pc + 1) ls rest)) : W p l e R s m args below meth c H locs cells slots Q (F0 m pc ls (.int x :: .int i :: .ref (ad k) :: rest)) := by
  refine W.zast hexec hb (hP k _ hsh) ((hK.2 1 _ rfl).1 n (fun j => .int (h k j))) (fun q => by cases q) (by show ¬ (i < 0 ∨ (arrV _ _ _).slots.size ≤ _); rw [arrV_size]; exact hin) rfl rfl hdg fun H1 e z oq => ?_
  refine kk H1 _ _ rfl (XP.set hA hP hsh ?_ oq) (hS.put z oq (hA.2 k _ hsh))
  rw [xcell_i (by decide)]
  show H1[ad k]? = some (vp_cell _ _)
  rw [e, ← xupd]
  show some ((vp_cell _ (n, .inl (h k))).setSlot _ _) = _
  rw [vp_cell_i, vp_cell_i, arrV_store]
  congr 2
  funext q
  by_cases hq : q = i.toNatClampNeg
  · subst hq
    rw [show narrow .boolean (.int x) = .int (vp_nar .boolean x) from rfl, hx]
    simp [updV, upd]
  · simp [updV, upd, hq]
theorem xg_last (hexec : p.tables.exec = Jvm.exec) (hb : c.code = cc) (hK : XK D T s) (hP : XP ad D T h H) (hA : XA B0 ad) (hS : va_S (fun q => B0 ≤ q) H0 H locs) {k n : Nat} (hsh : xsh k = some (.inl (2, n, none))) {i : Int32} {x : Int32} (hin : vp_in i n) (hdg : decode cc pc = .ok (.lastore, 1))
    (kk : ∀ (H1 : Heap) (locs1 : List Loc) (h1 : xH), h1 = xup h k i.toNatClampNeg x → XP ad D T h1 H1 → va_S (fun q => B0 ≤ q) H0 H1 locs1 → W p l e R s m args below meth c H1 locs1 cells slots Q (F0 m (pc + 1) ls rest)) : W p l e R s m args below meth c H locs cells slots Q (F0 m pc ls (.long x.toInt64 :: .int i :: .ref (ad k) :: rest)) := by
  refine W.last hexec hb (hP k _ hsh) ((hK.2 2 _ rfl).1 n (fun j => .long (h k j).toInt64)) (fun q => by cases q) (by show ¬ (i < 0 ∨ (arrV _ _ _).slots.size ≤ _); rw [arrV_size]; exact hin) rfl rfl hdg fun H1 e z oq => ?_
  refine kk H1 _ _ rfl (XP.set hA hP hsh ?_ oq) (hS.put z oq (hA.2 k _ hsh))
  show H1[ad k]? = some (vp_cell _ _)
  rw [e]
  show some ((vp_cell _ (n, .inr (.inl (fun j => (h k j).toInt64)))).setSlot _ _) = _
  rw [vp_cell_l, vp_cell_l, arrV_store]
  congr 2
  funext q
  by_cases hq : q = i.toNatClampNeg
  · subst hq
    simp [updV, xup]
  · simp [updV, xup, hq]
theorem xg_recv {k ci : Nat} {lay : xL} {C : String} {TC : u_T} {N : Nat} (hK : XK D T s) (hP : XP ad D T h H) (hsh : xsh k = some (.inr (ci, lay))) (hc : vwCl[ci]? = some (C, TC, N)) : ∃ cell : Cell, H[ad k]? = some cell ∧ cell.vm.isStatics = false ∧ s.vm.findClass C = some cell.cls :=
  va_recv hK (hP.one hsh) hc (q0 := 0) rfl
theorem xg_preV {k ci : Nat} {lay : xL} {C : String} {TC : u_T} {N : Nat} {As : List Value} (hB0 : B0 ≤ s.heap.size) (hP : XP ad D T h H) (hK : XK D T s) (hN : XN B0 s s.heap) (hS : va_S (fun q => B0 ≤ q) s.heap H locs) (hsh : xsh k = some (.inr (ci, lay))) (hc : vwCl[ci]? = some (C, TC, N)) : PreV s H C (ad k) (va_Pc (.ref (ad k) :: As) (XW B0 ad D T h)) As :=
  ⟨xblind, xg_recv hK hP hsh hc, fun U hU hW => ⟨rfl, XW.mk hB0 hP hK hN hS hU hW⟩⟩
theorem xg_preS {As : List Value} (hB0 : B0 ≤ s.heap.size) (hP : XP ad D T h H) (hK : XK D T s) (hN : XN B0 s s.heap) (hS : va_S (fun q => B0 ≤ q) s.heap H locs) : PreS s H (va_Pc As (XW B0 ad D T h)) As :=
  ⟨xblind, fun U hU hW => ⟨rfl, XW.mk hB0 hP hK hN hS hU hW⟩⟩
variable {mc ms : Nat} {a : Array Value} {st0 : List Value}
theorem xg_keep {st₀ t T' : State} {L : List Loc} (h0 : st₀.heap = H) (e1 : T'.heap = t.heap) (hS : va_S (fun q => B0 ≤ q) H0 H locs) (hL : ∀ q ∈ L, B0 ≤ q.base) (hF : va_F (fun q => B0 ≤ q) st₀ t) : va_S (fun q => B0 ≤ q) H0 T'.heap (locs ++ L) :=
  (vx_keep h0 e1 hS (fun _ _ q => q) (fun _ q => q) hL hF).2.2
theorem xg_call {α : Type} {enc : α → Option Value} {K : α → xH → Prop} (hr : va_Run p l e R s m args below meth c H locs cells slots mc ms (F0 m pc ls st0) rest (XQ B0 ad D T enc K a) (fun q => B0 ≤ q)) (hS : va_S (fun q => B0 ≤ q) H0 H locs)
    (kk : ∀ (r : α) (h' : xH) (H1 : Heap) (locs1 : List Loc), K r h' → XP ad D T h' H1 → va_S (fun q => B0 ≤ q) H0 H1 locs1 → W p l e R s m args below meth c H1 locs1 (cells + mc) (slots + ms) Q (F0 m (pc + 3) ls ((enc r).toList ++ rest))) : W p l e R s m args below meth c H locs cells slots Q (F0 m pc ls st0) := by
  intro U hU X
  obtain ⟨v, st₀, t, T', L, h0, X', hL, e1, e2, ⟨⟨r, h', hv, hq, hw⟩, hF⟩, st⟩ := hr U hU X
  cases hv
  obtain ⟨t2, a1, b1⟩ := kk r h' T'.heap (locs ++ L) hq (by rw [e1]; exact hw) (xg_keep h0 e1 hS hL hF) T' rfl X'
  exact ⟨t2, st t2 a1, b1⟩
theorem xg_calli {K : Int32 → xH → Prop} (hr : va_Run p l e R s m args below meth c H locs cells slots mc ms (F0 m pc ls st0) rest (XQ B0 ad D T xei K a) (fun q => B0 ≤ q)) (hS : va_S (fun q => B0 ≤ q) H0 H locs)
    (kk : ∀ (r : Int32) (h' : xH) (H1 : Heap) (locs1 : List Loc), K r h' → XP ad D T h' H1 → va_S (fun q => B0 ≤ q) H0 H1 locs1 → W p l e R s m args below meth c H1 locs1 (cells + mc) (slots + ms) Q (F0 m (pc + 3) ls (.int r :: rest))) : W p l e R s m args below meth c H locs cells slots Q (F0 m pc ls st0) := xg_call hr hS kk
theorem xg_callv {K : Unit → xH → Prop} (hr : va_Run p l e R s m args below meth c H locs cells slots mc ms (F0 m pc ls st0) rest (XQ B0 ad D T xev K a) (fun q => B0 ≤ q)) (hS : va_S (fun q => B0 ≤ q) H0 H locs)
    (kk : ∀ (r : Unit) (h' : xH) (H1 : Heap) (locs1 : List Loc), K r h' → XP ad D T h' H1 → va_S (fun q => B0 ≤ q) H0 H1 locs1 → W p l e R s m args below meth c H1 locs1 (cells + mc) (slots + ms) Q (F0 m (pc + 3) ls rest)) : W p l e R s m args below meth c H locs cells slots Q (F0 m pc ls st0) := xg_call hr hS kk
theorem xg_callr {K : Nat → xH → Prop} (hr : va_Run p l e R s m args below meth c H locs cells slots mc ms (F0 m pc ls st0) rest (XQ B0 ad D T (xer ad) K a) (fun q => B0 ≤ q)) (hS : va_S (fun q => B0 ≤ q) H0 H locs)
    (kk : ∀ (r : Nat) (h' : xH) (H1 : Heap) (locs1 : List Loc), K r h' → XP ad D T h' H1 → va_S (fun q => B0 ≤ q) H0 H1 locs1 → W p l e R s m args below meth c H1 locs1 (cells + mc) (slots + ms) Q (F0 m (pc + 3) ls (.ref (ad r) :: rest))) : W p l e R s m args below meth c H locs cells slots Q (F0 m pc ls st0) := xg_call hr hS kk
theorem xg_callq {K : Option Nat → xH → Prop} (hr : va_Run p l e R s m args below meth c H locs cells slots mc ms (F0 m pc ls st0) rest (XQ B0 ad D T (xeq ad) K a) (fun q => B0 ≤ q)) (hS : va_S (fun q => B0 ≤ q) H0 H locs)
    (kk : ∀ (r : Option Nat) (h' : xH) (H1 : Heap) (locs1 : List Loc), K r h' → XP ad D T h' H1 → va_S (fun q => B0 ≤ q) H0 H1 locs1 → W p l e R s m args below meth c H1 locs1 (cells + mc) (slots + ms) Q (F0 m (pc + 3) ls (va_rf (r.map ad) :: rest))) : W p l e R s m args below meth c H locs cells slots Q (F0 m pc ls st0) := xg_call hr hS kk
theorem xg_callX {α : Type} {enc : α → Option Value} {K : α → xH → Prop} {KX : String → xH → Prop} (hr : vx_Run p l e R s m args below meth c H locs cells slots mc ms (F0 m pc ls st0) rest (XQ B0 ad D T enc K a) (XX B0 ad D T KX) (fun q => B0 ≤ q)) (hS : va_S (fun q => B0 ≤ q) H0 H locs)
    (kx : ∀ (E : String) (ce : Cell) (q9 : Addr) (h' : xH) (H1 : Heap) (locs1 : List Loc), KX E h' → XP ad D T h' H1 → va_S (fun q => B0 ≤ q) H0 H1 locs1 → H1[q9]? = some ce → ce.vm = .none → s.vm.findClass E = some ce.cls → vx_W p l e R s m args below meth c H1 locs1 (cells + mc) (slots + ms) Q (F0 m pc ls rest) q9)
    (kk : ∀ (r : α) (h' : xH) (H1 : Heap) (locs1 : List Loc), K r h' → XP ad D T h' H1 → va_S (fun q => B0 ≤ q) H0 H1 locs1 → W p l e R s m args below meth c H1 locs1 (cells + mc) (slots + ms) Q (F0 m (pc + 3) ls ((enc r).toList ++ rest))) : W p l e R s m args below meth c H locs cells slots Q (F0 m pc ls st0) := by
  intro U hU X
  rcases hr U hU X with ⟨v, st₀, t, T', L, h0, X', hL, e1, e2, ⟨⟨r, h', hv, hq, hw⟩, hF⟩, st⟩ | ⟨q, st₀, t, T', L, E, ce, h0, X', hL, e1, e2, ⟨⟨h', hq, hw⟩, hF⟩, hce, hcv, hcl, st⟩
  · cases hv
    obtain ⟨t2, a1, b1⟩ := kk r h' T'.heap (locs ++ L) hq (by rw [e1]; exact hw) (xg_keep h0 e1 hS hL hF) T' rfl X'
    exact ⟨t2, st t2 a1, b1⟩
  · obtain ⟨t2, a1, b1⟩ := kx E ce q h' T'.heap (locs ++ L) hq (by rw [e1]; exact hw) (xg_keep h0 e1 hS hL hF) (by rw [e1]; exact hce) hcv hcl T' rfl X'
    exact ⟨t2, st.trans a1, b1⟩
theorem xg_callXi {K : Int32 → xH → Prop} {KX : String → xH → Prop} (hr : vx_Run p l e R s m args below meth c H locs cells slots mc ms (F0 m pc ls st0) rest (XQ B0 ad D T xei K a) (XX B0 ad D T KX) (fun q => B0 ≤ q)) (hS : va_S (fun q => B0 ≤ q) H0 H locs)
    (kx : ∀ (E : String) (ce : Cell) (q9 : Addr) (h' : xH) (H1 : Heap) (locs1 : List Loc), KX E h' → XP ad D T h' H1 → va_S (fun q => B0 ≤ q) H0 H1 locs1 → H1[q9]? = some ce → ce.vm = .none → s.vm.findClass E = some ce.cls → vx_W p l e R s m args below meth c H1 locs1 (cells + mc) (slots + ms) Q (F0 m pc ls rest) q9)
    (kk : ∀ (r : Int32) (h' : xH) (H1 : Heap) (locs1 : List Loc), K r h' → XP ad D T h' H1 → va_S (fun q => B0 ≤ q) H0 H1 locs1 → W p l e R s m args below meth c H1 locs1 (cells + mc) (slots + ms) Q (F0 m (pc + 3) ls (.int r :: rest))) : W p l e R s m args below meth c H locs cells slots Q (F0 m pc ls st0) := xg_callX hr hS kx kk
theorem xg_callXr {K : Nat → xH → Prop} {KX : String → xH → Prop} (hr : vx_Run p l e R s m args below meth c H locs cells slots mc ms (F0 m pc ls st0) rest (XQ B0 ad D T (xer ad) K a) (XX B0 ad D T KX) (fun q => B0 ≤ q)) (hS : va_S (fun q => B0 ≤ q) H0 H locs)
    (kx : ∀ (E : String) (ce : Cell) (q9 : Addr) (h' : xH) (H1 : Heap) (locs1 : List Loc), KX E h' → XP ad D T h' H1 → va_S (fun q => B0 ≤ q) H0 H1 locs1 → H1[q9]? = some ce → ce.vm = .none → s.vm.findClass E = some ce.cls → vx_W p l e R s m args below meth c H1 locs1 (cells + mc) (slots + ms) Q (F0 m pc ls rest) q9)
    (kk : ∀ (r : Nat) (h' : xH) (H1 : Heap) (locs1 : List Loc), K r h' → XP ad D T h' H1 → va_S (fun q => B0 ≤ q) H0 H1 locs1 → W p l e R s m args below meth c H1 locs1 (cells + mc) (slots + ms) Q (F0 m (pc + 3) ls (.ref (ad r) :: rest))) : W p l e R s m args below meth c H locs cells slots Q (F0 m pc ls st0) := xg_callX hr hS kx kk
-- ends
theorem xg_irets {K : Int32 → xH → Prop} {v : Int32} {ty : FieldType} (hexec : p.tables.exec = Jvm.exec) (hb : c.code = cc) (hr : meth.sig.returnType = some ty) (hn : narrow ty (.int v) = .int v) (hlocks : meth.locks = false) (hB0 : B0 ≤ s.heap.size) (hP : XP ad D T h H) (hK : XK D T s) (hN : XN B0 s s.heap) (hS : va_S (fun q => B0 ≤ q) s.heap H locs) (hdg : decode cc pc = .ok (.ireturn, 1)) (hc : cells ≤ mc) (hs : slots ≤ ms) (hw : K v h) : W p l e R s m args below meth c H locs cells slots (MQ below (XQ B0 ad D T xei K) args s mc ms (fun q => B0 ≤ q)) (F0 m pc ls [.int v]) :=
  W.widen hc hs (W.zret hexec hb hr hn (fun t ht hW => ⟨⟨v, h, rfl, hw, by rw [ht]; exact hP⟩, hS.F ht⟩) hS.2.2 hdg)
theorem xg_vrets {K : Unit → xH → Prop} (hexec : p.tables.exec = Jvm.exec) (hb : c.code = cc) (hr : meth.sig.returnType = none) (hlocks : meth.locks = false) (hB0 : B0 ≤ s.heap.size) (hP : XP ad D T h H) (hK : XK D T s) (hN : XN B0 s s.heap) (hS : va_S (fun q => B0 ≤ q) s.heap H locs) (hdg : decode cc pc = .ok (.return_, 1)) (hc : cells ≤ mc) (hs : slots ≤ ms) (hw : K () h) : W p l e R s m args below meth c H locs cells slots (MQ below (XQ B0 ad D T xev K) args s mc ms (fun q => B0 ≤ q)) (F0 m pc ls []) :=
  W.widen hc hs (W.vret hexec hb hr (fun t ht hW => ⟨⟨(), h, rfl, hw, by rw [ht]; exact hP⟩, hS.F ht⟩) hS.2.2 hdg)
theorem xg_throw {α : Type} {enc : α → Option Value} {K : α → xH → Prop} {KX : String → xH → Prop} (hexec : p.tables.exec = Jvm.exec) (hb : c.code = cc) (hl : l.stackTraces = false) {cls text : String} {ik is ic : Nat}
    (hown : s.vm.findClass RX5 = some m.cls) (hcls : Bundle.fit cls = true)
    (hk : (Cond.classLink RX5 ik cls).before args s = true) (hini : (Cond.initialized cls).before args s = true) (hat : ∀ w ∈ (vx_atS RX5 ic cls ["java/lang/RuntimeException", "java/lang/Exception"]).filter goodWord, w.before args s = true)
    (hng : ∀ w ∈ (vx_atS RX5 ic cls ["java/lang/RuntimeException", "java/lang/Exception"]).filter (fun w => !goodWord w), w ∈ xnw) (hgood : ∀ w ∈ Cond.classLink RX5 ik cls :: Cond.initialized cls :: vx_atS RX5 ic cls ["java/lang/RuntimeException", "java/lang/Exception"], vx_ot w = true)
    (hstr : (is, text) ∈ xstr) (hB0 : B0 ≤ s.heap.size) (hP : XP ad D T h H) (hK : XK D T s) (hN : XN B0 s s.heap) (hS : va_S (fun q => B0 ≤ q) s.heap H locs) (hsize : ls.size = c.maxLocals)
    (d0 : decode cc pc = .ok (.new ik, 3)) (d3 : decode cc (pc + 3) = .ok (.dup, 1)) (d4 : decode cc (pc + 4) = .ok (.ldc is, 2)) (d6 : decode cc (pc + 6) = .ok (.invokespecial ic, 3)) (d9 : decode cc (pc + 9) = .ok (.athrow, 1))
    (hout : ∀ x ∈ c.exceptionTable.toList, False)
    (hRframes : 5 < R.frames) (hRlocals : (rest.map fun v => v.category).sum + 82 ≤ R.locals) (hRcells : cells + 1 ≤ R.cells) (hRslots : slots + 6 ≤ R.slots) (hlocks : meth.locks = false)
    (hc : cells + 1 ≤ mc) (hs : slots + 6 ≤ ms) (hw : KX cls h) :
    W p l e R s m args below meth c H locs cells slots (vx_MQ below (XQ B0 ad D T enc K) (XX B0 ad D T KX) args s mc ms (fun q => B0 ≤ q)) (F0 m pc ls rest) := by
  obtain ⟨sa, hsa⟩ := hN.2.2.1 _ hstr
  have hat' : ∀ w ∈ vx_atS RX5 ic cls ["java/lang/RuntimeException", "java/lang/Exception"], w.before args s = true := by
    intro w hwm
    by_cases g : goodWord w = true
    · exact hat w (List.mem_filter.mpr ⟨hwm, g⟩)
    · have hm := hng w (List.mem_filter.mpr ⟨hwm, by cases hgw : goodWord w; rfl; exact absurd hgw g⟩)
      have h9 := hN.1 w hm
      simp only [xnw, List.mem_cons, List.not_mem_nil, or_false] at hm
      rcases hm with rfl | rfl | rfl | rfl | rfl | rfl <;> exact va_tabs rfl rfl h9
  refine vx_throwS (names := ["java/lang/RuntimeException", "java/lang/Exception"]) (A := fun q => B0 ≤ q) hexec hb hl hown hcls (by decide +kernel) hk hini hsa hat' hgood hN.2.2.2.1 hN.2.2.2.2 hS hsize d0 d3 d4 d6 d9 (fun x hx => (hout x hx).elim) hRframes hRlocals hRcells hRslots hlocks ?_ hS.2.2 hc hs
  intro t hvm hz hq
  have hF : va_F (fun q => B0 ≤ q) s t := ⟨Nat.le_trans hS.1 hz, fun q h1 h2 => by rw [hq q (Nat.lt_of_lt_of_le h1 hS.1)]; exact hS.2.1 q h1 h2⟩
  exact ⟨⟨h, hw, hP.kept (fun k sh hs => hq _ (hP.lt hs))⟩, hF⟩
theorem xg_arets {α : Type} {enc : α → Option Value} {K : α → xH → Prop} {r : α} {v : Value} {ty : FieldType} (hexec : p.tables.exec = Jvm.exec) (hb : c.code = cc) (hr : meth.sig.returnType = some ty) (hrt : (∃ n, ty = .object n) ∨ ∃ t, ty = .array t) (hv : v = .null ∨ ∃ a, v = .ref a) (hv2 : enc r = some v) (hlocks : meth.locks = false) (hB0 : B0 ≤ s.heap.size) (hP : XP ad D T h H) (hK : XK D T s) (hN : XN B0 s s.heap) (hS : va_S (fun q => B0 ≤ q) s.heap H locs) (hdg : decode cc pc = .ok (.areturn, 1)) (hc : cells ≤ mc) (hs : slots ≤ ms) (hw : K r h) : W p l e R s m args below meth c H locs cells slots (MQ below (XQ B0 ad D T enc K) args s mc ms (fun q => B0 ≤ q)) (F0 m pc ls [v]) :=
  W.widen hc hs (W.aret hexec hb hr hrt hv (fun t ht hW => ⟨⟨r, h, by rw [hv2], hw, by rw [ht]; exact hP⟩, hS.F ht⟩) hS.2.2 hdg)
theorem xg_out {α : Type} {enc : α → Option Value} {K : α → xH → Prop} {KX : String → xH → Prop} {E : String} {ce : Cell} {q : Addr} (hout : ∀ x ∈ c.exceptionTable.toList, False) (hlocks : meth.locks = false) (hP : XP ad D T h H) (hS : va_S (fun q => B0 ≤ q) s.heap H locs) (hce : H[q]? = some ce) (hcv : ce.vm = .none) (hcl : s.vm.findClass E = some ce.cls) (hc : cells ≤ mc) (hs : slots ≤ ms) (hw : KX E h) :
    vx_W p l e R s m args below meth c H locs cells slots (vx_MQ below (XQ B0 ad D T enc K) (XX B0 ad D T KX) args s mc ms (fun q => B0 ≤ q)) (F0 m pc ls rest) q :=
  vx_out (fun x hx => (hout x hx).elim) hlocks hce hcv hcl (fun t ht _ => ⟨⟨h, hw, by rw [ht]; exact hP⟩, hS.F ht⟩) hS.2.2 hc hs
theorem xg_cast {E : String} (hN : XN B0 s H0) (hm : (Cond.castable E E) ∈ xnw) : (Cond.castable E E).before args s = true := va_tabs rfl rfl (hN.1 _ hm)
theorem xg_catchT {own name : String} {ce : Cell} {q9 : Addr} {hh : List (Nat × Nat × Nat × Nat)} (hown : s.vm.findClass own = some m.cls) (htab : c.exceptionTable.toList = tableOf hh) (i : Nat) {q : Nat × Nat × Nat × Nat} (hq : hh[i]? = some q)
    (hpass : ∀ z ∈ (tableOf hh).take i, covers z pc = false ∨ (z.catchType ≠ 0 ∧ ∃ nm : String, (Cond.classLink own z.catchType nm).before args s = true ∧ va_Nc name nm s)) (hcov : covers ⟨q.1, q.2.1, q.2.2.1, q.2.2.2⟩ pc = true) (h0 : q.2.2.2 ≠ 0)
    (hlink : (Cond.classLink own q.2.2.2 name).before args s = true) (hcast : (Cond.castable name name).before args s = true) (hce : H[q9]? = some ce) (hcv : ce.vm = .none) (hcl : s.vm.findClass name = some ce.cls)
    (kk : W p l e R s m args below meth c H locs cells slots Q (F0 m q.2.2.1 ls [.ref q9])) : vx_W p l e R s m args below meth c H locs cells slots Q (F0 m pc ls rest) q9 := by
  have hi : (tableOf hh)[i]? = some ⟨q.1, q.2.1, q.2.2.1, q.2.2.2⟩ := by simp [tableOf, hq]
  have hil := (List.getElem?_eq_some_iff.mp hi).1
  have hsp : c.exceptionTable.toList = (tableOf hh).take i ++ ⟨q.1, q.2.1, q.2.2.1, q.2.2.2⟩ :: (tableOf hh).drop (i + 1) := by
    rw [htab, ← (List.getElem?_eq_some_iff.mp hi).2]
    rw [List.getElem_cons_drop, List.take_append_drop]
  exact vx_catch hown _ ⟨q.1, q.2.1, q.2.2.1, q.2.2.2⟩ _ hsp hpass hcov h0 hlink hcast hce hcv hcl kk
theorem xcatq (o : Option Nat) : (va_rf o).category = 1 := by cases o <;> rfl
theorem xg_lcmpeq (hexec : p.tables.exec = Jvm.exec) (hb : c.code = cc) {x y : Int32} {off : Int} {tgt : Nat} (hdg : decode cc pc = .ok (.lcmp, 1)) (hdg2 : decode cc (pc + 1) = .ok (.ifCond .eq off, 3)) (ht : ((pc + 1 : Nat) : Int) + off = (tgt : Int))
    (kt : x = y → W p l e R s m args below meth c H locs cells slots Q (F0 m tgt ls rest)) (kf : ¬ x = y → W p l e R s m args below meth c H locs cells slots Q (F0 m (pc + 1 + 3) ls rest)) : W p l e R s m args below meth c H locs cells slots Q (F0 m pc ls (.long y.toInt64 :: .long x.toInt64 :: rest)) := by
  have e : lg_cmp x.toInt64 y.toInt64 = 0 ↔ x = y := by
    have hinj : x.toInt64 = y.toInt64 ↔ x = y := by
      constructor
      · intro hh
        have h2 := congrArg Int64.toInt hh
        simp only [Int32.toInt_toInt64] at h2
        exact Int32.toInt_inj.mp h2
      · intro hh; rw [hh]
    unfold lg_cmp
    by_cases h1 : y.toInt64 < x.toInt64
    · simp only [h1, if_true]
      constructor
      · intro q; exact absurd q (by decide)
      · intro q; subst q; exact absurd h1 (by simp)
    · simp only [h1, if_false]
      by_cases h2 : x.toInt64 = y.toInt64
      · simp [h2, hinj.mp h2]
      · simp only [h2, if_false]
        constructor
        · intro q; exact absurd q (by decide)
        · intro q; exact absurd (hinj.mpr q) h2
  refine W.lcmp hexec hb hdg ?_
  exact lv_if_eq hexec hb hdg2 ht (fun q => kt (e.mp q)) (fun q => kf (fun z => q (e.mpr z)))
theorem xg_pass0 {own name : String} {pc : Nat} {hh : List (Nat × Nat × Nat × Nat)} : ∀ z ∈ (tableOf hh).take 0, covers z pc = false ∨ (z.catchType ≠ 0 ∧ ∃ nm : String, (Cond.classLink own z.catchType nm).before args s = true ∧ va_Nc name nm s) := fun z hz => by simp at hz
theorem xg_pass1 {own name n1 : String} {pc : Nat} {a : Nat × Nat × Nat × Nat} {hh : List (Nat × Nat × Nat × Nat)} (h1 : (Cond.classLink own a.2.2.2 n1).before args s = true) (z1 : a.2.2.2 ≠ 0) (g1 : va_Nc name n1 s) : ∀ z ∈ (tableOf (a :: hh)).take 1, covers z pc = false ∨ (z.catchType ≠ 0 ∧ ∃ nm : String, (Cond.classLink own z.catchType nm).before args s = true ∧ va_Nc name nm s) := fun z hz => by
  simp [tableOf] at hz
  subst hz
  exact Or.inr ⟨z1, n1, h1, g1⟩
theorem xg_pass2 {own name n1 n2 : String} {pc : Nat} {a b : Nat × Nat × Nat × Nat} {hh : List (Nat × Nat × Nat × Nat)} (h1 : (Cond.classLink own a.2.2.2 n1).before args s = true) (z1 : a.2.2.2 ≠ 0) (g1 : va_Nc name n1 s) (h2 : (Cond.classLink own b.2.2.2 n2).before args s = true) (z2 : b.2.2.2 ≠ 0) (g2 : va_Nc name n2 s) : ∀ z ∈ (tableOf (a :: b :: hh)).take 2, covers z pc = false ∨ (z.catchType ≠ 0 ∧ ∃ nm : String, (Cond.classLink own z.catchType nm).before args s = true ∧ va_Nc name nm s) := fun z hz => by
  simp [tableOf] at hz
  rcases hz with rfl | rfl
  · exact Or.inr ⟨z1, n1, h1, g1⟩
  · exact Or.inr ⟨z2, n2, h2, g2⟩
end XROWS
end
section
def w_X0_waiting (h : xH) (K : Int32 → xH → Prop) : Prop := K ((h 4 1) - (h 4 2)) h
def w_X0_flying (h : xH) (K : Int32 → xH → Prop) : Prop := K ((h 4 2) - (h 4 3)) h
def w_X0_take_56 (p0 : Int32) (K : Unit → xH → Prop) (h : xH) : Prop := (∀ h7 : xH, h7 = xup h 4 4 ((h 4 4) + 1) → K () h7)
def w_X0_take (p0 : Int32) (h : xH) (K : Unit → xH → Prop) : Prop := ((30 ≤ ((h 4 1) - (h 4 3)) → w_X0_take_56 p0 K   h) ∧ (¬ (30 ≤ ((h 4 1) - (h 4 3))) → (((h 4 1) < 0 → w_X0_take_56 p0 K   h) ∧ (¬ ((h 4 1) < 0) → ((400 ≤ (h 4 1) → w_X0_take_56 p0 K   h) ∧ (¬ (400 ≤ (h 4 1)) → (vp_in (h 4 1) 400 ∧ ∀ h5 : xH, h5 = xup h 5 (h 4 1).toNatClampNeg p0 → (∀ h6 : xH, h6 = xup h5 4 1 ((h5 4 1) + 1) → K () h6))))))))
def w_X0_canSend (h : xH) (K : Int32 → xH → Prop) : Prop := (((h 4 5) = 0 → K 0 h) ∧ (¬ ((h 4 5) = 0) → w_X0_waiting h (fun r2 h3 => ((r2 ≤ 0 → K 0 h3) ∧ (¬ (r2 ≤ 0) → w_X0_flying h3 (fun r5 h6 => ((5 ≤ r5 → K 0 h6) ∧ (¬ (5 ≤ r5) → K 1 h6))))))))
def w_X0_lineAt (p0 : Int32) (h : xH) (K : Int32 → xH → Prop) : Prop := ((p0 < 0 → K (-1) h) ∧ (¬ (p0 < 0) → ((400 ≤ p0 → K (-1) h) ∧ (¬ (400 ≤ p0) → (vp_in p0 400 ∧ K (h 5 p0.toNatClampNeg) h)))))
def w_X0_sendFirst (h : xH) (K : Int32 → xH → Prop) : Prop := w_X0_lineAt (h 4 2) h (fun r1 h2 => (∀ h3 : xH, h3 = xup h2 4 2 ((h2 4 2) + 1) → K r1 h3))
def w_X0_acknowledgeFirst (h : xH) (K : Int32 → xH → Prop) : Prop := w_X0_lineAt (h 4 3) h (fun r1 h2 => (∀ h3 : xH, h3 = xup h2 4 3 ((h2 4 3) + 1) → K r1 h3))
def w_X0_loseConnection (h : xH) (K : Unit → xH → Prop) : Prop := (∀ h1 : xH, h1 = xup h 4 5 0 → (∀ h2 : xH, h2 = xup h1 4 2 (h1 4 3) → K () h2))
def w_X1_isFull (h : xH) (K : Int32 → xH → Prop) : Prop := (((h 6 2) < 400 → K 0 h) ∧ (¬ ((h 6 2) < 400) → K 1 h))
def w_X1_has (p0 : Int32) (h : xH) (K : Int32 → xH → Prop) : Prop := ((p0 < 0 → K 0 h) ∧ (¬ (p0 < 0) → (((h 6 2) ≤ p0 → K 0 h) ∧ (¬ ((h 6 2) ≤ p0) → K 1 h))))
def w_X1_enter (p0 : Int32) (p1 : Int32) (h : xH) (K : Int32 → xH → Prop) : Prop := (((h 6 2) < 0 → K p0 h) ∧ (¬ ((h 6 2) < 0) → ((400 ≤ (h 6 2) → K p0 h) ∧ (¬ (400 ≤ (h 6 2)) → (vp_in (h 6 2) 400 ∧ ∀ h4 : xH, h4 = xup h 7 (h 6 2).toNatClampNeg p0 → (vp_in (h4 6 2) 400 ∧ ∀ h6 : xH, h6 = xup h4 8 (h4 6 2).toNatClampNeg p1 → (∀ h7 : xH, h7 = xup h6 6 2 ((h6 6 2) + 1) → K p0 h7)))))))
def w_X1_fateAt (p0 : Int32) (h : xH) (K : Int32 → xH → Prop) : Prop := ((p0 < 0 → K (-1) h) ∧ (¬ (p0 < 0) → ((400 ≤ p0 → K (-1) h) ∧ (¬ (400 ≤ p0) → (vp_in p0 400 ∧ K (h 7 p0.toNatClampNeg) h)))))
def w_X1_targetsAt (p0 : Int32) (h : xH) (K : Int32 → xH → Prop) : Prop := ((p0 < 0 → K 0 h) ∧ (¬ (p0 < 0) → ((400 ≤ p0 → K 0 h) ∧ (¬ (400 ≤ p0) → (vp_in p0 400 ∧ K (h 8 p0.toNatClampNeg) h)))))
def w_X1_entriesWith_32 (p0 : Int32) (K : Int32 → xH → Prop) (R9 : Int32 → Int32 → xH → Prop) (v2 : Int32) (v3 : Int32) (h : xH) : Prop := (∀ x6 : Int32, x6 = v3 + 1 → R9 (v2) (x6) h)
def w_X1_entriesWith_4 (p0 : Int32) (K : Int32 → xH → Prop) : Nat → Int32 → Int32 → xH → Prop
  | 0 => fun _ _ _ => False
  | n9 + 1 => fun v2 v3 h => (((h 6 2) ≤ v3 → K v2 h) ∧ (¬ ((h 6 2) ≤ v3) → ((400 ≤ v3 → K v2 h) ∧ (¬ (400 ≤ v3) → (vp_in v3 400 ∧ (((h 7 v3.toNatClampNeg) = p0 → (∀ x5 : Int32, x5 = v2 + 1 → w_X1_entriesWith_32 p0 K (w_X1_entriesWith_4 p0 K n9) (x5) (v3) h)) ∧ (¬ ((h 7 v3.toNatClampNeg) = p0) → w_X1_entriesWith_32 p0 K (w_X1_entriesWith_4 p0 K n9) (v2) (v3) h)))))))
theorem w_X1_entriesWith_4_s {p0 : Int32} {K : Int32 → xH → Prop} (n9 : Nat) (v2 : Int32) (v3 : Int32) (h : xH) : w_X1_entriesWith_4 p0 K (n9 + 1) v2 v3 h = ((((h 6 2) ≤ v3 → K v2 h) ∧ (¬ ((h 6 2) ≤ v3) → ((400 ≤ v3 → K v2 h) ∧ (¬ (400 ≤ v3) → (vp_in v3 400 ∧ (((h 7 v3.toNatClampNeg) = p0 → (∀ x5 : Int32, x5 = v2 + 1 → w_X1_entriesWith_32 p0 K (w_X1_entriesWith_4 p0 K n9) (x5) (v3) h)) ∧ (¬ ((h 7 v3.toNatClampNeg) = p0) → w_X1_entriesWith_32 p0 K (w_X1_entriesWith_4 p0 K n9) (v2) (v3) h)))))))) := rfl
def w_X1_entriesWith (p0 : Int32) (h : xH) (K : Int32 → xH → Prop) : Prop := (∃ n : Nat, w_X1_entriesWith_4 p0 K n (0) (0) h)
def w_X2_limit (k : Nat) (p0 : Int32) (p1 : Int32) (p2 : Int32) (h : xH) (K : Unit → xH → Prop) : Prop := (∀ h1 : xH, h1 = xup h k 3 p0 → (∀ h2 : xH, h2 = xup h1 k 4 p1 → (∀ h3 : xH, h3 = xup h2 k 5 p2 → (((h3 k 8) ≤ p2 → K () h3) ∧ (¬ ((h3 k 8) ≤ p2) → (∀ h5 : xH, h5 = xup h3 k 8 p2 → K () h5))))))
def w_X2_isEmpty (k : Nat) (h : xH) (K : Int32 → xH → Prop) : Prop := (vp_in 0 6 ∧ (((h k 2) = (h (k + 20) (0 : Int32).toNatClampNeg) → K 1 h) ∧ (¬ ((h k 2) = (h (k + 20) (0 : Int32).toNatClampNeg)) → K 0 h)))
def w_X2_isAged (k : Nat) (p0 : Int32) (h : xH) (K : Int32 → xH → Prop) : Prop := (((h k 4) = 0 → K 0 h) ∧ (¬ ((h k 4) = 0) → w_X2_isEmpty k h (fun r2 h3 => ((r2 = 0 → (((p0 - (h3 k 6)) < (h3 k 4) → K 0 h3) ∧ (¬ ((p0 - (h3 k 6)) < (h3 k 4)) → K 1 h3))) ∧ (¬ (r2 = 0) → K 0 h3)))))
def w_X2_turnOver_2 (k : Nat) (K : Unit → xH → Prop) : Nat → Int32 → xH → Prop
  | 0 => fun _ _ => False
  | n9 + 1 => fun v1 h => ((v1 ≤ 0 → (vp_in 0 6 ∧ ∀ h3 : xH, h3 = xup h (k + 20) (0 : Int32).toNatClampNeg (h k 2) → (∀ h4 : xH, h4 = xup h3 k 7 0 → (∀ h5 : xH, h5 = xup h4 k 9 ((h4 k 9) + 1) → (((h5 k 5) ≤ (h5 k 8) → K () h5) ∧ (¬ ((h5 k 5) ≤ (h5 k 8)) → (∀ h7 : xH, h7 = xup h5 k 8 ((h5 k 8) + 1) → K () h7))))))) ∧ (¬ (v1 ≤ 0) → (vp_in (v1 - 1) 6 ∧ (vp_in v1 6 ∧ ∀ h10 : xH, h10 = xup h (k + 20) v1.toNatClampNeg (h (k + 20) (v1 - 1).toNatClampNeg) → (∀ x11 : Int32, x11 = v1 + (-1) → w_X2_turnOver_2 k K n9 (x11) h10)))))
theorem w_X2_turnOver_2_s {k : Nat} {K : Unit → xH → Prop} (n9 : Nat) (v1 : Int32) (h : xH) : w_X2_turnOver_2 k K (n9 + 1) v1 h = (((v1 ≤ 0 → (vp_in 0 6 ∧ ∀ h3 : xH, h3 = xup h (k + 20) (0 : Int32).toNatClampNeg (h k 2) → (∀ h4 : xH, h4 = xup h3 k 7 0 → (∀ h5 : xH, h5 = xup h4 k 9 ((h4 k 9) + 1) → (((h5 k 5) ≤ (h5 k 8) → K () h5) ∧ (¬ ((h5 k 5) ≤ (h5 k 8)) → (∀ h7 : xH, h7 = xup h5 k 8 ((h5 k 8) + 1) → K () h7))))))) ∧ (¬ (v1 ≤ 0) → (vp_in (v1 - 1) 6 ∧ (vp_in v1 6 ∧ ∀ h10 : xH, h10 = xup h (k + 20) v1.toNatClampNeg (h (k + 20) (v1 - 1).toNatClampNeg) → (∀ x11 : Int32, x11 = v1 + (-1) → w_X2_turnOver_2 k K n9 (x11) h10)))))) := rfl
def w_X2_turnOver (k : Nat) (h : xH) (K : Unit → xH → Prop) : Prop := (∃ n : Nat, w_X2_turnOver_2 k K n (5) h)
def w_X2_add_36 (k : Nat) (p0 : Int32) (p1 : Int32) (p2 : Int32) (K : Unit → xH → Prop) (h : xH) : Prop := (((h k 2) < 0 → K () h) ∧ (¬ ((h k 2) < 0) → ((400 ≤ (h k 2) → K () h) ∧ (¬ (400 ≤ (h k 2)) → (vp_in (h k 2) 400 ∧ ∀ h14 : xH, h14 = xup h (k + 10) (h k 2).toNatClampNeg p0 → (∀ h15 : xH, h15 = xup h14 k 2 ((h14 k 2) + 1) → (∀ h16 : xH, h16 = xup h15 k 7 ((h15 k 7) + p1) → K () h16)))))))
def w_X2_add_24 (k : Nat) (p0 : Int32) (p1 : Int32) (p2 : Int32) (K : Unit → xH → Prop) (h : xH) : Prop := w_X2_isEmpty k h (fun r7 h8 => ((r7 = 0 → w_X2_add_36 k p0 p1 p2 K   h8) ∧ (¬ (r7 = 0) → (∀ h10 : xH, h10 = xup h8 k 6 p2 → w_X2_add_36 k p0 p1 p2 K   h10))))
def w_X2_add (k : Nat) (p0 : Int32) (p1 : Int32) (p2 : Int32) (h : xH) (K : Unit → xH → Prop) : Prop := w_X2_isEmpty k h (fun r1 h2 => ((r1 = 0 → ((((h2 k 7) + p1) ≤ (h2 k 3) → w_X2_add_24 k p0 p1 p2 K   h2) ∧ (¬ (((h2 k 7) + p1) ≤ (h2 k 3)) → w_X2_turnOver k h2 (fun _ h6 => w_X2_add_24 k p0 p1 p2 K   h6)))) ∧ (¬ (r1 = 0) → w_X2_add_24 k p0 p1 p2 K   h2)))
def w_X2_has (k : Nat) (p0 : Int32) (h : xH) (K : Int32 → xH → Prop) : Prop := ((p0 < (-1) → K 0 h) ∧ (¬ (p0 < (-1)) → (((h k 8) ≤ p0 → K 0 h) ∧ (¬ ((h k 8) ≤ p0) → K 1 h))))
def w_X2_startOf (k : Nat) (p0 : Int32) (h : xH) (K : Int32 → xH → Prop) : Prop := (∀ x1 : Int32, x1 = (p0 + 1) → ((x1 < 0 → K (h k 2) h) ∧ (¬ (x1 < 0) → ((6 ≤ x1 → K (h k 2) h) ∧ (¬ (6 ≤ x1) → (vp_in x1 6 ∧ K (h (k + 20) x1.toNatClampNeg) h))))))
def w_X2_linesOf_19 (k : Nat) (p0 : Int32) (K : Int32 → xH → Prop) (s0 : Int32) (h : xH) : Prop := w_X2_startOf k p0 h (fun r4 h5 => K (s0 - r4) h5)
def w_X2_linesOf (k : Nat) (p0 : Int32) (h : xH) (K : Int32 → xH → Prop) : Prop := ((p0 = (-1) → w_X2_linesOf_19 k p0 K  ((h k 2)) h) ∧ (¬ (p0 = (-1)) → w_X2_startOf k (p0 - 1) h (fun r2 h3 => w_X2_linesOf_19 k p0 K  (r2) h3)))
def w_X2_lineAt (k : Nat) (p0 : Int32) (p1 : Int32) (h : xH) (K : Int32 → xH → Prop) : Prop := w_X2_startOf k p0 h (fun r1 h2 => (∀ x3 : Int32, x3 = (r1 + p1) → ((x3 < 0 → K (-1) h2) ∧ (¬ (x3 < 0) → ((400 ≤ x3 → K (-1) h2) ∧ (¬ (400 ≤ x3) → (vp_in x3 400 ∧ K (h2 (k + 10) x3.toNatClampNeg) h2)))))))
def w_X3_put (k : Nat) (p0 : Int32) (p1 : Int32) (p2 : Int32) (p3 : Int32) (h : xH) (K : Unit → xH → Prop) : Prop := (∀ h1 : xH, h1 = xup h k 0 1 → (∀ h2 : xH, h2 = xup h1 k 1 p0 → (∀ h3 : xH, h3 = xup h2 k 2 p1 → (∀ h4 : xH, h4 = xup h3 k 3 p2 → (∀ h5 : xH, h5 = xup h4 k 4 p3 → K () h5)))))
def w_X3_fits_43 (k : Nat) (p0 : Int32) (p1 : Int32) (p2 : Int32) (K : Int32 → xH → Prop) (h : xH) : Prop := K 1 h
def w_X3_fits (k : Nat) (p0 : Int32) (p1 : Int32) (p2 : Int32) (h : xH) (K : Int32 → xH → Prop) : Prop := (((h k 0) = 0 → K 0 h) ∧ (¬ ((h k 0) = 0) → (((((h k 1) >>> (p1 &&& 31)) &&& 1) = 1 → (((h k 2) < p2 → K 0 h) ∧ (¬ ((h k 2) < p2) → (((h k 3) = (-1) → w_X3_fits_43 k p0 p1 p2 K   h) ∧ (¬ ((h k 3) = (-1)) → (((h k 3) = p0 → w_X3_fits_43 k p0 p1 p2 K   h) ∧ (¬ ((h k 3) = p0) → K 0 h))))))) ∧ (¬ ((((h k 1) >>> (p1 &&& 31)) &&& 1) = 1) → K 0 h))))
def w_X4_capTokens (k : Nat) (p0 : Int32) (h : xH) (K : Unit → xH → Prop) : Prop := (((h k 1) ≤ p0 → K () h) ∧ (¬ ((h k 1) ≤ p0) → (∀ h2 : xH, h2 = xup h k 1 p0 → K () h2)))
def w_X4_gainToken (k : Nat) (p0 : Int32) (h : xH) (K : Unit → xH → Prop) : Prop := ((p0 ≤ (h k 1) → K () h) ∧ (¬ (p0 ≤ (h k 1)) → (∀ h2 : xH, h2 = xup h k 1 ((h k 1) + 1) → K () h2)))
def w_X4_lastIs (k : Nat) (p0 : Int32) (p1 : Int32) (p2 : Int32) (p3 : Int32) (h : xH) (K : Int32 → xH → Prop) : Prop := (((h k 5) = p0 → (((h k 6) = p1 → (((h k 7) = p2 → (((h k 8) = p3 → K 1 h) ∧ (¬ ((h k 8) = p3) → K 0 h))) ∧ (¬ ((h k 7) = p2) → K 0 h))) ∧ (¬ ((h k 6) = p1) → K 0 h))) ∧ (¬ ((h k 5) = p0) → K 0 h))
def w_X4_setLast (k : Nat) (p0 : Int32) (p1 : Int32) (p2 : Int32) (p3 : Int32) (h : xH) (K : Unit → xH → Prop) : Prop := (∀ h1 : xH, h1 = xup h k 5 p0 → (∀ h2 : xH, h2 = xup h1 k 6 p1 → (∀ h3 : xH, h3 = xup h2 k 7 p2 → (∀ h4 : xH, h4 = xup h3 k 8 p3 → K () h4))))
def w_X4_countRepeat_12 (k : Nat) (p0 : Int32) (K : Unit → xH → Prop) (h : xH) : Prop := (∀ h3 : xH, h3 = xup h k 2 ((h k 2) + 1) → K () h3)
def w_X4_countRepeat (k : Nat) (p0 : Int32) (h : xH) (K : Unit → xH → Prop) : Prop := (((h k 2) = 0 → (∀ h2 : xH, h2 = xup h k 3 p0 → w_X4_countRepeat_12 k p0 K   h2)) ∧ (¬ ((h k 2) = 0) → w_X4_countRepeat_12 k p0 K   h))
def w_X5_isWithin (p0 : Int32) (p1 : Int32) (p2 : Int32) (h : xH) (K : Int32 → xH → Prop) : Prop := ((p0 < p1 → K 0 h) ∧ (¬ (p0 < p1) → ((p2 < p0 → K 0 h) ∧ (¬ (p2 < p0) → K 1 h))))
def w_X5_setRate_48 (p0 : Int32) (p1 : Int32) (K : Int32 → xH → Prop) (KX : String → xH → Prop) : Nat → Int32 → Int32 → xH → Prop
  | 0 => fun _ _ _ => False
  | n9 + 1 => fun v3 v4 h => ((6 ≤ v4 → K v3 h) ∧ (¬ (6 ≤ v4) → (vp_in v4 6 ∧ w_X4_capTokens (10 + v4.toNatClampNeg) p0 h (fun _ h15 => (∀ x16 : Int32, x16 = v4 + 1 → w_X5_setRate_48 p0 p1 K KX n9 (v3) (x16) h15)))))
theorem w_X5_setRate_48_s {p0 : Int32} {p1 : Int32} {K : Int32 → xH → Prop} {KX : String → xH → Prop} (n9 : Nat) (v3 : Int32) (v4 : Int32) (h : xH) : w_X5_setRate_48 p0 p1 K KX (n9 + 1) v3 v4 h = (((6 ≤ v4 → K v3 h) ∧ (¬ (6 ≤ v4) → (vp_in v4 6 ∧ w_X4_capTokens (10 + v4.toNatClampNeg) p0 h (fun _ h15 => (∀ x16 : Int32, x16 = v4 + 1 → w_X5_setRate_48 p0 p1 K KX n9 (v3) (x16) h15)))))) := rfl
def w_X5_setRate (p0 : Int32) (p1 : Int32) (h : xH) (K : Int32 → xH → Prop) (KX : String → xH → Prop) : Prop := w_X5_isWithin p0 (1 : Int32) (50 : Int32) h (fun r1 h2 => ((r1 = 0 → KX "java/lang/IllegalArgumentException" h2) ∧ (¬ (r1 = 0) → w_X5_isWithin p1 (1 : Int32) (60 : Int32) h2 (fun r4 h5 => ((r4 = 0 → KX "java/lang/IllegalArgumentException" h5) ∧ (¬ (r4 = 0) → (∀ x7 : Int32, x7 = (h5 0 6) → (∀ h8 : xH, h8 = xup h5 0 6 p0 → (∀ h9 : xH, h9 = xup h8 0 7 p1 → (∃ n : Nat, w_X5_setRate_48 p0 p1 K KX n (x7) (0) h9))))))))))
def w_X5_setFold (p0 : Int32) (h : xH) (K : Int32 → xH → Prop) (KX : String → xH → Prop) : Prop := w_X5_isWithin p0 (0 : Int32) (100 : Int32) h (fun r1 h2 => ((r1 = 0 → KX "java/lang/IllegalArgumentException" h2) ∧ (¬ (r1 = 0) → (∀ x4 : Int32, x4 = (h2 0 8) → (∀ h5 : xH, h5 = xup h2 0 8 p0 → K x4 h5)))))
def w_X5_ruleAt (p0 : Int32) (h : xH) (K : Nat → xH → Prop) (KX : String → xH → Prop) : Prop := ((p0 < 0 → KX "java/lang/IndexOutOfBoundsException" h) ∧ (¬ (p0 < 0) → ((p0 < 6 → (vp_in p0 6 ∧ K (20 + p0.toNatClampNeg) h)) ∧ (¬ (p0 < 6) → KX "java/lang/IndexOutOfBoundsException" h))))
def w_X5_rulesThatAreSet_25 (K : Int32 → xH → Prop) (R9 : Int32 → Int32 → xH → Prop) (v1 : Int32) (v2 : Int32) (h : xH) : Prop := (∀ x7 : Int32, x7 = v2 + 1 → R9 (v1) (x7) h)
def w_X5_rulesThatAreSet_4 (K : Int32 → xH → Prop) : Nat → Int32 → Int32 → xH → Prop
  | 0 => fun _ _ _ => False
  | n9 + 1 => fun v1 v2 h => ((6 ≤ v2 → K v1 h) ∧ (¬ (6 ≤ v2) → (vp_in v2 6 ∧ (((h (20 + v2.toNatClampNeg) 0) = 0 → w_X5_rulesThatAreSet_25 K (w_X5_rulesThatAreSet_4 K n9) (v1) (v2) h) ∧ (¬ ((h (20 + v2.toNatClampNeg) 0) = 0) → (∀ x6 : Int32, x6 = v1 + 1 → w_X5_rulesThatAreSet_25 K (w_X5_rulesThatAreSet_4 K n9) (x6) (v2) h))))))
theorem w_X5_rulesThatAreSet_4_s {K : Int32 → xH → Prop} (n9 : Nat) (v1 : Int32) (v2 : Int32) (h : xH) : w_X5_rulesThatAreSet_4 K (n9 + 1) v1 v2 h = (((6 ≤ v2 → K v1 h) ∧ (¬ (6 ≤ v2) → (vp_in v2 6 ∧ (((h (20 + v2.toNatClampNeg) 0) = 0 → w_X5_rulesThatAreSet_25 K (w_X5_rulesThatAreSet_4 K n9) (v1) (v2) h) ∧ (¬ ((h (20 + v2.toNatClampNeg) 0) = 0) → (∀ x6 : Int32, x6 = v1 + 1 → w_X5_rulesThatAreSet_25 K (w_X5_rulesThatAreSet_4 K n9) (x6) (v2) h))))))) := rfl
def w_X5_rulesThatAreSet (h : xH) (K : Int32 → xH → Prop) : Prop := (∃ n : Nat, w_X5_rulesThatAreSet_4 K n (0) (0) h)
def w_X5_setRule (p0 : Int32) (p1 : Int32) (p2 : Int32) (p3 : Int32) (p4 : Int32) (h : xH) (K : Int32 → xH → Prop) (KX : String → xH → Prop) : Prop := w_X5_ruleAt p0 h (fun r1 h2 => (20 ≤ r1 ∧ r1 < 26) ∧ w_X5_isWithin p3 ((-1) : Int32) (5 : Int32) h2 (fun r4 h5 => ((r4 = 0 → KX "java/lang/IndexOutOfBoundsException" h5) ∧ (¬ (r4 = 0) → w_X5_isWithin p1 (0 : Int32) (255 : Int32) h5 (fun r7 h8 => ((r7 = 0 → KX "java/lang/IllegalArgumentException" h8) ∧ (¬ (r7 = 0) → w_X5_isWithin p2 (0 : Int32) (7 : Int32) h8 (fun r10 h11 => ((r10 = 0 → KX "java/lang/IllegalArgumentException" h11) ∧ (¬ (r10 = 0) → w_X5_isWithin p4 (0 : Int32) (4 : Int32) h11 (fun r13 h14 => ((r13 = 0 → KX "java/lang/IllegalArgumentException" h14) ∧ (¬ (r13 = 0) → w_X3_put r1 p1 p2 p3 p4 h14 (fun _ h17 => w_X5_rulesThatAreSet h17 (fun r18 h19 => K r18 h19))))))))))))))) KX
def w_X5_removeRule (p0 : Int32) (h : xH) (K : Int32 → xH → Prop) (KX : String → xH → Prop) : Prop := w_X5_ruleAt p0 h (fun r1 h2 => (20 ≤ r1 ∧ r1 < 26) ∧ (∀ x4 : Int32, x4 = (h2 r1 0) → (∀ h5 : xH, h5 = xup h2 r1 0 0 → ((narrow .boolean (.int x4) = .int x4) ∧ K x4 h5)))) KX
def w_X5_fileAt (p0 : Int32) (h : xH) (K : Nat → xH → Prop) (KX : String → xH → Prop) : Prop := ((p0 < 0 → KX "java/lang/IndexOutOfBoundsException" h) ∧ (¬ (p0 < 0) → ((p0 < 4 → (vp_in p0 4 ∧ K (30 + p0.toNatClampNeg) h)) ∧ (¬ (p0 < 4) → KX "java/lang/IndexOutOfBoundsException" h))))
def w_X5_setFile (p0 : Int32) (p1 : Int32) (p2 : Int32) (p3 : Int32) (h : xH) (K : Int32 → xH → Prop) (KX : String → xH → Prop) : Prop := w_X5_fileAt p0 h (fun r1 h2 => (30 ≤ r1 ∧ r1 < 34) ∧ w_X5_isWithin p1 (200 : Int32) (5000 : Int32) h2 (fun r4 h5 => ((r4 = 0 → KX "java/lang/IllegalArgumentException" h5) ∧ (¬ (r4 = 0) → w_X5_isWithin p2 (0 : Int32) (1000 : Int32) h5 (fun r7 h8 => ((r7 = 0 → KX "java/lang/IllegalArgumentException" h8) ∧ (¬ (r7 = 0) → w_X5_isWithin p3 (0 : Int32) (5 : Int32) h8 (fun r10 h11 => ((r10 = 0 → KX "java/lang/IllegalArgumentException" h11) ∧ (¬ (r10 = 0) → w_X2_limit r1 p1 p2 p3 h11 (fun _ h14 => K (h14 r1 7) h14))))))))))) KX
def w_X5_senderAt (p0 : Int32) (h : xH) (K : Nat → xH → Prop) (KX : String → xH → Prop) : Prop := ((p0 < 0 → KX "java/lang/IndexOutOfBoundsException" h) ∧ (¬ (p0 < 0) → ((p0 < 6 → (vp_in p0 6 ∧ K (10 + p0.toNatClampNeg) h)) ∧ (¬ (p0 < 6) → KX "java/lang/IndexOutOfBoundsException" h))))
def w_X5_route_116 (p0 : Int32) (p1 : Int32) (p2 : Int32) (p3 : Int32) (p4 : Int32) (K : Int32 → xH → Prop) (R9 : Int32 → Int32 → xH → Prop) (v6 : Int32) (v7 : Int32) (h : xH) : Prop := (∀ x22 : Int32, x22 = v7 + 1 → R9 (v6) (x22) h)
def w_X5_route_108 (p0 : Int32) (p1 : Int32) (p2 : Int32) (p3 : Int32) (p4 : Int32) (K : Int32 → xH → Prop) (R9 : Int32 → Int32 → xH → Prop) (v6 : Int32) (v7 : Int32) (h : xH) : Prop := w_X0_take p0 h (fun _ h24 => w_X5_route_116 p0 p1 p2 p3 p4 K (R9) (v6) (v7) h24)
def w_X5_route_41 (p0 : Int32) (p1 : Int32) (p2 : Int32) (p3 : Int32) (p4 : Int32) (K : Int32 → xH → Prop) (R9 : Int32 → Int32 → xH → Prop) (v6 : Int32) (v7 : Int32) (v8 : Int32) (s0 : Int32) (h : xH) : Prop := ((s0 = 0 → (vp_in v7 6 ∧ w_X3_fits (20 + v7.toNatClampNeg) p1 p2 p3 h (fun r11 h12 => ((r11 = 0 → w_X5_route_116 p0 p1 p2 p3 p4 K (R9) (v6) (v7) h12) ∧ (¬ (r11 = 0) → (∀ x14 : Int32, x14 = (v6 ||| ((1 : Int32) <<< (v8 &&& 31))) → ((v8 < 0 → w_X5_route_108 p0 p1 p2 p3 p4 K (R9) (x14) (v7) h12) ∧ (¬ (v8 < 0) → ((4 ≤ v8 → w_X5_route_108 p0 p1 p2 p3 p4 K (R9) (x14) (v7) h12) ∧ (¬ (4 ≤ v8) → (vp_in v8 4 ∧ w_X2_add (30 + v8.toNatClampNeg) p0 p4 (h12 0 5) h12 (fun _ h21 => w_X5_route_116 p0 p1 p2 p3 p4 K (R9) (x14) (v7) h21)))))))))))) ∧ (¬ (s0 = 0) → w_X5_route_116 p0 p1 p2 p3 p4 K (R9) (v6) (v7) h))
def w_X5_route_6 (p0 : Int32) (p1 : Int32) (p2 : Int32) (p3 : Int32) (p4 : Int32) (K : Int32 → xH → Prop) : Nat → Int32 → Int32 → xH → Prop
  | 0 => fun _ _ _ => False
  | n9 + 1 => fun v6 v7 h => ((6 ≤ v7 → K v6 h) ∧ (¬ (6 ≤ v7) → (vp_in v7 6 ∧ (∀ x5 : Int32, x5 = (h (20 + v7.toNatClampNeg) 4) → ((((v6 >>> (x5 &&& 31)) &&& 1) = 1 → w_X5_route_41 p0 p1 p2 p3 p4 K (w_X5_route_6 p0 p1 p2 p3 p4 K n9) (v6) (v7) (x5) (1) h) ∧ (¬ (((v6 >>> (x5 &&& 31)) &&& 1) = 1) → w_X5_route_41 p0 p1 p2 p3 p4 K (w_X5_route_6 p0 p1 p2 p3 p4 K n9) (v6) (v7) (x5) (0) h))))))
theorem w_X5_route_6_s {p0 : Int32} {p1 : Int32} {p2 : Int32} {p3 : Int32} {p4 : Int32} {K : Int32 → xH → Prop} (n9 : Nat) (v6 : Int32) (v7 : Int32) (h : xH) : w_X5_route_6 p0 p1 p2 p3 p4 K (n9 + 1) v6 v7 h = (((6 ≤ v7 → K v6 h) ∧ (¬ (6 ≤ v7) → (vp_in v7 6 ∧ (∀ x5 : Int32, x5 = (h (20 + v7.toNatClampNeg) 4) → ((((v6 >>> (x5 &&& 31)) &&& 1) = 1 → w_X5_route_41 p0 p1 p2 p3 p4 K (w_X5_route_6 p0 p1 p2 p3 p4 K n9) (v6) (v7) (x5) (1) h) ∧ (¬ (((v6 >>> (x5 &&& 31)) &&& 1) = 1) → w_X5_route_41 p0 p1 p2 p3 p4 K (w_X5_route_6 p0 p1 p2 p3 p4 K n9) (v6) (v7) (x5) (0) h))))))) := rfl
def w_X5_route (p0 : Int32) (p1 : Int32) (p2 : Int32) (p3 : Int32) (p4 : Int32) (h : xH) (K : Int32 → xH → Prop) : Prop := (∃ n : Nat, w_X5_route_6 p0 p1 p2 p3 p4 K n (0) (0) h)
def w_X5_tellRepeats (k : Nat) (h : xH) (K : Unit → xH → Prop) : Prop := (((h k 2) ≤ 0 → K () h) ∧ (¬ ((h k 2) ≤ 0) → (∀ x2 : Int32, x2 = (((10000 : Int32) * ((h k 0) + 1)) + (h k 2)) → w_X5_route x2 (h k 0) (h k 5) (h k 6) (15 : Int32) h (fun r3 h4 => (∀ h5 : xH, h5 = xup h4 k 2 0 → K () h5)))))
def w_X5_tellDrops (k : Nat) (h : xH) (K : Unit → xH → Prop) : Prop := (((h k 4) ≤ 0 → K () h) ∧ (¬ ((h k 4) ≤ 0) → (∀ x2 : Int32, x2 = (((100000 : Int32) * ((h k 0) + 1)) + (h k 4)) → w_X5_route x2 (h k 0) (5 : Int32) (4 : Int32) (20 : Int32) h (fun r3 h4 => (∀ h5 : xH, h5 = xup h4 k 4 0 → K () h5)))))
def w_X5_message_215 (p0 : Int32) (p1 : Int32) (p2 : Int32) (p3 : Int32) (p4 : Int32) (K : Int32 → xH → Prop) (KX : String → xH → Prop) (v7 : Int32) (s0 : Nat) (s1 : Int32) (h : xH) : Prop := w_X1_enter s1 v7 h (fun r41 h42 => K r41 h42)
def w_X5_message_120 (p0 : Int32) (p1 : Int32) (p2 : Int32) (p3 : Int32) (p4 : Int32) (K : Int32 → xH → Prop) (KX : String → xH → Prop) (v6 : Nat) (h : xH) : Prop := w_X5_tellRepeats v6 h (fun _ h28 => (((h28 v6 1) = 0 → (∀ h38 : xH, h38 = xup h28 v6 4 ((h28 v6 4) + 1) → w_X1_enter (1 : Int32) (0 : Int32) h38 (fun r39 h40 => K r39 h40))) ∧ (¬ ((h28 v6 1) = 0) → (∀ h30 : xH, h30 = xup h28 v6 1 ((h28 v6 1) - 1) → w_X5_tellDrops v6 h30 (fun _ h32 => w_X4_setLast v6 p1 p2 p3 p4 h32 (fun _ h34 => w_X5_route (h34 6 2) p0 p1 p2 p4 h34 (fun r35 h36 => ((r35 = 0 → w_X5_message_215 p0 p1 p2 p3 p4 K KX  (r35) (6) (2) h36) ∧ (¬ (r35 = 0) → w_X5_message_215 p0 p1 p2 p3 p4 K KX  (r35) (6) (3) h36)))))))))
def w_X5_message (p0 : Int32) (p1 : Int32) (p2 : Int32) (p3 : Int32) (p4 : Int32) (h : xH) (K : Int32 → xH → Prop) (KX : String → xH → Prop) : Prop := w_X5_senderAt p0 h (fun r1 h2 => (10 ≤ r1 ∧ r1 < 16) ∧ w_X5_isWithin p1 (0 : Int32) (7 : Int32) h2 (fun r4 h5 => ((r4 = 0 → KX "java/lang/IllegalArgumentException" h5) ∧ (¬ (r4 = 0) → w_X5_isWithin p2 (0 : Int32) (7 : Int32) h5 (fun r7 h8 => ((r7 = 0 → KX "java/lang/IllegalArgumentException" h8) ∧ (¬ (r7 = 0) → w_X5_isWithin p3 (0 : Int32) (99 : Int32) h8 (fun r10 h11 => ((r10 = 0 → KX "java/lang/IllegalArgumentException" h11) ∧ (¬ (r10 = 0) → w_X5_isWithin p4 (1 : Int32) (200 : Int32) h11 (fun r13 h14 => ((r13 = 0 → KX "java/lang/IllegalArgumentException" h14) ∧ (¬ (r13 = 0) → w_X1_isFull h14 (fun r16 h17 => ((r16 = 0 → (((h17 0 8) = 0 → w_X5_message_120 p0 p1 p2 p3 p4 K KX  (r1) h17) ∧ (¬ ((h17 0 8) = 0) → w_X4_lastIs r1 p1 p2 p3 p4 h17 (fun r20 h21 => ((r20 = 0 → w_X5_message_120 p0 p1 p2 p3 p4 K KX  (r1) h21) ∧ (¬ (r20 = 0) → w_X4_countRepeat r1 (h21 0 5) h21 (fun _ h24 => w_X1_enter (0 : Int32) (0 : Int32) h24 (fun r25 h26 => K r25 h26)))))))) ∧ (¬ (r16 = 0) → KX "java/lang/IllegalStateException" h17)))))))))))))))) KX
def w_X5_rotationsOfAllFiles_4 (K : Int32 → xH → Prop) : Nat → Int32 → Int32 → xH → Prop
  | 0 => fun _ _ _ => False
  | n9 + 1 => fun v1 v2 h => ((4 ≤ v2 → K v1 h) ∧ (¬ (4 ≤ v2) → (vp_in v2 4 ∧ (∀ x5 : Int32, x5 = (v1 + (h (30 + v2.toNatClampNeg) 9)) → (∀ x6 : Int32, x6 = v2 + 1 → w_X5_rotationsOfAllFiles_4 K n9 (x5) (x6) h)))))
theorem w_X5_rotationsOfAllFiles_4_s {K : Int32 → xH → Prop} (n9 : Nat) (v1 : Int32) (v2 : Int32) (h : xH) : w_X5_rotationsOfAllFiles_4 K (n9 + 1) v1 v2 h = (((4 ≤ v2 → K v1 h) ∧ (¬ (4 ≤ v2) → (vp_in v2 4 ∧ (∀ x5 : Int32, x5 = (v1 + (h (30 + v2.toNatClampNeg) 9)) → (∀ x6 : Int32, x6 = v2 + 1 → w_X5_rotationsOfAllFiles_4 K n9 (x5) (x6) h)))))) := rfl
def w_X5_rotationsOfAllFiles (h : xH) (K : Int32 → xH → Prop) : Prop := (∃ n : Nat, w_X5_rotationsOfAllFiles_4 K n (0) (0) h)
def w_X5_giveTokens_2 (K : Unit → xH → Prop) : Nat → Int32 → xH → Prop
  | 0 => fun _ _ => False
  | n9 + 1 => fun v1 h => ((6 ≤ v1 → K () h) ∧ (¬ (6 ≤ v1) → (vp_in v1 6 ∧ w_X4_gainToken (10 + v1.toNatClampNeg) (h 0 6) h (fun _ h6 => (∀ x7 : Int32, x7 = v1 + 1 → w_X5_giveTokens_2 K n9 (x7) h6)))))
theorem w_X5_giveTokens_2_s {K : Unit → xH → Prop} (n9 : Nat) (v1 : Int32) (h : xH) : w_X5_giveTokens_2 K (n9 + 1) v1 h = (((6 ≤ v1 → K () h) ∧ (¬ (6 ≤ v1) → (vp_in v1 6 ∧ w_X4_gainToken (10 + v1.toNatClampNeg) (h 0 6) h (fun _ h6 => (∀ x7 : Int32, x7 = v1 + 1 → w_X5_giveTokens_2 K n9 (x7) h6)))))) := rfl
def w_X5_giveTokens (h : xH) (K : Unit → xH → Prop) : Prop := (∃ n : Nat, w_X5_giveTokens_2 K n (0) h)
def w_X5_firstWithDueRepeats_69 (K : Option Nat → xH → Prop) (R9 : Option Nat → Int32 → xH → Prop) (v1 : Option Nat) (v2 : Int32) (h : xH) : Prop := (∀ x13 : Int32, x13 = v2 + 1 → R9 (v1) (x13) h)
def w_X5_firstWithDueRepeats_67 (K : Option Nat → xH → Prop) (R9 : Option Nat → Int32 → xH → Prop) (v2 : Int32) (v3 : Nat) (h : xH) : Prop := w_X5_firstWithDueRepeats_69 K (R9) (some (v3)) (v2) h
def w_X5_firstWithDueRepeats_45 (K : Option Nat → xH → Prop) (R9 : Option Nat → Int32 → xH → Prop) (v1 : Option Nat) (v2 : Int32) (v3 : Nat) (s0 : Int32) (h : xH) : Prop := ((s0 = 0 → w_X5_firstWithDueRepeats_69 K (R9) (v1) (v2) h) ∧ (¬ (s0 = 0) → ((v1 = none → w_X5_firstWithDueRepeats_67 K (R9) (v2) (v3) h) ∧ (∀ k10 : Nat, v1 = some k10 → (((h k10 3) ≤ (h v3 3) → w_X5_firstWithDueRepeats_69 K (R9) (some (k10)) (v2) h) ∧ (¬ ((h k10 3) ≤ (h v3 3)) → w_X5_firstWithDueRepeats_67 K (R9) (v2) (v3) h))))))
def w_X5_firstWithDueRepeats_44 (K : Option Nat → xH → Prop) (R9 : Option Nat → Int32 → xH → Prop) (v1 : Option Nat) (v2 : Int32) (v3 : Nat) (h : xH) : Prop := w_X5_firstWithDueRepeats_45 K (R9) (v1) (v2) (v3) (0) h
def w_X5_firstWithDueRepeats_4 (K : Option Nat → xH → Prop) : Nat → Option Nat → Int32 → xH → Prop
  | 0 => fun _ _ _ => False
  | n9 + 1 => fun v1 v2 h => ((6 ≤ v2 → ((v1 = none → K none h) ∧ (∀ k2 : Nat, v1 = some k2 → K (some k2) h))) ∧ (¬ (6 ≤ v2) → (vp_in v2 6 ∧ (((h (10 + v2.toNatClampNeg) 2) ≤ 0 → w_X5_firstWithDueRepeats_44 K (w_X5_firstWithDueRepeats_4 K n9) (v1) (v2) ((10 + v2.toNatClampNeg)) h) ∧ (¬ ((h (10 + v2.toNatClampNeg) 2) ≤ 0) → ((((h 0 5) - (h (10 + v2.toNatClampNeg) 3)) < (h 0 8) → w_X5_firstWithDueRepeats_44 K (w_X5_firstWithDueRepeats_4 K n9) (v1) (v2) ((10 + v2.toNatClampNeg)) h) ∧ (¬ (((h 0 5) - (h (10 + v2.toNatClampNeg) 3)) < (h 0 8)) → w_X5_firstWithDueRepeats_45 K (w_X5_firstWithDueRepeats_4 K n9) (v1) (v2) ((10 + v2.toNatClampNeg)) (1) h)))))))
theorem w_X5_firstWithDueRepeats_4_s {K : Option Nat → xH → Prop} (n9 : Nat) (v1 : Option Nat) (v2 : Int32) (h : xH) : w_X5_firstWithDueRepeats_4 K (n9 + 1) v1 v2 h = (((6 ≤ v2 → ((v1 = none → K none h) ∧ (∀ k2 : Nat, v1 = some k2 → K (some k2) h))) ∧ (¬ (6 ≤ v2) → (vp_in v2 6 ∧ (((h (10 + v2.toNatClampNeg) 2) ≤ 0 → w_X5_firstWithDueRepeats_44 K (w_X5_firstWithDueRepeats_4 K n9) (v1) (v2) ((10 + v2.toNatClampNeg)) h) ∧ (¬ ((h (10 + v2.toNatClampNeg) 2) ≤ 0) → ((((h 0 5) - (h (10 + v2.toNatClampNeg) 3)) < (h 0 8) → w_X5_firstWithDueRepeats_44 K (w_X5_firstWithDueRepeats_4 K n9) (v1) (v2) ((10 + v2.toNatClampNeg)) h) ∧ (¬ (((h 0 5) - (h (10 + v2.toNatClampNeg) 3)) < (h 0 8)) → w_X5_firstWithDueRepeats_45 K (w_X5_firstWithDueRepeats_4 K n9) (v1) (v2) ((10 + v2.toNatClampNeg)) (1) h)))))))) := rfl
def w_X5_firstWithDueRepeats (h : xH) (K : Option Nat → xH → Prop) : Prop := (∃ n : Nat, w_X5_firstWithDueRepeats_4 K n none (0) h)
def w_X5_tellDueRepeats_2 (K : Unit → xH → Prop) : Nat → Int32 → xH → Prop
  | 0 => fun _ _ => False
  | n9 + 1 => fun v1 h => ((6 ≤ v1 → K () h) ∧ (¬ (6 ≤ v1) → w_X5_firstWithDueRepeats h (fun r2 h3 => (∀ k : Nat, r2 = some k → 10 ≤ k ∧ k < 16) ∧ ((r2 = none → K () h3) ∧ (∀ k5 : Nat, r2 = some k5 → w_X5_tellRepeats k5 h3 (fun _ h8 => (∀ x9 : Int32, x9 = v1 + 1 → w_X5_tellDueRepeats_2 K n9 (x9) h8)))))))
theorem w_X5_tellDueRepeats_2_s {K : Unit → xH → Prop} (n9 : Nat) (v1 : Int32) (h : xH) : w_X5_tellDueRepeats_2 K (n9 + 1) v1 h = (((6 ≤ v1 → K () h) ∧ (¬ (6 ≤ v1) → w_X5_firstWithDueRepeats h (fun r2 h3 => (∀ k : Nat, r2 = some k → 10 ≤ k ∧ k < 16) ∧ ((r2 = none → K () h3) ∧ (∀ k5 : Nat, r2 = some k5 → w_X5_tellRepeats k5 h3 (fun _ h8 => (∀ x9 : Int32, x9 = v1 + 1 → w_X5_tellDueRepeats_2 K n9 (x9) h8)))))))) := rfl
def w_X5_tellDueRepeats (h : xH) (K : Unit → xH → Prop) : Prop := (∃ n : Nat, w_X5_tellDueRepeats_2 K n (0) h)
def w_X5_rotateAgedFiles_32 (K : Unit → xH → Prop) (R9 : Int32 → xH → Prop) (v1 : Int32) (h : xH) : Prop := (∀ x13 : Int32, x13 = v1 + 1 → R9 (x13) h)
def w_X5_rotateAgedFiles_2 (K : Unit → xH → Prop) : Nat → Int32 → xH → Prop
  | 0 => fun _ _ => False
  | n9 + 1 => fun v1 h => ((4 ≤ v1 → K () h) ∧ (¬ (4 ≤ v1) → (vp_in v1 4 ∧ w_X2_isAged (30 + v1.toNatClampNeg) (h 0 5) h (fun r5 h6 => ((r5 = 0 → w_X5_rotateAgedFiles_32 K (w_X5_rotateAgedFiles_2 K n9) (v1) h6) ∧ (¬ (r5 = 0) → (vp_in v1 4 ∧ w_X2_turnOver (30 + v1.toNatClampNeg) h6 (fun _ h12 => w_X5_rotateAgedFiles_32 K (w_X5_rotateAgedFiles_2 K n9) (v1) h12))))))))
theorem w_X5_rotateAgedFiles_2_s {K : Unit → xH → Prop} (n9 : Nat) (v1 : Int32) (h : xH) : w_X5_rotateAgedFiles_2 K (n9 + 1) v1 h = (((4 ≤ v1 → K () h) ∧ (¬ (4 ≤ v1) → (vp_in v1 4 ∧ w_X2_isAged (30 + v1.toNatClampNeg) (h 0 5) h (fun r5 h6 => ((r5 = 0 → w_X5_rotateAgedFiles_32 K (w_X5_rotateAgedFiles_2 K n9) (v1) h6) ∧ (¬ (r5 = 0) → (vp_in v1 4 ∧ w_X2_turnOver (30 + v1.toNatClampNeg) h6 (fun _ h12 => w_X5_rotateAgedFiles_32 K (w_X5_rotateAgedFiles_2 K n9) (v1) h12))))))))) := rfl
def w_X5_rotateAgedFiles (h : xH) (K : Unit → xH → Prop) : Prop := (∃ n : Nat, w_X5_rotateAgedFiles_2 K n (0) h)
def w_X5_passOneSecond_33 (K : Unit → xH → Prop) (h : xH) : Prop := w_X5_tellDueRepeats h (fun _ h8 => w_X5_rotateAgedFiles h8 (fun _ h10 => K () h10))
def w_X5_passOneSecond (h : xH) (K : Unit → xH → Prop) : Prop := (∀ h1 : xH, h1 = xup h 0 5 ((h 0 5) + 1) → (((h1 0 7) ≤ 0 → w_X5_passOneSecond_33 K   h1) ∧ (¬ ((h1 0 7) ≤ 0) → ((¬ (h1 0 7) = 0) ∧ ((((h1 0 5) - (h1 0 5) / (h1 0 7) * (h1 0 7)) = 0 → w_X5_giveTokens h1 (fun _ h6 => w_X5_passOneSecond_33 K   h6)) ∧ (¬ (((h1 0 5) - (h1 0 5) / (h1 0 7) * (h1 0 7)) = 0) → w_X5_passOneSecond_33 K   h1))))))
def w_X5_pass_27 (p0 : Int32) (K : Int32 → xH → Prop) (KX : String → xH → Prop) : Nat → Int32 → Int32 → xH → Prop
  | 0 => fun _ _ _ => False
  | n9 + 1 => fun v2 v3 h => ((p0 ≤ v3 → w_X5_rotationsOfAllFiles h (fun r7 h8 => K (r7 - v2) h8)) ∧ (¬ (p0 ≤ v3) → w_X5_passOneSecond h (fun _ h10 => (∀ x11 : Int32, x11 = v3 + 1 → w_X5_pass_27 p0 K KX n9 (v2) (x11) h10))))
theorem w_X5_pass_27_s {p0 : Int32} {K : Int32 → xH → Prop} {KX : String → xH → Prop} (n9 : Nat) (v2 : Int32) (v3 : Int32) (h : xH) : w_X5_pass_27 p0 K KX (n9 + 1) v2 v3 h = (((p0 ≤ v3 → w_X5_rotationsOfAllFiles h (fun r7 h8 => K (r7 - v2) h8)) ∧ (¬ (p0 ≤ v3) → w_X5_passOneSecond h (fun _ h10 => (∀ x11 : Int32, x11 = v3 + 1 → w_X5_pass_27 p0 K KX n9 (v2) (x11) h10))))) := rfl
def w_X5_pass (p0 : Int32) (h : xH) (K : Int32 → xH → Prop) (KX : String → xH → Prop) : Prop := w_X5_isWithin p0 (1 : Int32) (100 : Int32) h (fun r1 h2 => ((r1 = 0 → KX "java/lang/IllegalArgumentException" h2) ∧ (¬ (r1 = 0) → w_X5_rotationsOfAllFiles h2 (fun r4 h5 => (∃ n : Nat, w_X5_pass_27 p0 K KX n (r4) (0) h5)))))
def w_X5_rotate (p0 : Int32) (h : xH) (K : Int32 → xH → Prop) (KX : String → xH → Prop) : Prop := w_X5_fileAt p0 h (fun r1 h2 => (30 ≤ r1 ∧ r1 < 34) ∧ w_X2_isEmpty r1 h2 (fun r4 h5 => ((r4 = 0 → w_X2_turnOver r1 h5 (fun _ h8 => K (h8 r1 8) h8)) ∧ (¬ (r4 = 0) → KX "java/lang/IllegalStateException" h5)))) KX
def w_X5_connect (h : xH) (K : Int32 → xH → Prop) (KX : String → xH → Prop) : Prop := (((h 4 5) = 0 → (∀ h2 : xH, h2 = xup h 4 5 1 → w_X0_waiting h2 (fun r3 h4 => K r3 h4))) ∧ (¬ ((h 4 5) = 0) → KX "java/lang/IllegalStateException" h))
def w_X5_disconnect (h : xH) (K : Int32 → xH → Prop) (KX : String → xH → Prop) : Prop := (((h 4 5) = 0 → KX "java/lang/IllegalStateException" h) ∧ (¬ ((h 4 5) = 0) → w_X0_flying h (fun r2 h3 => w_X0_loseConnection h3 (fun _ h5 => K r2 h5))))
def w_X5_send (h : xH) (K : Int32 → xH → Prop) (KX : String → xH → Prop) : Prop := w_X0_canSend h (fun r1 h2 => ((r1 = 0 → KX "java/lang/IllegalStateException" h2) ∧ (¬ (r1 = 0) → w_X0_sendFirst h2 (fun r4 h5 => K r4 h5))))
def w_X5_acknowledge (h : xH) (K : Int32 → xH → Prop) (KX : String → xH → Prop) : Prop := w_X0_flying h (fun r1 h2 => ((r1 = 0 → KX "java/lang/IllegalStateException" h2) ∧ (¬ (r1 = 0) → w_X0_acknowledgeFirst h2 (fun r4 h5 => K r4 h5))))
def w_X5_time (h : xH) (K : Int32 → xH → Prop) : Prop := K (h 0 5) h
def w_X5_tokens (p0 : Int32) (h : xH) (K : Int32 → xH → Prop) (KX : String → xH → Prop) : Prop := w_X5_senderAt p0 h (fun r1 h2 => (10 ≤ r1 ∧ r1 < 16) ∧ K (h2 r1 1) h2) KX
def w_X5_repeats (p0 : Int32) (h : xH) (K : Int32 → xH → Prop) (KX : String → xH → Prop) : Prop := w_X5_senderAt p0 h (fun r1 h2 => (10 ≤ r1 ∧ r1 < 16) ∧ K (h2 r1 2) h2) KX
def w_X5_drops (p0 : Int32) (h : xH) (K : Int32 → xH → Prop) (KX : String → xH → Prop) : Prop := w_X5_senderAt p0 h (fun r1 h2 => (10 ≤ r1 ∧ r1 < 16) ∧ K (h2 r1 4) h2) KX
def w_X5_size (p0 : Int32) (h : xH) (K : Int32 → xH → Prop) (KX : String → xH → Prop) : Prop := w_X5_fileAt p0 h (fun r1 h2 => (30 ≤ r1 ∧ r1 < 34) ∧ K (h2 r1 7) h2) KX
def w_X5_lines (p0 : Int32) (p1 : Int32) (h : xH) (K : Int32 → xH → Prop) (KX : String → xH → Prop) : Prop := w_X5_fileAt p0 h (fun r1 h2 => (30 ≤ r1 ∧ r1 < 34) ∧ w_X2_has r1 p1 h2 (fun r4 h5 => ((r4 = 0 → KX "java/lang/IndexOutOfBoundsException" h5) ∧ (¬ (r4 = 0) → w_X2_linesOf r1 p1 h5 (fun r7 h8 => K r7 h8))))) KX
def w_X5_line (p0 : Int32) (p1 : Int32) (p2 : Int32) (h : xH) (K : Int32 → xH → Prop) (KX : String → xH → Prop) : Prop := w_X5_fileAt p0 h (fun r1 h2 => (30 ≤ r1 ∧ r1 < 34) ∧ w_X2_has r1 p1 h2 (fun r4 h5 => ((r4 = 0 → KX "java/lang/IndexOutOfBoundsException" h5) ∧ (¬ (r4 = 0) → w_X2_linesOf r1 p1 h5 (fun r7 h8 => w_X5_isWithin p2 (0 : Int32) (r7 - 1) h8 (fun r9 h10 => ((r9 = 0 → KX "java/lang/IndexOutOfBoundsException" h10) ∧ (¬ (r9 = 0) → w_X2_lineAt r1 p1 p2 h10 (fun r12 h13 => K r12 h13))))))))) KX
def w_X5_generations (p0 : Int32) (h : xH) (K : Int32 → xH → Prop) (KX : String → xH → Prop) : Prop := w_X5_fileAt p0 h (fun r1 h2 => (30 ≤ r1 ∧ r1 < 34) ∧ K (h2 r1 8) h2) KX
def w_X5_queued (h : xH) (K : Int32 → xH → Prop) : Prop := w_X0_waiting h (fun r1 h2 => K r1 h2)
def w_X5_inFlight (h : xH) (K : Int32 → xH → Prop) : Prop := w_X0_flying h (fun r1 h2 => K r1 h2)
def w_X5_acknowledged (h : xH) (K : Int32 → xH → Prop) : Prop := K (h 4 3) h
def w_X5_lost (h : xH) (K : Int32 → xH → Prop) : Prop := K (h 4 4) h
def w_X5_messages (h : xH) (K : Int32 → xH → Prop) : Prop := K (h 6 2) h
def w_X5_fateOf (p0 : Int32) (h : xH) (K : Int32 → xH → Prop) (KX : String → xH → Prop) : Prop := w_X1_has p0 h (fun r1 h2 => ((r1 = 0 → KX "java/lang/IndexOutOfBoundsException" h2) ∧ (¬ (r1 = 0) → w_X1_fateAt p0 h2 (fun r4 h5 => K r4 h5))))
def w_X5_count (p0 : Int32) (h : xH) (K : Int32 → xH → Prop) (KX : String → xH → Prop) : Prop := w_X5_isWithin p0 (0 : Int32) (3 : Int32) h (fun r1 h2 => ((r1 = 0 → KX "java/lang/IndexOutOfBoundsException" h2) ∧ (¬ (r1 = 0) → w_X1_entriesWith p0 h2 (fun r4 h5 => K r4 h5))))
def w_X5_targetsOf (p0 : Int32) (h : xH) (K : Int32 → xH → Prop) (KX : String → xH → Prop) : Prop := w_X1_has p0 h (fun r1 h2 => ((r1 = 0 → KX "java/lang/IndexOutOfBoundsException" h2) ∧ (¬ (r1 = 0) → w_X1_targetsAt p0 h2 (fun r4 h5 => K r4 h5))))
def w_X6_thrown (h : xH) (K : Int32 → xH → Prop) : Prop := K (h 60 0) h
def w_X6_holds (p0 : Int32) (h : xH) (K : Int32 → xH → Prop) : Prop := (∀ h1 : xH, h1 = xup h 60 0 p0 → ((p0 = 0 → K 1 h1) ∧ (¬ (p0 = 0) → K 0 h1)))
def w_X6_isIn (p0 : Int32) (p1 : Int32) (p2 : Int32) (h : xH) (K : Int32 → xH → Prop) : Prop := ((p0 < p1 → K 0 h) ∧ (¬ (p0 < p1) → ((p2 < p0 → K 0 h) ∧ (¬ (p2 < p0) → K 1 h))))
def w_X6_setRate_93 (p0 : Int32) (p1 : Int32) (K : Int32 → xH → Prop) (R9 : Int32 → Int32 → xH → Prop) (v3 : Int32) (v4 : Int32) (s1 : Int32) (s2 : Int32) (h : xH) : Prop := (vp_in s1 6 ∧ ∀ h18 : xH, h18 = xup h 65 s1.toNatClampNeg s2 → (∀ x19 : Int32, x19 = v4 + 1 → R9 (v3) (x19) h18))
def w_X6_setRate_52 (p0 : Int32) (p1 : Int32) (K : Int32 → xH → Prop) : Nat → Int32 → Int32 → xH → Prop
  | 0 => fun _ _ _ => False
  | n9 + 1 => fun v3 v4 h => ((6 ≤ v4 → K v3 h) ∧ (¬ (6 ≤ v4) → (vp_in v4 6 ∧ (((h 65 v4.toNatClampNeg) ≤ (h 60 2) → (vp_in v4 6 ∧ w_X6_setRate_93 p0 p1 K (w_X6_setRate_52 p0 p1 K n9) (v3) (v4) (v4) ((h 65 v4.toNatClampNeg)) h)) ∧ (¬ ((h 65 v4.toNatClampNeg) ≤ (h 60 2)) → w_X6_setRate_93 p0 p1 K (w_X6_setRate_52 p0 p1 K n9) (v3) (v4) (v4) ((h 60 2)) h)))))
theorem w_X6_setRate_52_s {p0 : Int32} {p1 : Int32} {K : Int32 → xH → Prop} (n9 : Nat) (v3 : Int32) (v4 : Int32) (h : xH) : w_X6_setRate_52 p0 p1 K (n9 + 1) v3 v4 h = (((6 ≤ v4 → K v3 h) ∧ (¬ (6 ≤ v4) → (vp_in v4 6 ∧ (((h 65 v4.toNatClampNeg) ≤ (h 60 2) → (vp_in v4 6 ∧ w_X6_setRate_93 p0 p1 K (w_X6_setRate_52 p0 p1 K n9) (v3) (v4) (v4) ((h 65 v4.toNatClampNeg)) h)) ∧ (¬ ((h 65 v4.toNatClampNeg) ≤ (h 60 2)) → w_X6_setRate_93 p0 p1 K (w_X6_setRate_52 p0 p1 K n9) (v3) (v4) (v4) ((h 60 2)) h)))))) := rfl
def w_X6_setRate_26 (p0 : Int32) (p1 : Int32) (K : Int32 → xH → Prop) (s0 : Nat) (s1 : Int32) (h : xH) : Prop := w_X6_holds s1 h (fun r7 h8 => ((r7 = 0 → K 0 h8) ∧ (¬ (r7 = 0) → (∀ x10 : Int32, x10 = (h8 60 2) → (∀ h11 : xH, h11 = xup h8 60 2 p0 → (∀ h12 : xH, h12 = xup h11 60 3 p1 → (∃ n : Nat, w_X6_setRate_52 p0 p1 K n (x10) (0) h12)))))))
def w_X6_setRate_25 (p0 : Int32) (p1 : Int32) (K : Int32 → xH → Prop) (s0 : Nat) (h : xH) : Prop := w_X6_setRate_26 p0 p1 K  (60) (1) h
def w_X6_setRate (p0 : Int32) (p1 : Int32) (h : xH) (K : Int32 → xH → Prop) : Prop := w_X6_isIn p0 (1 : Int32) (50 : Int32) h (fun r1 h2 => ((r1 = 0 → w_X6_setRate_25 p0 p1 K  (60) h2) ∧ (¬ (r1 = 0) → w_X6_isIn p1 (1 : Int32) (60 : Int32) h2 (fun r4 h5 => ((r4 = 0 → w_X6_setRate_25 p0 p1 K  (60) h5) ∧ (¬ (r4 = 0) → w_X6_setRate_26 p0 p1 K  (60) (0) h5))))))
def w_X6_setFold_16 (p0 : Int32) (K : Int32 → xH → Prop) (s0 : Nat) (s1 : Int32) (h : xH) : Prop := w_X6_holds s1 h (fun r4 h5 => ((r4 = 0 → K 0 h5) ∧ (¬ (r4 = 0) → (∀ x7 : Int32, x7 = (h5 60 4) → (∀ h8 : xH, h8 = xup h5 60 4 p0 → K x7 h8)))))
def w_X6_setFold (p0 : Int32) (h : xH) (K : Int32 → xH → Prop) : Prop := w_X6_isIn p0 (0 : Int32) (100 : Int32) h (fun r1 h2 => ((r1 = 0 → w_X6_setFold_16 p0 K  (60) (1) h2) ∧ (¬ (r1 = 0) → w_X6_setFold_16 p0 K  (60) (0) h2)))
def w_X6_setRule_159 (p0 : Int32) (p1 : Int32) (p2 : Int32) (p3 : Int32) (p4 : Int32) (K : Int32 → xH → Prop) (R9 : Int32 → Int32 → xH → Prop) (v9 : Int32) (s0 : Int32) (s1 : Int32) (h : xH) : Prop := (∀ x34 : Int32, x34 = (s0 + s1) → (∀ x35 : Int32, x35 = v9 + 1 → R9 (x34) (x35) h))
def w_X6_setRule_135 (p0 : Int32) (p1 : Int32) (p2 : Int32) (p3 : Int32) (p4 : Int32) (K : Int32 → xH → Prop) : Nat → Int32 → Int32 → xH → Prop
  | 0 => fun _ _ _ => False
  | n9 + 1 => fun v8 v9 h => ((6 ≤ v9 → K v8 h) ∧ (¬ (6 ≤ v9) → (vp_in v9 6 ∧ (((h 70 v9.toNatClampNeg) = 0 → w_X6_setRule_159 p0 p1 p2 p3 p4 K (w_X6_setRule_135 p0 p1 p2 p3 p4 K n9) (v9) (v8) (0) h) ∧ (¬ ((h 70 v9.toNatClampNeg) = 0) → w_X6_setRule_159 p0 p1 p2 p3 p4 K (w_X6_setRule_135 p0 p1 p2 p3 p4 K n9) (v9) (v8) (1) h)))))
theorem w_X6_setRule_135_s {p0 : Int32} {p1 : Int32} {p2 : Int32} {p3 : Int32} {p4 : Int32} {K : Int32 → xH → Prop} (n9 : Nat) (v8 : Int32) (v9 : Int32) (h : xH) : w_X6_setRule_135 p0 p1 p2 p3 p4 K (n9 + 1) v8 v9 h = (((6 ≤ v9 → K v8 h) ∧ (¬ (6 ≤ v9) → (vp_in v9 6 ∧ (((h 70 v9.toNatClampNeg) = 0 → w_X6_setRule_159 p0 p1 p2 p3 p4 K (w_X6_setRule_135 p0 p1 p2 p3 p4 K n9) (v9) (v8) (0) h) ∧ (¬ ((h 70 v9.toNatClampNeg) = 0) → w_X6_setRule_159 p0 p1 p2 p3 p4 K (w_X6_setRule_135 p0 p1 p2 p3 p4 K n9) (v9) (v8) (1) h)))))) := rfl
def w_X6_setRule_84 (p0 : Int32) (p1 : Int32) (p2 : Int32) (p3 : Int32) (p4 : Int32) (K : Int32 → xH → Prop) (s0 : Nat) (s1 : Int32) (h : xH) : Prop := w_X6_holds s1 h (fun r18 h19 => ((r18 = 0 → K 0 h19) ∧ (¬ (r18 = 0) → (vp_in p0 6 ∧ ∀ h22 : xH, h22 = xup h19 70 p0.toNatClampNeg 1 → (vp_in p0 6 ∧ ∀ h24 : xH, h24 = xup h22 71 p0.toNatClampNeg p1 → (vp_in p0 6 ∧ ∀ h26 : xH, h26 = xup h24 72 p0.toNatClampNeg p2 → (vp_in p0 6 ∧ ∀ h28 : xH, h28 = xup h26 73 p0.toNatClampNeg p3 → (vp_in p0 6 ∧ ∀ h30 : xH, h30 = xup h28 74 p0.toNatClampNeg p4 → (∃ n : Nat, w_X6_setRule_135 p0 p1 p2 p3 p4 K n (0) (0) h30)))))))))
def w_X6_setRule_62 (p0 : Int32) (p1 : Int32) (p2 : Int32) (p3 : Int32) (p4 : Int32) (K : Int32 → xH → Prop) (v6 : Int32) (s0 : Int32) (h : xH) : Prop := ((v6 = 0 → w_X6_setRule_84 p0 p1 p2 p3 p4 K  (60) (1) h) ∧ (¬ (v6 = 0) → ((s0 = 0 → w_X6_setRule_84 p0 p1 p2 p3 p4 K  (60) (2) h) ∧ (¬ (s0 = 0) → w_X6_setRule_84 p0 p1 p2 p3 p4 K  (60) (0) h))))
def w_X6_setRule_61 (p0 : Int32) (p1 : Int32) (p2 : Int32) (p3 : Int32) (p4 : Int32) (K : Int32 → xH → Prop) (v6 : Int32) (h : xH) : Prop := w_X6_setRule_62 p0 p1 p2 p3 p4 K  (v6) (0) h
def w_X6_setRule_24 (p0 : Int32) (p1 : Int32) (p2 : Int32) (p3 : Int32) (p4 : Int32) (K : Int32 → xH → Prop) (s0 : Int32) (h : xH) : Prop := w_X6_isIn p1 (0 : Int32) (255 : Int32) h (fun r7 h8 => ((r7 = 0 → w_X6_setRule_61 p0 p1 p2 p3 p4 K  (s0) h8) ∧ (¬ (r7 = 0) → w_X6_isIn p2 (0 : Int32) (7 : Int32) h8 (fun r10 h11 => ((r10 = 0 → w_X6_setRule_61 p0 p1 p2 p3 p4 K  (s0) h11) ∧ (¬ (r10 = 0) → w_X6_isIn p4 (0 : Int32) (4 : Int32) h11 (fun r13 h14 => ((r13 = 0 → w_X6_setRule_61 p0 p1 p2 p3 p4 K  (s0) h14) ∧ (¬ (r13 = 0) → w_X6_setRule_62 p0 p1 p2 p3 p4 K  (s0) (1) h14)))))))))
def w_X6_setRule_23 (p0 : Int32) (p1 : Int32) (p2 : Int32) (p3 : Int32) (p4 : Int32) (K : Int32 → xH → Prop) (h : xH) : Prop := w_X6_setRule_24 p0 p1 p2 p3 p4 K  (0) h
def w_X6_setRule (p0 : Int32) (p1 : Int32) (p2 : Int32) (p3 : Int32) (p4 : Int32) (h : xH) (K : Int32 → xH → Prop) : Prop := w_X6_isIn p0 (0 : Int32) (5 : Int32) h (fun r1 h2 => ((r1 = 0 → w_X6_setRule_23 p0 p1 p2 p3 p4 K   h2) ∧ (¬ (r1 = 0) → w_X6_isIn p3 ((-1) : Int32) (5 : Int32) h2 (fun r4 h5 => ((r4 = 0 → w_X6_setRule_23 p0 p1 p2 p3 p4 K   h5) ∧ (¬ (r4 = 0) → w_X6_setRule_24 p0 p1 p2 p3 p4 K  (1) h5))))))
def w_X6_removeRule_15 (p0 : Int32) (K : Int32 → xH → Prop) (s0 : Nat) (s1 : Int32) (h : xH) : Prop := w_X6_holds s1 h (fun r4 h5 => ((r4 = 0 → K 0 h5) ∧ (¬ (r4 = 0) → (vp_in p0 6 ∧ (∀ x8 : Int32, x8 = (h5 70 p0.toNatClampNeg) → (vp_in p0 6 ∧ ∀ h10 : xH, h10 = xup h5 70 p0.toNatClampNeg 0 → ((narrow .boolean (.int x8) = .int x8) ∧ K x8 h10)))))))
def w_X6_removeRule (p0 : Int32) (h : xH) (K : Int32 → xH → Prop) : Prop := w_X6_isIn p0 (0 : Int32) (5 : Int32) h (fun r1 h2 => ((r1 = 0 → w_X6_removeRule_15 p0 K  (60) (1) h2) ∧ (¬ (r1 = 0) → w_X6_removeRule_15 p0 K  (60) (0) h2)))
def w_X6_isFile (p0 : Int32) (h : xH) (K : Int32 → xH → Prop) : Prop := w_X6_isIn p0 (0 : Int32) (3 : Int32) h (fun r1 h2 => ((narrow .boolean (.int r1) = .int r1) ∧ K r1 h2))
def w_X6_setFile_120 (p0 : Int32) (p1 : Int32) (p2 : Int32) (p3 : Int32) (K : Int32 → xH → Prop) (s1 : Int32) (s2 : Int32) (h : xH) : Prop := (vp_in s1 4 ∧ ∀ h27 : xH, h27 = xup h 80 s1.toNatClampNeg s2 → (vp_in p0 4 ∧ K (h27 78 p0.toNatClampNeg) h27))
def w_X6_setFile_63 (p0 : Int32) (p1 : Int32) (p2 : Int32) (p3 : Int32) (K : Int32 → xH → Prop) (s0 : Nat) (s1 : Int32) (h : xH) : Prop := w_X6_holds s1 h (fun r14 h15 => ((r14 = 0 → K 0 h15) ∧ (¬ (r14 = 0) → (vp_in p0 4 ∧ ∀ h18 : xH, h18 = xup h15 75 p0.toNatClampNeg p1 → (vp_in p0 4 ∧ ∀ h20 : xH, h20 = xup h18 76 p0.toNatClampNeg p2 → (vp_in p0 4 ∧ ∀ h22 : xH, h22 = xup h20 77 p0.toNatClampNeg p3 → (vp_in p0 4 ∧ (((h22 80 p0.toNatClampNeg) ≤ p3 → (vp_in p0 4 ∧ w_X6_setFile_120 p0 p1 p2 p3 K  (p0) ((h22 80 p0.toNatClampNeg)) h22)) ∧ (¬ ((h22 80 p0.toNatClampNeg) ≤ p3) → w_X6_setFile_120 p0 p1 p2 p3 K  (p0) (p3) h22)))))))))
def w_X6_setFile_39 (p0 : Int32) (p1 : Int32) (p2 : Int32) (p3 : Int32) (K : Int32 → xH → Prop) (s0 : Int32) (h : xH) : Prop := w_X6_isFile p0 h (fun r10 h11 => ((r10 = 0 → w_X6_setFile_63 p0 p1 p2 p3 K  (60) (1) h11) ∧ (¬ (r10 = 0) → ((s0 = 0 → w_X6_setFile_63 p0 p1 p2 p3 K  (60) (2) h11) ∧ (¬ (s0 = 0) → w_X6_setFile_63 p0 p1 p2 p3 K  (60) (0) h11)))))
def w_X6_setFile_38 (p0 : Int32) (p1 : Int32) (p2 : Int32) (p3 : Int32) (K : Int32 → xH → Prop) (h : xH) : Prop := w_X6_setFile_39 p0 p1 p2 p3 K  (0) h
def w_X6_setFile (p0 : Int32) (p1 : Int32) (p2 : Int32) (p3 : Int32) (h : xH) (K : Int32 → xH → Prop) : Prop := w_X6_isIn p1 (200 : Int32) (5000 : Int32) h (fun r1 h2 => ((r1 = 0 → w_X6_setFile_38 p0 p1 p2 p3 K   h2) ∧ (¬ (r1 = 0) → w_X6_isIn p2 (0 : Int32) (1000 : Int32) h2 (fun r4 h5 => ((r4 = 0 → w_X6_setFile_38 p0 p1 p2 p3 K   h5) ∧ (¬ (r4 = 0) → w_X6_isIn p3 (0 : Int32) (5 : Int32) h5 (fun r7 h8 => ((r7 = 0 → w_X6_setFile_38 p0 p1 p2 p3 K   h8) ∧ (¬ (r7 = 0) → w_X6_setFile_39 p0 p1 p2 p3 K  (1) h8)))))))))
def w_X6_linesOf (p0 : Int32) (h : xH) (K : Int32 → xH → Prop) : Prop := (vp_in p0 4 ∧ (vp_in ((7 : Int32) * p0) 28 ∧ K ((h 79 p0.toNatClampNeg) - (h 81 ((7 : Int32) * p0).toNatClampNeg)) h))
def w_X6_rotates_76 (p0 : Int32) (K : Unit → xH → Prop) (s1 : Int32) (s2 : Int32) (s3 : Int32) (h : xH) : Prop := (vp_in s1 4 ∧ ∀ h16 : xH, h16 = xup h 80 s1.toNatClampNeg (s2 + s3) → (vp_in p0 4 ∧ ∀ h18 : xH, h18 = xup h16 78 p0.toNatClampNeg 0 → (∀ h19 : xH, h19 = xup h18 60 30 ((h18 60 30) + 1) → K () h19)))
def w_X6_rotates_12 (p0 : Int32) (K : Unit → xH → Prop) : Nat → Int32 → Int32 → xH → Prop
  | 0 => fun _ _ _ => False
  | n9 + 1 => fun v2 v3 h => ((v3 ≤ v2 → (vp_in p0 4 ∧ (vp_in v2 28 ∧ ∀ h6 : xH, h6 = xup h 81 v2.toNatClampNeg (h 79 p0.toNatClampNeg) → (vp_in p0 4 ∧ (vp_in p0 4 ∧ (vp_in p0 4 ∧ (((h6 77 p0.toNatClampNeg) ≤ (h6 80 p0.toNatClampNeg) → w_X6_rotates_76 p0 K  (p0) ((h6 80 p0.toNatClampNeg)) (0) h6) ∧ (¬ ((h6 77 p0.toNatClampNeg) ≤ (h6 80 p0.toNatClampNeg)) → w_X6_rotates_76 p0 K  (p0) ((h6 80 p0.toNatClampNeg)) (1) h6)))))))) ∧ (¬ (v3 ≤ v2) → (vp_in (v3 - 1) 28 ∧ (vp_in v3 28 ∧ ∀ h13 : xH, h13 = xup h 81 v3.toNatClampNeg (h 81 (v3 - 1).toNatClampNeg) → (∀ x14 : Int32, x14 = v3 + (-1) → w_X6_rotates_12 p0 K n9 (v2) (x14) h13)))))
theorem w_X6_rotates_12_s {p0 : Int32} {K : Unit → xH → Prop} (n9 : Nat) (v2 : Int32) (v3 : Int32) (h : xH) : w_X6_rotates_12 p0 K (n9 + 1) v2 v3 h = (((v3 ≤ v2 → (vp_in p0 4 ∧ (vp_in v2 28 ∧ ∀ h6 : xH, h6 = xup h 81 v2.toNatClampNeg (h 79 p0.toNatClampNeg) → (vp_in p0 4 ∧ (vp_in p0 4 ∧ (vp_in p0 4 ∧ (((h6 77 p0.toNatClampNeg) ≤ (h6 80 p0.toNatClampNeg) → w_X6_rotates_76 p0 K  (p0) ((h6 80 p0.toNatClampNeg)) (0) h6) ∧ (¬ ((h6 77 p0.toNatClampNeg) ≤ (h6 80 p0.toNatClampNeg)) → w_X6_rotates_76 p0 K  (p0) ((h6 80 p0.toNatClampNeg)) (1) h6)))))))) ∧ (¬ (v3 ≤ v2) → (vp_in (v3 - 1) 28 ∧ (vp_in v3 28 ∧ ∀ h13 : xH, h13 = xup h 81 v3.toNatClampNeg (h 81 (v3 - 1).toNatClampNeg) → (∀ x14 : Int32, x14 = v3 + (-1) → w_X6_rotates_12 p0 K n9 (v2) (x14) h13)))))) := rfl
def w_X6_rotates (p0 : Int32) (h : xH) (K : Unit → xH → Prop) : Prop := (∀ x1 : Int32, x1 = ((7 : Int32) * p0) → (∀ x2 : Int32, x2 = ((x1 + 7) - 1) → (∃ n : Nat, w_X6_rotates_12 p0 K n (x1) (x2) h)))
def w_X6_comesTo_30 (p0 : Int32) (p1 : Int32) (p2 : Int32) (K : Unit → xH → Prop) (h : xH) : Prop := (vp_in p0 4 ∧ (vp_in (((400 : Int32) * p0) + (h 79 p0.toNatClampNeg)) 1600 ∧ ∀ h11 : xH, h11 = xup h 82 (((400 : Int32) * p0) + (h 79 p0.toNatClampNeg)).toNatClampNeg p1 → (vp_in p0 4 ∧ (vp_in (((400 : Int32) * p0) + (h11 79 p0.toNatClampNeg)) 1600 ∧ ∀ h14 : xH, h14 = xup h11 83 (((400 : Int32) * p0) + (h11 79 p0.toNatClampNeg)).toNatClampNeg (h11 60 1) → (vp_in p0 4 ∧ (vp_in p0 4 ∧ ∀ h17 : xH, h17 = xup h14 79 p0.toNatClampNeg ((h14 79 p0.toNatClampNeg) + 1) → (vp_in p0 4 ∧ (vp_in p0 4 ∧ ∀ h20 : xH, h20 = xup h17 78 p0.toNatClampNeg ((h17 78 p0.toNatClampNeg) + p2) → K () h20))))))))
def w_X6_comesTo (p0 : Int32) (p1 : Int32) (p2 : Int32) (h : xH) (K : Unit → xH → Prop) : Prop := w_X6_linesOf p0 h (fun r1 h2 => ((r1 ≤ 0 → w_X6_comesTo_30 p0 p1 p2 K   h2) ∧ (¬ (r1 ≤ 0) → (vp_in p0 4 ∧ (vp_in p0 4 ∧ ((((h2 78 p0.toNatClampNeg) + p2) ≤ (h2 75 p0.toNatClampNeg) → w_X6_comesTo_30 p0 p1 p2 K   h2) ∧ (¬ (((h2 78 p0.toNatClampNeg) + p2) ≤ (h2 75 p0.toNatClampNeg)) → w_X6_rotates p0 h2 (fun _ h8 => w_X6_comesTo_30 p0 p1 p2 K   h8))))))))
def w_X6_forwards (p0 : Int32) (h : xH) (K : Unit → xH → Prop) : Prop := ((((h 60 26) - (h 60 28)) < 30 → (vp_in (h 60 26) 400 ∧ ∀ h3 : xH, h3 = xup h 85 (h 60 26).toNatClampNeg p0 → (∀ h4 : xH, h4 = xup h3 60 26 ((h3 60 26) + 1) → K () h4))) ∧ (¬ (((h 60 26) - (h 60 28)) < 30) → (∀ h5 : xH, h5 = xup h 60 29 ((h 60 29) + 1) → K () h5)))
def w_X6_goes_147 (p0 : Int32) (p1 : Int32) (p2 : Int32) (p3 : Int32) (p4 : Int32) (K : Int32 → xH → Prop) (R9 : Int32 → Int32 → xH → Prop) (v6 : Int32) (v7 : Int32) (h : xH) : Prop := (∀ x24 : Int32, x24 = v7 + 1 → R9 (v6) (x24) h)
def w_X6_goes_76 (p0 : Int32) (p1 : Int32) (p2 : Int32) (p3 : Int32) (p4 : Int32) (K : Int32 → xH → Prop) (R9 : Int32 → Int32 → xH → Prop) (v6 : Int32) (v7 : Int32) (s0 : Int32) (h : xH) : Prop := ((s0 = 0 → w_X6_goes_147 p0 p1 p2 p3 p4 K (R9) (v6) (v7) h) ∧ (¬ (s0 = 0) → (vp_in v7 6 ∧ ((((v6 >>> ((h 74 v7.toNatClampNeg) &&& 31)) &&& 1) = 0 → (vp_in v7 6 ∧ (∀ x16 : Int32, x16 = (v6 ||| ((1 : Int32) <<< ((h 74 v7.toNatClampNeg) &&& 31))) → (vp_in v7 6 ∧ (((h 74 v7.toNatClampNeg) = 4 → w_X6_forwards p3 h (fun _ h23 => w_X6_goes_147 p0 p1 p2 p3 p4 K (R9) (x16) (v7) h23)) ∧ (¬ ((h 74 v7.toNatClampNeg) = 4) → (vp_in v7 6 ∧ w_X6_comesTo (h 74 v7.toNatClampNeg) p3 p4 h (fun _ h21 => w_X6_goes_147 p0 p1 p2 p3 p4 K (R9) (x16) (v7) h21)))))))) ∧ (¬ (((v6 >>> ((h 74 v7.toNatClampNeg) &&& 31)) &&& 1) = 0) → w_X6_goes_147 p0 p1 p2 p3 p4 K (R9) (v6) (v7) h)))))
def w_X6_goes_75 (p0 : Int32) (p1 : Int32) (p2 : Int32) (p3 : Int32) (p4 : Int32) (K : Int32 → xH → Prop) (R9 : Int32 → Int32 → xH → Prop) (v6 : Int32) (v7 : Int32) (h : xH) : Prop := w_X6_goes_76 p0 p1 p2 p3 p4 K (R9) (v6) (v7) (0) h
def w_X6_goes_71 (p0 : Int32) (p1 : Int32) (p2 : Int32) (p3 : Int32) (p4 : Int32) (K : Int32 → xH → Prop) (R9 : Int32 → Int32 → xH → Prop) (v6 : Int32) (v7 : Int32) (h : xH) : Prop := w_X6_goes_76 p0 p1 p2 p3 p4 K (R9) (v6) (v7) (1) h
def w_X6_goes_6 (p0 : Int32) (p1 : Int32) (p2 : Int32) (p3 : Int32) (p4 : Int32) (K : Int32 → xH → Prop) : Nat → Int32 → Int32 → xH → Prop
  | 0 => fun _ _ _ => False
  | n9 + 1 => fun v6 v7 h => ((6 ≤ v7 → K v6 h) ∧ (¬ (6 ≤ v7) → (vp_in v7 6 ∧ (((h 70 v7.toNatClampNeg) = 0 → w_X6_goes_75 p0 p1 p2 p3 p4 K (w_X6_goes_6 p0 p1 p2 p3 p4 K n9) (v6) (v7) h) ∧ (¬ ((h 70 v7.toNatClampNeg) = 0) → (vp_in v7 6 ∧ (((((h 71 v7.toNatClampNeg) >>> (p1 &&& 31)) &&& 1) = 1 → (vp_in v7 6 ∧ (((h 72 v7.toNatClampNeg) < p2 → w_X6_goes_75 p0 p1 p2 p3 p4 K (w_X6_goes_6 p0 p1 p2 p3 p4 K n9) (v6) (v7) h) ∧ (¬ ((h 72 v7.toNatClampNeg) < p2) → (vp_in v7 6 ∧ (((h 73 v7.toNatClampNeg) = (-1) → w_X6_goes_71 p0 p1 p2 p3 p4 K (w_X6_goes_6 p0 p1 p2 p3 p4 K n9) (v6) (v7) h) ∧ (¬ ((h 73 v7.toNatClampNeg) = (-1)) → (vp_in v7 6 ∧ (((h 73 v7.toNatClampNeg) = p0 → w_X6_goes_71 p0 p1 p2 p3 p4 K (w_X6_goes_6 p0 p1 p2 p3 p4 K n9) (v6) (v7) h) ∧ (¬ ((h 73 v7.toNatClampNeg) = p0) → w_X6_goes_75 p0 p1 p2 p3 p4 K (w_X6_goes_6 p0 p1 p2 p3 p4 K n9) (v6) (v7) h)))))))))) ∧ (¬ ((((h 71 v7.toNatClampNeg) >>> (p1 &&& 31)) &&& 1) = 1) → w_X6_goes_75 p0 p1 p2 p3 p4 K (w_X6_goes_6 p0 p1 p2 p3 p4 K n9) (v6) (v7) h))))))))
theorem w_X6_goes_6_s {p0 : Int32} {p1 : Int32} {p2 : Int32} {p3 : Int32} {p4 : Int32} {K : Int32 → xH → Prop} (n9 : Nat) (v6 : Int32) (v7 : Int32) (h : xH) : w_X6_goes_6 p0 p1 p2 p3 p4 K (n9 + 1) v6 v7 h = (((6 ≤ v7 → K v6 h) ∧ (¬ (6 ≤ v7) → (vp_in v7 6 ∧ (((h 70 v7.toNatClampNeg) = 0 → w_X6_goes_75 p0 p1 p2 p3 p4 K (w_X6_goes_6 p0 p1 p2 p3 p4 K n9) (v6) (v7) h) ∧ (¬ ((h 70 v7.toNatClampNeg) = 0) → (vp_in v7 6 ∧ (((((h 71 v7.toNatClampNeg) >>> (p1 &&& 31)) &&& 1) = 1 → (vp_in v7 6 ∧ (((h 72 v7.toNatClampNeg) < p2 → w_X6_goes_75 p0 p1 p2 p3 p4 K (w_X6_goes_6 p0 p1 p2 p3 p4 K n9) (v6) (v7) h) ∧ (¬ ((h 72 v7.toNatClampNeg) < p2) → (vp_in v7 6 ∧ (((h 73 v7.toNatClampNeg) = (-1) → w_X6_goes_71 p0 p1 p2 p3 p4 K (w_X6_goes_6 p0 p1 p2 p3 p4 K n9) (v6) (v7) h) ∧ (¬ ((h 73 v7.toNatClampNeg) = (-1)) → (vp_in v7 6 ∧ (((h 73 v7.toNatClampNeg) = p0 → w_X6_goes_71 p0 p1 p2 p3 p4 K (w_X6_goes_6 p0 p1 p2 p3 p4 K n9) (v6) (v7) h) ∧ (¬ ((h 73 v7.toNatClampNeg) = p0) → w_X6_goes_75 p0 p1 p2 p3 p4 K (w_X6_goes_6 p0 p1 p2 p3 p4 K n9) (v6) (v7) h)))))))))) ∧ (¬ ((((h 71 v7.toNatClampNeg) >>> (p1 &&& 31)) &&& 1) = 1) → w_X6_goes_75 p0 p1 p2 p3 p4 K (w_X6_goes_6 p0 p1 p2 p3 p4 K n9) (v6) (v7) h))))))))) := rfl
def w_X6_goes (p0 : Int32) (p1 : Int32) (p2 : Int32) (p3 : Int32) (p4 : Int32) (h : xH) (K : Int32 → xH → Prop) : Prop := (∃ n : Nat, w_X6_goes_6 p0 p1 p2 p3 p4 K n (0) (0) h)
def w_X6_tellsRepeats (p0 : Int32) (h : xH) (K : Unit → xH → Prop) : Prop := (vp_in p0 6 ∧ (∀ x2 : Int32, x2 = (h 66 p0.toNatClampNeg) → (vp_in p0 6 ∧ ∀ h4 : xH, h4 = xup h 66 p0.toNatClampNeg 0 → (vp_in p0 6 ∧ (vp_in p0 6 ∧ w_X6_goes p0 ((h4 69 p0.toNatClampNeg) / 160000) (((h4 69 p0.toNatClampNeg) / 20000) - ((h4 69 p0.toNatClampNeg) / 20000) / 8 * 8) (((10000 : Int32) * (p0 + 1)) + x2) (15 : Int32) h4 (fun r7 h8 => K () h8))))))
def w_X6_tellsDrops (p0 : Int32) (h : xH) (K : Unit → xH → Prop) : Prop := (vp_in p0 6 ∧ (∀ x2 : Int32, x2 = (h 68 p0.toNatClampNeg) → (vp_in p0 6 ∧ ∀ h4 : xH, h4 = xup h 68 p0.toNatClampNeg 0 → w_X6_goes p0 (5 : Int32) (4 : Int32) (((100000 : Int32) * (p0 + 1)) + x2) (20 : Int32) h4 (fun r5 h6 => K () h6))))
def w_X6_notes (p0 : Int32) (p1 : Int32) (h : xH) (K : Int32 → xH → Prop) : Prop := (vp_in (h 60 31) 400 ∧ ∀ h2 : xH, h2 = xup h 92 (h 60 31).toNatClampNeg p0 → (vp_in (h2 60 31) 400 ∧ ∀ h4 : xH, h4 = xup h2 93 (h2 60 31).toNatClampNeg p1 → (∀ h5 : xH, h5 = xup h4 60 31 ((h4 60 31) + 1) → K p0 h5)))
def w_X6_message_285 (p0 : Int32) (p1 : Int32) (p2 : Int32) (p3 : Int32) (p4 : Int32) (K : Int32 → xH → Prop) (v9 : Int32) (s0 : Nat) (s1 : Int32) (h : xH) : Prop := w_X6_notes s1 v9 h (fun r51 h52 => K r51 h52)
def w_X6_message_251 (p0 : Int32) (p1 : Int32) (p2 : Int32) (p3 : Int32) (p4 : Int32) (K : Int32 → xH → Prop) (v8 : Int32) (h : xH) : Prop := (vp_in p0 6 ∧ ∀ h47 : xH, h47 = xup h 69 p0.toNatClampNeg v8 → w_X6_goes p0 p1 p2 (h47 60 31) p4 h47 (fun r48 h49 => ((r48 = 0 → w_X6_message_285 p0 p1 p2 p3 p4 K  (r48) (60) (2) h49) ∧ (¬ (r48 = 0) → w_X6_message_285 p0 p1 p2 p3 p4 K  (r48) (60) (3) h49))))
def w_X6_message_201 (p0 : Int32) (p1 : Int32) (p2 : Int32) (p3 : Int32) (p4 : Int32) (K : Int32 → xH → Prop) (v8 : Int32) (h : xH) : Prop := (vp_in p0 6 ∧ (((h 65 p0.toNatClampNeg) = 0 → (vp_in p0 6 ∧ (vp_in p0 6 ∧ ∀ h43 : xH, h43 = xup h 68 p0.toNatClampNeg ((h 68 p0.toNatClampNeg) + 1) → w_X6_notes (1 : Int32) (0 : Int32) h43 (fun r44 h45 => K r44 h45)))) ∧ (¬ ((h 65 p0.toNatClampNeg) = 0) → (vp_in p0 6 ∧ (vp_in p0 6 ∧ ∀ h36 : xH, h36 = xup h 65 p0.toNatClampNeg ((h 65 p0.toNatClampNeg) - 1) → (vp_in p0 6 ∧ (((h36 68 p0.toNatClampNeg) ≤ 0 → w_X6_message_251 p0 p1 p2 p3 p4 K  (v8) h36) ∧ (¬ ((h36 68 p0.toNatClampNeg) ≤ 0) → w_X6_tellsDrops p0 h36 (fun _ h40 => w_X6_message_251 p0 p1 p2 p3 p4 K  (v8) h40)))))))))
def w_X6_message_187 (p0 : Int32) (p1 : Int32) (p2 : Int32) (p3 : Int32) (p4 : Int32) (K : Int32 → xH → Prop) (v8 : Int32) (h : xH) : Prop := (vp_in p0 6 ∧ (((h 66 p0.toNatClampNeg) ≤ 0 → w_X6_message_201 p0 p1 p2 p3 p4 K  (v8) h) ∧ (¬ ((h 66 p0.toNatClampNeg) ≤ 0) → w_X6_tellsRepeats p0 h (fun _ h31 => w_X6_message_201 p0 p1 p2 p3 p4 K  (v8) h31))))
def w_X6_message_169 (p0 : Int32) (p1 : Int32) (p2 : Int32) (p3 : Int32) (p4 : Int32) (K : Int32 → xH → Prop) (s1 : Int32) (s2 : Int32) (h : xH) : Prop := (vp_in s1 6 ∧ ∀ h54 : xH, h54 = xup h 67 s1.toNatClampNeg s2 → (vp_in p0 6 ∧ (vp_in p0 6 ∧ ∀ h57 : xH, h57 = xup h54 66 p0.toNatClampNeg ((h54 66 p0.toNatClampNeg) + 1) → w_X6_notes (0 : Int32) (0 : Int32) h57 (fun r58 h59 => K r58 h59))))
def w_X6_message_92 (p0 : Int32) (p1 : Int32) (p2 : Int32) (p3 : Int32) (p4 : Int32) (K : Int32 → xH → Prop) (s0 : Nat) (s1 : Int32) (h : xH) : Prop := w_X6_holds s1 h (fun r18 h19 => ((r18 = 0 → K 0 h19) ∧ (¬ (r18 = 0) → (∀ x21 : Int32, x21 = ((((((160000 : Int32) * p1) + ((20000 : Int32) * p2)) + ((200 : Int32) * p3)) + p4) - 1) → (((h19 60 4) ≤ 0 → w_X6_message_187 p0 p1 p2 p3 p4 K  (x21) h19) ∧ (¬ ((h19 60 4) ≤ 0) → (vp_in p0 6 ∧ (((h19 69 p0.toNatClampNeg) = x21 → (vp_in p0 6 ∧ (((h19 66 p0.toNatClampNeg) = 0 → w_X6_message_169 p0 p1 p2 p3 p4 K  (p0) ((h19 60 1)) h19) ∧ (¬ ((h19 66 p0.toNatClampNeg) = 0) → (vp_in p0 6 ∧ w_X6_message_169 p0 p1 p2 p3 p4 K  (p0) ((h19 67 p0.toNatClampNeg)) h19))))) ∧ (¬ ((h19 69 p0.toNatClampNeg) = x21) → w_X6_message_187 p0 p1 p2 p3 p4 K  (x21) h19)))))))))
def w_X6_message_56 (p0 : Int32) (p1 : Int32) (p2 : Int32) (p3 : Int32) (p4 : Int32) (K : Int32 → xH → Prop) (v6 : Int32) (s0 : Int32) (h : xH) : Prop := ((v6 = 0 → w_X6_message_92 p0 p1 p2 p3 p4 K  (60) (1) h) ∧ (¬ (v6 = 0) → ((s0 = 0 → w_X6_message_92 p0 p1 p2 p3 p4 K  (60) (2) h) ∧ (¬ (s0 = 0) → (((h 60 31) = 400 → w_X6_message_92 p0 p1 p2 p3 p4 K  (60) (3) h) ∧ (¬ ((h 60 31) = 400) → w_X6_message_92 p0 p1 p2 p3 p4 K  (60) (0) h))))))
def w_X6_message_55 (p0 : Int32) (p1 : Int32) (p2 : Int32) (p3 : Int32) (p4 : Int32) (K : Int32 → xH → Prop) (v6 : Int32) (h : xH) : Prop := w_X6_message_56 p0 p1 p2 p3 p4 K  (v6) (0) h
def w_X6_message (p0 : Int32) (p1 : Int32) (p2 : Int32) (p3 : Int32) (p4 : Int32) (h : xH) (K : Int32 → xH → Prop) : Prop := w_X6_isIn p0 (0 : Int32) (5 : Int32) h (fun r1 h2 => w_X6_isIn p1 (0 : Int32) (7 : Int32) h2 (fun r3 h4 => ((r3 = 0 → w_X6_message_55 p0 p1 p2 p3 p4 K  (r1) h4) ∧ (¬ (r3 = 0) → w_X6_isIn p2 (0 : Int32) (7 : Int32) h4 (fun r6 h7 => ((r6 = 0 → w_X6_message_55 p0 p1 p2 p3 p4 K  (r1) h7) ∧ (¬ (r6 = 0) → w_X6_isIn p3 (0 : Int32) (99 : Int32) h7 (fun r9 h10 => ((r9 = 0 → w_X6_message_55 p0 p1 p2 p3 p4 K  (r1) h10) ∧ (¬ (r9 = 0) → w_X6_isIn p4 (1 : Int32) (200 : Int32) h10 (fun r12 h13 => ((r12 = 0 → w_X6_message_55 p0 p1 p2 p3 p4 K  (r1) h13) ∧ (¬ (r12 = 0) → w_X6_message_56 p0 p1 p2 p3 p4 K  (r1) (1) h13)))))))))))))
def w_X6_due_70 (K : Int32 → xH → Prop) (R9 : Int32 → Int32 → xH → Prop) (v2 : Int32) (s0 : Int32) (h : xH) : Prop := (∀ x11 : Int32, x11 = v2 + (-1) → R9 (s0) (x11) h)
def w_X6_due_69 (K : Int32 → xH → Prop) (R9 : Int32 → Int32 → xH → Prop) (v1 : Int32) (v2 : Int32) (h : xH) : Prop := w_X6_due_70 K (R9) (v2) (v1) h
def w_X6_due_65 (K : Int32 → xH → Prop) (R9 : Int32 → Int32 → xH → Prop) (v2 : Int32) (h : xH) : Prop := w_X6_due_70 K (R9) (v2) (v2) h
def w_X6_due_40 (K : Int32 → xH → Prop) (R9 : Int32 → Int32 → xH → Prop) (v1 : Int32) (v2 : Int32) (s0 : Int32) (h : xH) : Prop := ((s0 = 0 → w_X6_due_69 K (R9) (v1) (v2) h) ∧ (¬ (s0 = 0) → ((v1 = (-1) → w_X6_due_65 K (R9) (v2) h) ∧ (¬ (v1 = (-1)) → (vp_in v2 6 ∧ (vp_in v1 6 ∧ (((h 67 v1.toNatClampNeg) < (h 67 v2.toNatClampNeg) → w_X6_due_69 K (R9) (v1) (v2) h) ∧ (¬ ((h 67 v1.toNatClampNeg) < (h 67 v2.toNatClampNeg)) → w_X6_due_65 K (R9) (v2) h))))))))
def w_X6_due_39 (K : Int32 → xH → Prop) (R9 : Int32 → Int32 → xH → Prop) (v1 : Int32) (v2 : Int32) (h : xH) : Prop := w_X6_due_40 K (R9) (v1) (v2) (0) h
def w_X6_due_4 (K : Int32 → xH → Prop) : Nat → Int32 → Int32 → xH → Prop
  | 0 => fun _ _ _ => False
  | n9 + 1 => fun v1 v2 h => ((v2 < 0 → K v1 h) ∧ (¬ (v2 < 0) → (vp_in v2 6 ∧ (((h 66 v2.toNatClampNeg) ≤ 0 → w_X6_due_39 K (w_X6_due_4 K n9) (v1) (v2) h) ∧ (¬ ((h 66 v2.toNatClampNeg) ≤ 0) → (vp_in v2 6 ∧ ((((h 60 1) - (h 67 v2.toNatClampNeg)) < (h 60 4) → w_X6_due_39 K (w_X6_due_4 K n9) (v1) (v2) h) ∧ (¬ (((h 60 1) - (h 67 v2.toNatClampNeg)) < (h 60 4)) → w_X6_due_40 K (w_X6_due_4 K n9) (v1) (v2) (1) h))))))))
theorem w_X6_due_4_s {K : Int32 → xH → Prop} (n9 : Nat) (v1 : Int32) (v2 : Int32) (h : xH) : w_X6_due_4 K (n9 + 1) v1 v2 h = (((v2 < 0 → K v1 h) ∧ (¬ (v2 < 0) → (vp_in v2 6 ∧ (((h 66 v2.toNatClampNeg) ≤ 0 → w_X6_due_39 K (w_X6_due_4 K n9) (v1) (v2) h) ∧ (¬ ((h 66 v2.toNatClampNeg) ≤ 0) → (vp_in v2 6 ∧ ((((h 60 1) - (h 67 v2.toNatClampNeg)) < (h 60 4) → w_X6_due_39 K (w_X6_due_4 K n9) (v1) (v2) h) ∧ (¬ (((h 60 1) - (h 67 v2.toNatClampNeg)) < (h 60 4)) → w_X6_due_40 K (w_X6_due_4 K n9) (v1) (v2) (1) h))))))))) := rfl
def w_X6_due (h : xH) (K : Int32 → xH → Prop) : Prop := (∃ n : Nat, w_X6_due_4 K n ((-1)) (5) h)
def w_X6_passes_159 (K : Unit → xH → Prop) (R9 : Int32 → xH → Prop) (v1 : Int32) (h : xH) : Prop := (∀ x28 : Int32, x28 = v1 + 1 → R9 (x28) h)
def w_X6_passes_115 (K : Unit → xH → Prop) (R9 : Int32 → xH → Prop) (v1 : Int32) (s0 : Int32) (h : xH) : Prop := ((s0 = 0 → w_X6_passes_159 K (R9) (v1) h) ∧ (¬ (s0 = 0) → (vp_in ((7 : Int32) * v1) 28 ∧ (vp_in (((400 : Int32) * v1) + (h 81 ((7 : Int32) * v1).toNatClampNeg)) 1600 ∧ (vp_in v1 4 ∧ ((((h 60 1) - (h 83 (((400 : Int32) * v1) + (h 81 ((7 : Int32) * v1).toNatClampNeg)).toNatClampNeg)) < (h 76 v1.toNatClampNeg) → w_X6_passes_159 K (R9) (v1) h) ∧ (¬ (((h 60 1) - (h 83 (((400 : Int32) * v1) + (h 81 ((7 : Int32) * v1).toNatClampNeg)).toNatClampNeg)) < (h 76 v1.toNatClampNeg)) → w_X6_rotates v1 h (fun _ h27 => w_X6_passes_159 K (R9) (v1) h27))))))))
def w_X6_passes_114 (K : Unit → xH → Prop) (R9 : Int32 → xH → Prop) (v1 : Int32) (h : xH) : Prop := w_X6_passes_115 K (R9) (v1) (0) h
def w_X6_passes_88 (K : Unit → xH → Prop) : Nat → Int32 → xH → Prop
  | 0 => fun _ _ => False
  | n9 + 1 => fun v1 h => ((4 ≤ v1 → K () h) ∧ (¬ (4 ≤ v1) → (vp_in v1 4 ∧ (((h 76 v1.toNatClampNeg) ≤ 0 → w_X6_passes_114 K (w_X6_passes_88 K n9) (v1) h) ∧ (¬ ((h 76 v1.toNatClampNeg) ≤ 0) → w_X6_linesOf v1 h (fun r18 h19 => ((r18 ≤ 0 → w_X6_passes_114 K (w_X6_passes_88 K n9) (v1) h19) ∧ (¬ (r18 ≤ 0) → w_X6_passes_115 K (w_X6_passes_88 K n9) (v1) (1) h19))))))))
theorem w_X6_passes_88_s {K : Unit → xH → Prop} (n9 : Nat) (v1 : Int32) (h : xH) : w_X6_passes_88 K (n9 + 1) v1 h = (((4 ≤ v1 → K () h) ∧ (¬ (4 ≤ v1) → (vp_in v1 4 ∧ (((h 76 v1.toNatClampNeg) ≤ 0 → w_X6_passes_114 K (w_X6_passes_88 K n9) (v1) h) ∧ (¬ ((h 76 v1.toNatClampNeg) ≤ 0) → w_X6_linesOf v1 h (fun r18 h19 => ((r18 ≤ 0 → w_X6_passes_114 K (w_X6_passes_88 K n9) (v1) h19) ∧ (¬ (r18 ≤ 0) → w_X6_passes_115 K (w_X6_passes_88 K n9) (v1) (1) h19))))))))) := rfl
def w_X6_passes_68 (K : Unit → xH → Prop) : Nat → Int32 → xH → Prop
  | 0 => fun _ _ => False
  | n9 + 1 => fun v1 h => ((v1 = (-1) → (∃ n : Nat, w_X6_passes_88 K n (0) h)) ∧ (¬ (v1 = (-1)) → w_X6_tellsRepeats v1 h (fun _ h12 => w_X6_due h12 (fun r13 h14 => w_X6_passes_68 K n9 (r13) h14))))
theorem w_X6_passes_68_s {K : Unit → xH → Prop} (n9 : Nat) (v1 : Int32) (h : xH) : w_X6_passes_68 K (n9 + 1) v1 h = (((v1 = (-1) → (∃ n : Nat, w_X6_passes_88 K n (0) h)) ∧ (¬ (v1 = (-1)) → w_X6_tellsRepeats v1 h (fun _ h12 => w_X6_due h12 (fun r13 h14 => w_X6_passes_68 K n9 (r13) h14))))) := rfl
def w_X6_passes_55 (K : Unit → xH → Prop) (R9 : Int32 → xH → Prop) (v1 : Int32) (s1 : Int32) (s2 : Int32) (s3 : Int32) (h : xH) : Prop := (vp_in s1 6 ∧ ∀ h30 : xH, h30 = xup h 65 s1.toNatClampNeg (s2 + s3) → (∀ x31 : Int32, x31 = v1 + 1 → R9 (x31) h30))
def w_X6_passes_54 (K : Unit → xH → Prop) (R9 : Int32 → xH → Prop) (v1 : Int32) (s1 : Int32) (s2 : Int32) (h : xH) : Prop := w_X6_passes_55 K (R9) (v1) (s1) (s2) (0) h
def w_X6_passes_12 (K : Unit → xH → Prop) : Nat → Int32 → xH → Prop
  | 0 => fun _ _ => False
  | n9 + 1 => fun v1 h => ((6 ≤ v1 → w_X6_due h (fun r3 h4 => (∃ n : Nat, w_X6_passes_68 K n (r3) h4))) ∧ (¬ (6 ≤ v1) → (vp_in v1 6 ∧ ((¬ (h 60 3) = 0) ∧ ((((h 60 1) - (h 60 1) / (h 60 3) * (h 60 3)) = 0 → (vp_in v1 6 ∧ (((h 60 2) ≤ (h 65 v1.toNatClampNeg) → w_X6_passes_54 K (w_X6_passes_12 K n9) (v1) (v1) ((h 65 v1.toNatClampNeg)) h) ∧ (¬ ((h 60 2) ≤ (h 65 v1.toNatClampNeg)) → w_X6_passes_55 K (w_X6_passes_12 K n9) (v1) (v1) ((h 65 v1.toNatClampNeg)) (1) h)))) ∧ (¬ (((h 60 1) - (h 60 1) / (h 60 3) * (h 60 3)) = 0) → w_X6_passes_54 K (w_X6_passes_12 K n9) (v1) (v1) ((h 65 v1.toNatClampNeg)) h))))))
theorem w_X6_passes_12_s {K : Unit → xH → Prop} (n9 : Nat) (v1 : Int32) (h : xH) : w_X6_passes_12 K (n9 + 1) v1 h = (((6 ≤ v1 → w_X6_due h (fun r3 h4 => (∃ n : Nat, w_X6_passes_68 K n (r3) h4))) ∧ (¬ (6 ≤ v1) → (vp_in v1 6 ∧ ((¬ (h 60 3) = 0) ∧ ((((h 60 1) - (h 60 1) / (h 60 3) * (h 60 3)) = 0 → (vp_in v1 6 ∧ (((h 60 2) ≤ (h 65 v1.toNatClampNeg) → w_X6_passes_54 K (w_X6_passes_12 K n9) (v1) (v1) ((h 65 v1.toNatClampNeg)) h) ∧ (¬ ((h 60 2) ≤ (h 65 v1.toNatClampNeg)) → w_X6_passes_55 K (w_X6_passes_12 K n9) (v1) (v1) ((h 65 v1.toNatClampNeg)) (1) h)))) ∧ (¬ (((h 60 1) - (h 60 1) / (h 60 3) * (h 60 3)) = 0) → w_X6_passes_54 K (w_X6_passes_12 K n9) (v1) (v1) ((h 65 v1.toNatClampNeg)) h))))))) := rfl
def w_X6_passes (h : xH) (K : Unit → xH → Prop) : Prop := (∀ h1 : xH, h1 = xup h 60 1 ((h 60 1) + 1) → (∃ n : Nat, w_X6_passes_12 K n (0) h1))
def w_X6_pass_31 (p0 : Int32) (K : Int32 → xH → Prop) : Nat → Int32 → xH → Prop
  | 0 => fun _ _ => False
  | n9 + 1 => fun v2 h => ((p0 ≤ v2 → K (h 60 30) h) ∧ (¬ (p0 ≤ v2) → w_X6_passes h (fun _ h10 => (∀ x11 : Int32, x11 = v2 + 1 → w_X6_pass_31 p0 K n9 (x11) h10))))
theorem w_X6_pass_31_s {p0 : Int32} {K : Int32 → xH → Prop} (n9 : Nat) (v2 : Int32) (h : xH) : w_X6_pass_31 p0 K (n9 + 1) v2 h = (((p0 ≤ v2 → K (h 60 30) h) ∧ (¬ (p0 ≤ v2) → w_X6_passes h (fun _ h10 => (∀ x11 : Int32, x11 = v2 + 1 → w_X6_pass_31 p0 K n9 (x11) h10))))) := rfl
def w_X6_pass_16 (p0 : Int32) (K : Int32 → xH → Prop) (s0 : Nat) (s1 : Int32) (h : xH) : Prop := w_X6_holds s1 h (fun r4 h5 => ((r4 = 0 → K 0 h5) ∧ (¬ (r4 = 0) → (∀ h7 : xH, h7 = xup h5 60 30 0 → (∃ n : Nat, w_X6_pass_31 p0 K n (0) h7)))))
def w_X6_pass (p0 : Int32) (h : xH) (K : Int32 → xH → Prop) : Prop := w_X6_isIn p0 (1 : Int32) (100 : Int32) h (fun r1 h2 => ((r1 = 0 → w_X6_pass_16 p0 K  (60) (1) h2) ∧ (¬ (r1 = 0) → w_X6_pass_16 p0 K  (60) (0) h2)))
def w_X6_rotate_27 (p0 : Int32) (K : Int32 → xH → Prop) (s0 : Nat) (s1 : Int32) (h : xH) : Prop := w_X6_holds s1 h (fun r7 h8 => ((r7 = 0 → K 0 h8) ∧ (¬ (r7 = 0) → w_X6_rotates p0 h8 (fun _ h11 => (vp_in p0 4 ∧ K (h11 80 p0.toNatClampNeg) h11)))))
def w_X6_rotate (p0 : Int32) (h : xH) (K : Int32 → xH → Prop) : Prop := w_X6_isFile p0 h (fun r1 h2 => ((r1 = 0 → w_X6_rotate_27 p0 K  (60) (1) h2) ∧ (¬ (r1 = 0) → w_X6_linesOf p0 h2 (fun r4 h5 => ((r4 = 0 → w_X6_rotate_27 p0 K  (60) (2) h5) ∧ (¬ (r4 = 0) → w_X6_rotate_27 p0 K  (60) (0) h5))))))
def w_X6_connect_13 (K : Int32 → xH → Prop) (s0 : Nat) (s1 : Int32) (h : xH) : Prop := w_X6_holds s1 h (fun r2 h3 => ((r2 = 0 → K 0 h3) ∧ (¬ (r2 = 0) → (∀ h5 : xH, h5 = xup h3 60 24 1 → K ((h5 60 26) - (h5 60 27)) h5))))
def w_X6_connect (h : xH) (K : Int32 → xH → Prop) : Prop := (((h 60 24) = 0 → w_X6_connect_13 K  (60) (0) h) ∧ (¬ ((h 60 24) = 0) → w_X6_connect_13 K  (60) (1) h))
def w_X6_disconnect_13 (K : Int32 → xH → Prop) (s0 : Nat) (s1 : Int32) (h : xH) : Prop := w_X6_holds s1 h (fun r2 h3 => ((r2 = 0 → K 0 h3) ∧ (¬ (r2 = 0) → (∀ x5 : Int32, x5 = ((h3 60 27) - (h3 60 28)) → (∀ h6 : xH, h6 = xup h3 60 24 0 → (∀ h7 : xH, h7 = xup h6 60 27 (h6 60 28) → K x5 h7))))))
def w_X6_disconnect (h : xH) (K : Int32 → xH → Prop) : Prop := (((h 60 24) = 0 → w_X6_disconnect_13 K  (60) (1) h) ∧ (¬ ((h 60 24) = 0) → w_X6_disconnect_13 K  (60) (0) h))
def w_X6_send_37 (K : Int32 → xH → Prop) (s0 : Nat) (s1 : Int32) (h : xH) : Prop := w_X6_holds s1 h (fun r4 h5 => ((r4 = 0 → K 0 h5) ∧ (¬ (r4 = 0) → (∀ h7 : xH, h7 = xup h5 60 27 ((h5 60 27) + 1) → (vp_in ((h7 60 27) - 1) 400 ∧ K (h7 85 ((h7 60 27) - 1).toNatClampNeg) h7)))))
def w_X6_send_32 (K : Int32 → xH → Prop) (s0 : Nat) (h : xH) : Prop := w_X6_send_37 K  (60) (1) h
def w_X6_send (h : xH) (K : Int32 → xH → Prop) : Prop := (((h 60 24) = 0 → w_X6_send_32 K  (60) h) ∧ (¬ ((h 60 24) = 0) → (((h 60 26) = (h 60 27) → w_X6_send_32 K  (60) h) ∧ (¬ ((h 60 26) = (h 60 27)) → ((((h 60 27) - (h 60 28)) = 5 → w_X6_send_32 K  (60) h) ∧ (¬ (((h 60 27) - (h 60 28)) = 5) → w_X6_send_37 K  (60) (0) h))))))
def w_X6_acknowledge_17 (K : Int32 → xH → Prop) (s0 : Nat) (s1 : Int32) (h : xH) : Prop := w_X6_holds s1 h (fun r2 h3 => ((r2 = 0 → K 0 h3) ∧ (¬ (r2 = 0) → (∀ h5 : xH, h5 = xup h3 60 28 ((h3 60 28) + 1) → (vp_in ((h5 60 28) - 1) 400 ∧ K (h5 85 ((h5 60 28) - 1).toNatClampNeg) h5)))))
def w_X6_acknowledge (h : xH) (K : Int32 → xH → Prop) : Prop := (((h 60 27) = (h 60 28) → w_X6_acknowledge_17 K  (60) (1) h) ∧ (¬ ((h 60 27) = (h 60 28)) → w_X6_acknowledge_17 K  (60) (0) h))
def w_X6_time (h : xH) (K : Int32 → xH → Prop) : Prop := (∀ h1 : xH, h1 = xup h 60 0 0 → K (h1 60 1) h1)
def w_X6_isSender_15 (p0 : Int32) (K : Int32 → xH → Prop) (s0 : Nat) (s1 : Int32) (h : xH) : Prop := w_X6_holds s1 h (fun r4 h5 => ((narrow .boolean (.int r4) = .int r4) ∧ K r4 h5))
def w_X6_isSender (p0 : Int32) (h : xH) (K : Int32 → xH → Prop) : Prop := w_X6_isIn p0 (0 : Int32) (5 : Int32) h (fun r1 h2 => ((r1 = 0 → w_X6_isSender_15 p0 K  (60) (1) h2) ∧ (¬ (r1 = 0) → w_X6_isSender_15 p0 K  (60) (0) h2)))
def w_X6_tokens (p0 : Int32) (h : xH) (K : Int32 → xH → Prop) : Prop := w_X6_isSender p0 h (fun r1 h2 => ((r1 = 0 → K 0 h2) ∧ (¬ (r1 = 0) → (vp_in p0 6 ∧ K (h2 65 p0.toNatClampNeg) h2))))
def w_X6_repeats (p0 : Int32) (h : xH) (K : Int32 → xH → Prop) : Prop := w_X6_isSender p0 h (fun r1 h2 => ((r1 = 0 → K 0 h2) ∧ (¬ (r1 = 0) → (vp_in p0 6 ∧ K (h2 66 p0.toNatClampNeg) h2))))
def w_X6_drops (p0 : Int32) (h : xH) (K : Int32 → xH → Prop) : Prop := w_X6_isSender p0 h (fun r1 h2 => ((r1 = 0 → K 0 h2) ∧ (¬ (r1 = 0) → (vp_in p0 6 ∧ K (h2 68 p0.toNatClampNeg) h2))))
def w_X6_size_13 (p0 : Int32) (K : Int32 → xH → Prop) (s0 : Nat) (s1 : Int32) (h : xH) : Prop := w_X6_holds s1 h (fun r4 h5 => ((r4 = 0 → K 0 h5) ∧ (¬ (r4 = 0) → (vp_in p0 4 ∧ K (h5 78 p0.toNatClampNeg) h5))))
def w_X6_size (p0 : Int32) (h : xH) (K : Int32 → xH → Prop) : Prop := w_X6_isFile p0 h (fun r1 h2 => ((r1 = 0 → w_X6_size_13 p0 K  (60) (1) h2) ∧ (¬ (r1 = 0) → w_X6_size_13 p0 K  (60) (0) h2)))
def w_X6_isPart (p0 : Int32) (p1 : Int32) (h : xH) (K : Int32 → xH → Prop) : Prop := w_X6_isFile p0 h (fun r1 h2 => ((r1 = 0 → K 0 h2) ∧ (¬ (r1 = 0) → ((p1 < (-1) → K 0 h2) ∧ (¬ (p1 < (-1)) → (vp_in p0 4 ∧ (((h2 80 p0.toNatClampNeg) ≤ p1 → K 0 h2) ∧ (¬ ((h2 80 p0.toNatClampNeg) ≤ p1) → K 1 h2))))))))
def w_X6_startOf (p0 : Int32) (p1 : Int32) (h : xH) (K : Int32 → xH → Prop) : Prop := (vp_in ((((7 : Int32) * p0) + p1) + 1) 28 ∧ K (h 81 ((((7 : Int32) * p0) + p1) + 1).toNatClampNeg) h)
def w_X6_endOf (p0 : Int32) (p1 : Int32) (h : xH) (K : Int32 → xH → Prop) : Prop := ((p1 = (-1) → (vp_in p0 4 ∧ K (h 79 p0.toNatClampNeg) h)) ∧ (¬ (p1 = (-1)) → (vp_in (((7 : Int32) * p0) + p1) 28 ∧ K (h 81 (((7 : Int32) * p0) + p1).toNatClampNeg) h)))
def w_X6_lines_15 (p0 : Int32) (p1 : Int32) (K : Int32 → xH → Prop) (s0 : Nat) (s1 : Int32) (h : xH) : Prop := w_X6_holds s1 h (fun r4 h5 => ((r4 = 0 → K 0 h5) ∧ (¬ (r4 = 0) → w_X6_endOf p0 p1 h5 (fun r7 h8 => w_X6_startOf p0 p1 h8 (fun r9 h10 => K (r7 - r9) h10)))))
def w_X6_lines (p0 : Int32) (p1 : Int32) (h : xH) (K : Int32 → xH → Prop) : Prop := w_X6_isPart p0 p1 h (fun r1 h2 => ((r1 = 0 → w_X6_lines_15 p0 p1 K  (60) (1) h2) ∧ (¬ (r1 = 0) → w_X6_lines_15 p0 p1 K  (60) (0) h2)))
def w_X6_line_40 (p0 : Int32) (p1 : Int32) (p2 : Int32) (K : Int32 → xH → Prop) (s0 : Nat) (s1 : Int32) (h : xH) : Prop := w_X6_holds s1 h (fun r10 h11 => ((r10 = 0 → K 0 h11) ∧ (¬ (r10 = 0) → w_X6_startOf p0 p1 h11 (fun r13 h14 => (vp_in ((((400 : Int32) * p0) + r13) + p2) 1600 ∧ K (h14 82 ((((400 : Int32) * p0) + r13) + p2).toNatClampNeg) h14)))))
def w_X6_line_39 (p0 : Int32) (p1 : Int32) (p2 : Int32) (K : Int32 → xH → Prop) (s0 : Nat) (h : xH) : Prop := w_X6_line_40 p0 p1 p2 K  (60) (1) h
def w_X6_line (p0 : Int32) (p1 : Int32) (p2 : Int32) (h : xH) (K : Int32 → xH → Prop) : Prop := w_X6_isPart p0 p1 h (fun r1 h2 => ((r1 = 0 → w_X6_line_39 p0 p1 p2 K  (60) h2) ∧ (¬ (r1 = 0) → ((p2 < 0 → w_X6_line_39 p0 p1 p2 K  (60) h2) ∧ (¬ (p2 < 0) → w_X6_endOf p0 p1 h2 (fun r5 h6 => w_X6_startOf p0 p1 h6 (fun r7 h8 => (((r5 - r7) ≤ p2 → w_X6_line_39 p0 p1 p2 K  (60) h8) ∧ (¬ ((r5 - r7) ≤ p2) → w_X6_line_40 p0 p1 p2 K  (60) (0) h8)))))))))
def w_X6_generations_13 (p0 : Int32) (K : Int32 → xH → Prop) (s0 : Nat) (s1 : Int32) (h : xH) : Prop := w_X6_holds s1 h (fun r4 h5 => ((r4 = 0 → K 0 h5) ∧ (¬ (r4 = 0) → (vp_in p0 4 ∧ K (h5 80 p0.toNatClampNeg) h5))))
def w_X6_generations (p0 : Int32) (h : xH) (K : Int32 → xH → Prop) : Prop := w_X6_isFile p0 h (fun r1 h2 => ((r1 = 0 → w_X6_generations_13 p0 K  (60) (1) h2) ∧ (¬ (r1 = 0) → w_X6_generations_13 p0 K  (60) (0) h2)))
def w_X6_queued (h : xH) (K : Int32 → xH → Prop) : Prop := (∀ h1 : xH, h1 = xup h 60 0 0 → K ((h1 60 26) - (h1 60 27)) h1)
def w_X6_inFlight (h : xH) (K : Int32 → xH → Prop) : Prop := (∀ h1 : xH, h1 = xup h 60 0 0 → K ((h1 60 27) - (h1 60 28)) h1)
def w_X6_acknowledged (h : xH) (K : Int32 → xH → Prop) : Prop := (∀ h1 : xH, h1 = xup h 60 0 0 → K (h1 60 28) h1)
def w_X6_lost (h : xH) (K : Int32 → xH → Prop) : Prop := (∀ h1 : xH, h1 = xup h 60 0 0 → K (h1 60 29) h1)
def w_X6_messages (h : xH) (K : Int32 → xH → Prop) : Prop := (∀ h1 : xH, h1 = xup h 60 0 0 → K (h1 60 31) h1)
def w_X6_isMessage_18 (p0 : Int32) (K : Int32 → xH → Prop) (s0 : Nat) (s1 : Int32) (h : xH) : Prop := w_X6_holds s1 h (fun r3 h4 => ((narrow .boolean (.int r3) = .int r3) ∧ K r3 h4))
def w_X6_isMessage_17 (p0 : Int32) (K : Int32 → xH → Prop) (s0 : Nat) (h : xH) : Prop := w_X6_isMessage_18 p0 K  (60) (1) h
def w_X6_isMessage (p0 : Int32) (h : xH) (K : Int32 → xH → Prop) : Prop := ((p0 < 0 → w_X6_isMessage_17 p0 K  (60) h) ∧ (¬ (p0 < 0) → (((h 60 31) ≤ p0 → w_X6_isMessage_17 p0 K  (60) h) ∧ (¬ ((h 60 31) ≤ p0) → w_X6_isMessage_18 p0 K  (60) (0) h))))
def w_X6_fateOf (p0 : Int32) (h : xH) (K : Int32 → xH → Prop) : Prop := w_X6_isMessage p0 h (fun r1 h2 => ((r1 = 0 → K 0 h2) ∧ (¬ (r1 = 0) → (vp_in p0 400 ∧ K (h2 92 p0.toNatClampNeg) h2))))
def w_X6_count_51 (p0 : Int32) (K : Int32 → xH → Prop) (R9 : Int32 → Int32 → xH → Prop) (v3 : Int32) (s0 : Int32) (s1 : Int32) (h : xH) : Prop := (∀ x10 : Int32, x10 = (s0 + s1) → (∀ x11 : Int32, x11 = v3 + 1 → R9 (x10) (x11) h))
def w_X6_count_27 (p0 : Int32) (K : Int32 → xH → Prop) : Nat → Int32 → Int32 → xH → Prop
  | 0 => fun _ _ _ => False
  | n9 + 1 => fun v2 v3 h => (((h 60 31) ≤ v3 → K v2 h) ∧ (¬ ((h 60 31) ≤ v3) → (vp_in v3 400 ∧ (((h 92 v3.toNatClampNeg) = p0 → w_X6_count_51 p0 K (w_X6_count_27 p0 K n9) (v3) (v2) (1) h) ∧ (¬ ((h 92 v3.toNatClampNeg) = p0) → w_X6_count_51 p0 K (w_X6_count_27 p0 K n9) (v3) (v2) (0) h)))))
theorem w_X6_count_27_s {p0 : Int32} {K : Int32 → xH → Prop} (n9 : Nat) (v2 : Int32) (v3 : Int32) (h : xH) : w_X6_count_27 p0 K (n9 + 1) v2 v3 h = ((((h 60 31) ≤ v3 → K v2 h) ∧ (¬ ((h 60 31) ≤ v3) → (vp_in v3 400 ∧ (((h 92 v3.toNatClampNeg) = p0 → w_X6_count_51 p0 K (w_X6_count_27 p0 K n9) (v3) (v2) (1) h) ∧ (¬ ((h 92 v3.toNatClampNeg) = p0) → w_X6_count_51 p0 K (w_X6_count_27 p0 K n9) (v3) (v2) (0) h)))))) := rfl
def w_X6_count_15 (p0 : Int32) (K : Int32 → xH → Prop) (s0 : Nat) (s1 : Int32) (h : xH) : Prop := w_X6_holds s1 h (fun r4 h5 => ((r4 = 0 → K 0 h5) ∧ (¬ (r4 = 0) → (∃ n : Nat, w_X6_count_27 p0 K n (0) (0) h5))))
def w_X6_count (p0 : Int32) (h : xH) (K : Int32 → xH → Prop) : Prop := w_X6_isIn p0 (0 : Int32) (3 : Int32) h (fun r1 h2 => ((r1 = 0 → w_X6_count_15 p0 K  (60) (1) h2) ∧ (¬ (r1 = 0) → w_X6_count_15 p0 K  (60) (0) h2)))
def w_X6_targetsOf (p0 : Int32) (h : xH) (K : Int32 → xH → Prop) : Prop := w_X6_isMessage p0 h (fun r1 h2 => ((r1 = 0 → K 0 h2) ∧ (¬ (r1 = 0) → (vp_in p0 400 ∧ K (h2 93 p0.toNatClampNeg) h2))))
def w_L_setRate (p0 : Int32) (p1 : Int32) (h : xH) (K : Int32 → xH → Prop) : Prop := w_X5_setRate p0 p1 h (fun r1 h2 => (∀ h3 : xH, h3 = xup h2 100 0 r1 → K 0 h3)) (fun E8 h8 => (E8 = "java/lang/IllegalArgumentException" ∧ K 1 h8))
def w_L_setFold (p0 : Int32) (h : xH) (K : Int32 → xH → Prop) : Prop := w_X5_setFold p0 h (fun r1 h2 => (∀ h3 : xH, h3 = xup h2 100 0 r1 → K 0 h3)) (fun E8 h8 => (E8 = "java/lang/IllegalArgumentException" ∧ K 1 h8))
def w_L_setRule (p0 : Int32) (p1 : Int32) (p2 : Int32) (p3 : Int32) (p4 : Int32) (h : xH) (K : Int32 → xH → Prop) : Prop := w_X5_setRule p0 p1 p2 p3 p4 h (fun r1 h2 => (∀ h3 : xH, h3 = xup h2 100 0 r1 → K 0 h3)) (fun E8 h8 => (E8 = "java/lang/IndexOutOfBoundsException" ∧ K 1 h8) ∨ (E8 = "java/lang/IllegalArgumentException" ∧ K 2 h8))
def w_L_removeRule (p0 : Int32) (h : xH) (K : Int32 → xH → Prop) : Prop := w_X5_removeRule p0 h (fun r1 h2 => ((r1 = 0 → (∀ h4 : xH, h4 = xup h2 100 0 (0 : Int32) → K 0 h4)) ∧ (¬ (r1 = 0) → (∀ h5 : xH, h5 = xup h2 100 0 (1 : Int32) → K 0 h5)))) (fun E8 h8 => (E8 = "java/lang/IndexOutOfBoundsException" ∧ K 1 h8))
def w_L_setFile (p0 : Int32) (p1 : Int32) (p2 : Int32) (p3 : Int32) (h : xH) (K : Int32 → xH → Prop) : Prop := w_X5_setFile p0 p1 p2 p3 h (fun r1 h2 => (∀ h3 : xH, h3 = xup h2 100 0 r1 → K 0 h3)) (fun E8 h8 => (E8 = "java/lang/IndexOutOfBoundsException" ∧ K 1 h8) ∨ (E8 = "java/lang/IllegalArgumentException" ∧ K 2 h8))
def w_L_message (p0 : Int32) (p1 : Int32) (p2 : Int32) (p3 : Int32) (p4 : Int32) (h : xH) (K : Int32 → xH → Prop) : Prop := w_X5_message p0 p1 p2 p3 p4 h (fun r1 h2 => (∀ h3 : xH, h3 = xup h2 100 0 r1 → K 0 h3)) (fun E8 h8 => (E8 = "java/lang/IndexOutOfBoundsException" ∧ K 1 h8) ∨ (E8 = "java/lang/IllegalArgumentException" ∧ K 2 h8) ∨ (E8 = "java/lang/IllegalStateException" ∧ K 3 h8))
def w_L_pass (p0 : Int32) (h : xH) (K : Int32 → xH → Prop) : Prop := w_X5_pass p0 h (fun r1 h2 => (∀ h3 : xH, h3 = xup h2 100 0 r1 → K 0 h3)) (fun E8 h8 => (E8 = "java/lang/IllegalArgumentException" ∧ K 1 h8))
def w_L_rotate (p0 : Int32) (h : xH) (K : Int32 → xH → Prop) : Prop := w_X5_rotate p0 h (fun r1 h2 => (∀ h3 : xH, h3 = xup h2 100 0 r1 → K 0 h3)) (fun E8 h8 => (E8 = "java/lang/IndexOutOfBoundsException" ∧ K 1 h8) ∨ (E8 = "java/lang/IllegalStateException" ∧ K 2 h8))
def w_L_connect (h : xH) (K : Int32 → xH → Prop) : Prop := w_X5_connect h (fun r1 h2 => (∀ h3 : xH, h3 = xup h2 100 0 r1 → K 0 h3)) (fun E8 h8 => (E8 = "java/lang/IllegalStateException" ∧ K 1 h8))
def w_L_disconnect (h : xH) (K : Int32 → xH → Prop) : Prop := w_X5_disconnect h (fun r1 h2 => (∀ h3 : xH, h3 = xup h2 100 0 r1 → K 0 h3)) (fun E8 h8 => (E8 = "java/lang/IllegalStateException" ∧ K 1 h8))
def w_L_send (h : xH) (K : Int32 → xH → Prop) : Prop := w_X5_send h (fun r1 h2 => (∀ h3 : xH, h3 = xup h2 100 0 r1 → K 0 h3)) (fun E8 h8 => (E8 = "java/lang/IllegalStateException" ∧ K 1 h8))
def w_L_acknowledge (h : xH) (K : Int32 → xH → Prop) : Prop := w_X5_acknowledge h (fun r1 h2 => (∀ h3 : xH, h3 = xup h2 100 0 r1 → K 0 h3)) (fun E8 h8 => (E8 = "java/lang/IllegalStateException" ∧ K 1 h8))
def w_L_tokens (p0 : Int32) (h : xH) (K : Int32 → xH → Prop) : Prop := w_X5_tokens p0 h (fun r1 h2 => (∀ h3 : xH, h3 = xup h2 100 0 r1 → K 0 h3)) (fun E8 h8 => (E8 = "java/lang/IndexOutOfBoundsException" ∧ K 1 h8))
def w_L_repeats (p0 : Int32) (h : xH) (K : Int32 → xH → Prop) : Prop := w_X5_repeats p0 h (fun r1 h2 => (∀ h3 : xH, h3 = xup h2 100 0 r1 → K 0 h3)) (fun E8 h8 => (E8 = "java/lang/IndexOutOfBoundsException" ∧ K 1 h8))
def w_L_drops (p0 : Int32) (h : xH) (K : Int32 → xH → Prop) : Prop := w_X5_drops p0 h (fun r1 h2 => (∀ h3 : xH, h3 = xup h2 100 0 r1 → K 0 h3)) (fun E8 h8 => (E8 = "java/lang/IndexOutOfBoundsException" ∧ K 1 h8))
def w_L_size (p0 : Int32) (h : xH) (K : Int32 → xH → Prop) : Prop := w_X5_size p0 h (fun r1 h2 => (∀ h3 : xH, h3 = xup h2 100 0 r1 → K 0 h3)) (fun E8 h8 => (E8 = "java/lang/IndexOutOfBoundsException" ∧ K 1 h8))
def w_L_lines (p0 : Int32) (p1 : Int32) (h : xH) (K : Int32 → xH → Prop) : Prop := w_X5_lines p0 p1 h (fun r1 h2 => (∀ h3 : xH, h3 = xup h2 100 0 r1 → K 0 h3)) (fun E8 h8 => (E8 = "java/lang/IndexOutOfBoundsException" ∧ K 1 h8))
def w_L_line (p0 : Int32) (p1 : Int32) (p2 : Int32) (h : xH) (K : Int32 → xH → Prop) : Prop := w_X5_line p0 p1 p2 h (fun r1 h2 => (∀ h3 : xH, h3 = xup h2 100 0 r1 → K 0 h3)) (fun E8 h8 => (E8 = "java/lang/IndexOutOfBoundsException" ∧ K 1 h8))
def w_L_generations (p0 : Int32) (h : xH) (K : Int32 → xH → Prop) : Prop := w_X5_generations p0 h (fun r1 h2 => (∀ h3 : xH, h3 = xup h2 100 0 r1 → K 0 h3)) (fun E8 h8 => (E8 = "java/lang/IndexOutOfBoundsException" ∧ K 1 h8))
def w_L_fateOf (p0 : Int32) (h : xH) (K : Int32 → xH → Prop) : Prop := w_X5_fateOf p0 h (fun r1 h2 => (∀ h3 : xH, h3 = xup h2 100 0 r1 → K 0 h3)) (fun E8 h8 => (E8 = "java/lang/IndexOutOfBoundsException" ∧ K 1 h8))
def w_L_count (p0 : Int32) (h : xH) (K : Int32 → xH → Prop) : Prop := w_X5_count p0 h (fun r1 h2 => (∀ h3 : xH, h3 = xup h2 100 0 r1 → K 0 h3)) (fun E8 h8 => (E8 = "java/lang/IndexOutOfBoundsException" ∧ K 1 h8))
def w_L_targetsOf (p0 : Int32) (h : xH) (K : Int32 → xH → Prop) : Prop := w_X5_targetsOf p0 h (fun r1 h2 => (∀ h3 : xH, h3 = xup h2 100 0 r1 → K 0 h3)) (fun E8 h8 => (E8 = "java/lang/IndexOutOfBoundsException" ∧ K 1 h8))
end
section
theorem dX0_init_0 : decode cX0_init 0 = .ok (.aload_n 0, 1) := by decide +kernel
theorem dX0_init_1 : decode cX0_init 1 = .ok (.invokespecial 3, 3) := by decide +kernel
theorem dX0_init_4 : decode cX0_init 4 = .ok (.aload_n 0, 1) := by decide +kernel
theorem dX0_init_5 : decode cX0_init 5 = .ok (.sipush 400, 3) := by decide +kernel
theorem dX0_init_8 : decode cX0_init 8 = .ok (.newarray .int, 2) := by decide +kernel
theorem dX0_init_10 : decode cX0_init 10 = .ok (.putfield 9, 3) := by decide +kernel
theorem dX0_init_13 : decode cX0_init 13 = .ok (.aload_n 0, 1) := by decide +kernel
theorem dX0_init_14 : decode cX0_init 14 = .ok (.iconst 0, 1) := by decide +kernel
theorem dX0_init_15 : decode cX0_init 15 = .ok (.putfield 15, 3) := by decide +kernel
theorem dX0_init_18 : decode cX0_init 18 = .ok (.aload_n 0, 1) := by decide +kernel
theorem dX0_init_19 : decode cX0_init 19 = .ok (.iconst 0, 1) := by decide +kernel
theorem dX0_init_20 : decode cX0_init 20 = .ok (.putfield 19, 3) := by decide +kernel
theorem dX0_init_23 : decode cX0_init 23 = .ok (.aload_n 0, 1) := by decide +kernel
theorem dX0_init_24 : decode cX0_init 24 = .ok (.iconst 0, 1) := by decide +kernel
theorem dX0_init_25 : decode cX0_init 25 = .ok (.putfield 22, 3) := by decide +kernel
theorem dX0_init_28 : decode cX0_init 28 = .ok (.aload_n 0, 1) := by decide +kernel
theorem dX0_init_29 : decode cX0_init 29 = .ok (.iconst 0, 1) := by decide +kernel
theorem dX0_init_30 : decode cX0_init 30 = .ok (.putfield 25, 3) := by decide +kernel
theorem dX0_init_33 : decode cX0_init 33 = .ok (.aload_n 0, 1) := by decide +kernel
theorem dX0_init_34 : decode cX0_init 34 = .ok (.iconst 0, 1) := by decide +kernel
theorem dX0_init_35 : decode cX0_init 35 = .ok (.putfield 28, 3) := by decide +kernel
theorem dX0_init_38 : decode cX0_init 38 = .ok (.return_, 1) := by decide +kernel
theorem dX0_waiting_0 : decode cX0_waiting 0 = .ok (.aload_n 0, 1) := by decide +kernel
theorem dX0_waiting_1 : decode cX0_waiting 1 = .ok (.getfield 15, 3) := by decide +kernel
theorem dX0_waiting_4 : decode cX0_waiting 4 = .ok (.aload_n 0, 1) := by decide +kernel
theorem dX0_waiting_5 : decode cX0_waiting 5 = .ok (.getfield 19, 3) := by decide +kernel
theorem dX0_waiting_8 : decode cX0_waiting 8 = .ok (.isub, 1) := by decide +kernel
theorem dX0_waiting_9 : decode cX0_waiting 9 = .ok (.ireturn, 1) := by decide +kernel
theorem dX0_flying_0 : decode cX0_flying 0 = .ok (.aload_n 0, 1) := by decide +kernel
theorem dX0_flying_1 : decode cX0_flying 1 = .ok (.getfield 19, 3) := by decide +kernel
theorem dX0_flying_4 : decode cX0_flying 4 = .ok (.aload_n 0, 1) := by decide +kernel
theorem dX0_flying_5 : decode cX0_flying 5 = .ok (.getfield 22, 3) := by decide +kernel
theorem dX0_flying_8 : decode cX0_flying 8 = .ok (.isub, 1) := by decide +kernel
theorem dX0_flying_9 : decode cX0_flying 9 = .ok (.ireturn, 1) := by decide +kernel
theorem dX0_take_0 : decode cX0_take 0 = .ok (.aload_n 0, 1) := by decide +kernel
theorem dX0_take_1 : decode cX0_take 1 = .ok (.getfield 15, 3) := by decide +kernel
theorem dX0_take_4 : decode cX0_take 4 = .ok (.aload_n 0, 1) := by decide +kernel
theorem dX0_take_5 : decode cX0_take 5 = .ok (.getfield 22, 3) := by decide +kernel
theorem dX0_take_8 : decode cX0_take 8 = .ok (.isub, 1) := by decide +kernel
theorem dX0_take_9 : decode cX0_take 9 = .ok (.bipush 30, 2) := by decide +kernel
theorem dX0_take_11 : decode cX0_take 11 = .ok (.if_icmp .ge 45, 3) := by decide +kernel
theorem dX0_take_14 : decode cX0_take 14 = .ok (.aload_n 0, 1) := by decide +kernel
theorem dX0_take_15 : decode cX0_take 15 = .ok (.getfield 15, 3) := by decide +kernel
theorem dX0_take_18 : decode cX0_take 18 = .ok (.ifCond .lt 38, 3) := by decide +kernel
theorem dX0_take_21 : decode cX0_take 21 = .ok (.aload_n 0, 1) := by decide +kernel
theorem dX0_take_22 : decode cX0_take 22 = .ok (.getfield 15, 3) := by decide +kernel
theorem dX0_take_25 : decode cX0_take 25 = .ok (.aload_n 0, 1) := by decide +kernel
theorem dX0_take_26 : decode cX0_take 26 = .ok (.getfield 9, 3) := by decide +kernel
theorem dX0_take_29 : decode cX0_take 29 = .ok (.arraylength, 1) := by decide +kernel
theorem dX0_take_30 : decode cX0_take 30 = .ok (.if_icmp .ge 26, 3) := by decide +kernel
theorem dX0_take_33 : decode cX0_take 33 = .ok (.aload_n 0, 1) := by decide +kernel
theorem dX0_take_34 : decode cX0_take 34 = .ok (.getfield 9, 3) := by decide +kernel
theorem dX0_take_37 : decode cX0_take 37 = .ok (.aload_n 0, 1) := by decide +kernel
theorem dX0_take_38 : decode cX0_take 38 = .ok (.getfield 15, 3) := by decide +kernel
theorem dX0_take_41 : decode cX0_take 41 = .ok (.iload_n 1, 1) := by decide +kernel
theorem dX0_take_42 : decode cX0_take 42 = .ok (.iastore, 1) := by decide +kernel
theorem dX0_take_43 : decode cX0_take 43 = .ok (.aload_n 0, 1) := by decide +kernel
theorem dX0_take_44 : decode cX0_take 44 = .ok (.dup, 1) := by decide +kernel
theorem dX0_take_45 : decode cX0_take 45 = .ok (.getfield 15, 3) := by decide +kernel
theorem dX0_take_48 : decode cX0_take 48 = .ok (.iconst 1, 1) := by decide +kernel
theorem dX0_take_49 : decode cX0_take 49 = .ok (.iadd, 1) := by decide +kernel
theorem dX0_take_50 : decode cX0_take 50 = .ok (.putfield 15, 3) := by decide +kernel
theorem dX0_take_53 : decode cX0_take 53 = .ok (.goto 13, 3) := by decide +kernel
theorem dX0_take_56 : decode cX0_take 56 = .ok (.aload_n 0, 1) := by decide +kernel
theorem dX0_take_57 : decode cX0_take 57 = .ok (.dup, 1) := by decide +kernel
theorem dX0_take_58 : decode cX0_take 58 = .ok (.getfield 25, 3) := by decide +kernel
theorem dX0_take_61 : decode cX0_take 61 = .ok (.iconst 1, 1) := by decide +kernel
theorem dX0_take_62 : decode cX0_take 62 = .ok (.iadd, 1) := by decide +kernel
theorem dX0_take_63 : decode cX0_take 63 = .ok (.putfield 25, 3) := by decide +kernel
theorem dX0_take_66 : decode cX0_take 66 = .ok (.return_, 1) := by decide +kernel
set_option maxRecDepth 20000 in
theorem ggX0_canSend_X0_waiting : GoodIn wsX0_canSend wsX0_waiting := goodIn_r _ [6, 7, 8, 14, 15, 16, 17, 18, 19] (by decide +kernel) (by decide +kernel)
set_option maxRecDepth 20000 in
theorem gX0_canSend_X0_waiting : GoodIn wsX0_canSend (wsV RX0 32 RX0 yX0_waiting wsX0_waiting) := goodIn_app (goodIn_of _ (by decide +kernel)) ggX0_canSend_X0_waiting
set_option maxRecDepth 20000 in
theorem ggX0_canSend_X0_flying : GoodIn wsX0_canSend wsX0_flying := goodIn_r _ [12, 8, 13, 14, 15, 16, 17, 18, 19] (by decide +kernel) (by decide +kernel)
set_option maxRecDepth 20000 in
theorem gX0_canSend_X0_flying : GoodIn wsX0_canSend (wsV RX0 36 RX0 yX0_flying wsX0_flying) := goodIn_app (goodIn_of _ (by decide +kernel)) ggX0_canSend_X0_flying
theorem dX0_canSend_0 : decode cX0_canSend 0 = .ok (.aload_n 0, 1) := by decide +kernel
theorem dX0_canSend_1 : decode cX0_canSend 1 = .ok (.getfield 28, 3) := by decide +kernel
theorem dX0_canSend_4 : decode cX0_canSend 4 = .ok (.ifCond .eq 22, 3) := by decide +kernel
theorem dX0_canSend_7 : decode cX0_canSend 7 = .ok (.aload_n 0, 1) := by decide +kernel
theorem dX0_canSend_8 : decode cX0_canSend 8 = .ok (.invokevirtual 32, 3) := by decide +kernel
theorem dX0_canSend_11 : decode cX0_canSend 11 = .ok (.ifCond .le 15, 3) := by decide +kernel
theorem dX0_canSend_14 : decode cX0_canSend 14 = .ok (.aload_n 0, 1) := by decide +kernel
theorem dX0_canSend_15 : decode cX0_canSend 15 = .ok (.invokevirtual 36, 3) := by decide +kernel
theorem dX0_canSend_18 : decode cX0_canSend 18 = .ok (.iconst 5, 1) := by decide +kernel
theorem dX0_canSend_19 : decode cX0_canSend 19 = .ok (.if_icmp .ge 7, 3) := by decide +kernel
theorem dX0_canSend_22 : decode cX0_canSend 22 = .ok (.iconst 1, 1) := by decide +kernel
theorem dX0_canSend_23 : decode cX0_canSend 23 = .ok (.goto 4, 3) := by decide +kernel
theorem dX0_canSend_26 : decode cX0_canSend 26 = .ok (.iconst 0, 1) := by decide +kernel
theorem dX0_canSend_27 : decode cX0_canSend 27 = .ok (.ireturn, 1) := by decide +kernel
set_option maxRecDepth 20000 in
theorem ggX0_sendFirst_X0_lineAt : GoodIn wsX0_sendFirst wsX0_lineAt := goodIn_r _ [6, 7, 8, 9, 10, 11, 12, 13] (by decide +kernel) (by decide +kernel)
set_option maxRecDepth 20000 in
theorem gX0_sendFirst_X0_lineAt : GoodIn wsX0_sendFirst (wsV RX0 39 RX0 yX0_lineAt wsX0_lineAt) := goodIn_app (goodIn_of _ (by decide +kernel)) ggX0_sendFirst_X0_lineAt
theorem dX0_sendFirst_0 : decode cX0_sendFirst 0 = .ok (.aload_n 0, 1) := by decide +kernel
theorem dX0_sendFirst_1 : decode cX0_sendFirst 1 = .ok (.aload_n 0, 1) := by decide +kernel
theorem dX0_sendFirst_2 : decode cX0_sendFirst 2 = .ok (.getfield 19, 3) := by decide +kernel
theorem dX0_sendFirst_5 : decode cX0_sendFirst 5 = .ok (.invokevirtual 39, 3) := by decide +kernel
theorem dX0_sendFirst_8 : decode cX0_sendFirst 8 = .ok (.istore_n 1, 1) := by decide +kernel
theorem dX0_sendFirst_9 : decode cX0_sendFirst 9 = .ok (.aload_n 0, 1) := by decide +kernel
theorem dX0_sendFirst_10 : decode cX0_sendFirst 10 = .ok (.dup, 1) := by decide +kernel
theorem dX0_sendFirst_11 : decode cX0_sendFirst 11 = .ok (.getfield 19, 3) := by decide +kernel
theorem dX0_sendFirst_14 : decode cX0_sendFirst 14 = .ok (.iconst 1, 1) := by decide +kernel
theorem dX0_sendFirst_15 : decode cX0_sendFirst 15 = .ok (.iadd, 1) := by decide +kernel
theorem dX0_sendFirst_16 : decode cX0_sendFirst 16 = .ok (.putfield 19, 3) := by decide +kernel
theorem dX0_sendFirst_19 : decode cX0_sendFirst 19 = .ok (.iload_n 1, 1) := by decide +kernel
theorem dX0_sendFirst_20 : decode cX0_sendFirst 20 = .ok (.ireturn, 1) := by decide +kernel
set_option maxRecDepth 20000 in
theorem ggX0_acknowledgeFirst_X0_lineAt : GoodIn wsX0_acknowledgeFirst wsX0_lineAt := goodIn_r _ [6, 7, 8, 9, 10, 11, 12, 13] (by decide +kernel) (by decide +kernel)
set_option maxRecDepth 20000 in
theorem gX0_acknowledgeFirst_X0_lineAt : GoodIn wsX0_acknowledgeFirst (wsV RX0 39 RX0 yX0_lineAt wsX0_lineAt) := goodIn_app (goodIn_of _ (by decide +kernel)) ggX0_acknowledgeFirst_X0_lineAt
theorem dX0_acknowledgeFirst_0 : decode cX0_acknowledgeFirst 0 = .ok (.aload_n 0, 1) := by decide +kernel
theorem dX0_acknowledgeFirst_1 : decode cX0_acknowledgeFirst 1 = .ok (.aload_n 0, 1) := by decide +kernel
theorem dX0_acknowledgeFirst_2 : decode cX0_acknowledgeFirst 2 = .ok (.getfield 22, 3) := by decide +kernel
theorem dX0_acknowledgeFirst_5 : decode cX0_acknowledgeFirst 5 = .ok (.invokevirtual 39, 3) := by decide +kernel
theorem dX0_acknowledgeFirst_8 : decode cX0_acknowledgeFirst 8 = .ok (.istore_n 1, 1) := by decide +kernel
theorem dX0_acknowledgeFirst_9 : decode cX0_acknowledgeFirst 9 = .ok (.aload_n 0, 1) := by decide +kernel
theorem dX0_acknowledgeFirst_10 : decode cX0_acknowledgeFirst 10 = .ok (.dup, 1) := by decide +kernel
theorem dX0_acknowledgeFirst_11 : decode cX0_acknowledgeFirst 11 = .ok (.getfield 22, 3) := by decide +kernel
theorem dX0_acknowledgeFirst_14 : decode cX0_acknowledgeFirst 14 = .ok (.iconst 1, 1) := by decide +kernel
theorem dX0_acknowledgeFirst_15 : decode cX0_acknowledgeFirst 15 = .ok (.iadd, 1) := by decide +kernel
theorem dX0_acknowledgeFirst_16 : decode cX0_acknowledgeFirst 16 = .ok (.putfield 22, 3) := by decide +kernel
theorem dX0_acknowledgeFirst_19 : decode cX0_acknowledgeFirst 19 = .ok (.iload_n 1, 1) := by decide +kernel
theorem dX0_acknowledgeFirst_20 : decode cX0_acknowledgeFirst 20 = .ok (.ireturn, 1) := by decide +kernel
theorem dX0_loseConnection_0 : decode cX0_loseConnection 0 = .ok (.aload_n 0, 1) := by decide +kernel
theorem dX0_loseConnection_1 : decode cX0_loseConnection 1 = .ok (.iconst 0, 1) := by decide +kernel
theorem dX0_loseConnection_2 : decode cX0_loseConnection 2 = .ok (.putfield 28, 3) := by decide +kernel
theorem dX0_loseConnection_5 : decode cX0_loseConnection 5 = .ok (.aload_n 0, 1) := by decide +kernel
theorem dX0_loseConnection_6 : decode cX0_loseConnection 6 = .ok (.aload_n 0, 1) := by decide +kernel
theorem dX0_loseConnection_7 : decode cX0_loseConnection 7 = .ok (.getfield 22, 3) := by decide +kernel
theorem dX0_loseConnection_10 : decode cX0_loseConnection 10 = .ok (.putfield 19, 3) := by decide +kernel
theorem dX0_loseConnection_13 : decode cX0_loseConnection 13 = .ok (.return_, 1) := by decide +kernel
theorem dX0_lineAt_0 : decode cX0_lineAt 0 = .ok (.iload_n 1, 1) := by decide +kernel
theorem dX0_lineAt_1 : decode cX0_lineAt 1 = .ok (.ifCond .lt 21, 3) := by decide +kernel
theorem dX0_lineAt_4 : decode cX0_lineAt 4 = .ok (.iload_n 1, 1) := by decide +kernel
theorem dX0_lineAt_5 : decode cX0_lineAt 5 = .ok (.aload_n 0, 1) := by decide +kernel
theorem dX0_lineAt_6 : decode cX0_lineAt 6 = .ok (.getfield 9, 3) := by decide +kernel
theorem dX0_lineAt_9 : decode cX0_lineAt 9 = .ok (.arraylength, 1) := by decide +kernel
theorem dX0_lineAt_10 : decode cX0_lineAt 10 = .ok (.if_icmp .ge 12, 3) := by decide +kernel
theorem dX0_lineAt_13 : decode cX0_lineAt 13 = .ok (.aload_n 0, 1) := by decide +kernel
theorem dX0_lineAt_14 : decode cX0_lineAt 14 = .ok (.getfield 9, 3) := by decide +kernel
theorem dX0_lineAt_17 : decode cX0_lineAt 17 = .ok (.iload_n 1, 1) := by decide +kernel
theorem dX0_lineAt_18 : decode cX0_lineAt 18 = .ok (.iaload, 1) := by decide +kernel
theorem dX0_lineAt_19 : decode cX0_lineAt 19 = .ok (.goto 4, 3) := by decide +kernel
theorem dX0_lineAt_22 : decode cX0_lineAt 22 = .ok (.iconst (-1), 1) := by decide +kernel
theorem dX0_lineAt_23 : decode cX0_lineAt 23 = .ok (.ireturn, 1) := by decide +kernel
theorem dX1_init_0 : decode cX1_init 0 = .ok (.aload_n 0, 1) := by decide +kernel
theorem dX1_init_1 : decode cX1_init 1 = .ok (.invokespecial 3, 3) := by decide +kernel
theorem dX1_init_4 : decode cX1_init 4 = .ok (.aload_n 0, 1) := by decide +kernel
theorem dX1_init_5 : decode cX1_init 5 = .ok (.sipush 400, 3) := by decide +kernel
theorem dX1_init_8 : decode cX1_init 8 = .ok (.newarray .int, 2) := by decide +kernel
theorem dX1_init_10 : decode cX1_init 10 = .ok (.putfield 9, 3) := by decide +kernel
theorem dX1_init_13 : decode cX1_init 13 = .ok (.aload_n 0, 1) := by decide +kernel
theorem dX1_init_14 : decode cX1_init 14 = .ok (.sipush 400, 3) := by decide +kernel
theorem dX1_init_17 : decode cX1_init 17 = .ok (.newarray .int, 2) := by decide +kernel
theorem dX1_init_19 : decode cX1_init 19 = .ok (.putfield 15, 3) := by decide +kernel
theorem dX1_init_22 : decode cX1_init 22 = .ok (.aload_n 0, 1) := by decide +kernel
theorem dX1_init_23 : decode cX1_init 23 = .ok (.iconst 0, 1) := by decide +kernel
theorem dX1_init_24 : decode cX1_init 24 = .ok (.putfield 18, 3) := by decide +kernel
theorem dX1_init_27 : decode cX1_init 27 = .ok (.return_, 1) := by decide +kernel
theorem dX1_isFull_0 : decode cX1_isFull 0 = .ok (.aload_n 0, 1) := by decide +kernel
theorem dX1_isFull_1 : decode cX1_isFull 1 = .ok (.getfield 18, 3) := by decide +kernel
theorem dX1_isFull_4 : decode cX1_isFull 4 = .ok (.sipush 400, 3) := by decide +kernel
theorem dX1_isFull_7 : decode cX1_isFull 7 = .ok (.if_icmp .lt 7, 3) := by decide +kernel
theorem dX1_isFull_10 : decode cX1_isFull 10 = .ok (.iconst 1, 1) := by decide +kernel
theorem dX1_isFull_11 : decode cX1_isFull 11 = .ok (.goto 4, 3) := by decide +kernel
theorem dX1_isFull_14 : decode cX1_isFull 14 = .ok (.iconst 0, 1) := by decide +kernel
theorem dX1_isFull_15 : decode cX1_isFull 15 = .ok (.ireturn, 1) := by decide +kernel
theorem dX1_has_0 : decode cX1_has 0 = .ok (.iload_n 1, 1) := by decide +kernel
theorem dX1_has_1 : decode cX1_has 1 = .ok (.ifCond .lt 15, 3) := by decide +kernel
theorem dX1_has_4 : decode cX1_has 4 = .ok (.iload_n 1, 1) := by decide +kernel
theorem dX1_has_5 : decode cX1_has 5 = .ok (.aload_n 0, 1) := by decide +kernel
theorem dX1_has_6 : decode cX1_has 6 = .ok (.getfield 18, 3) := by decide +kernel
theorem dX1_has_9 : decode cX1_has 9 = .ok (.if_icmp .ge 7, 3) := by decide +kernel
theorem dX1_has_12 : decode cX1_has 12 = .ok (.iconst 1, 1) := by decide +kernel
theorem dX1_has_13 : decode cX1_has 13 = .ok (.goto 4, 3) := by decide +kernel
theorem dX1_has_16 : decode cX1_has 16 = .ok (.iconst 0, 1) := by decide +kernel
theorem dX1_has_17 : decode cX1_has 17 = .ok (.ireturn, 1) := by decide +kernel
theorem dX1_enter_0 : decode cX1_enter 0 = .ok (.aload_n 0, 1) := by decide +kernel
theorem dX1_enter_1 : decode cX1_enter 1 = .ok (.getfield 18, 3) := by decide +kernel
theorem dX1_enter_4 : decode cX1_enter 4 = .ok (.ifCond .lt 43, 3) := by decide +kernel
theorem dX1_enter_7 : decode cX1_enter 7 = .ok (.aload_n 0, 1) := by decide +kernel
theorem dX1_enter_8 : decode cX1_enter 8 = .ok (.getfield 18, 3) := by decide +kernel
theorem dX1_enter_11 : decode cX1_enter 11 = .ok (.sipush 400, 3) := by decide +kernel
theorem dX1_enter_14 : decode cX1_enter 14 = .ok (.if_icmp .ge 33, 3) := by decide +kernel
theorem dX1_enter_17 : decode cX1_enter 17 = .ok (.aload_n 0, 1) := by decide +kernel
theorem dX1_enter_18 : decode cX1_enter 18 = .ok (.getfield 9, 3) := by decide +kernel
theorem dX1_enter_21 : decode cX1_enter 21 = .ok (.aload_n 0, 1) := by decide +kernel
theorem dX1_enter_22 : decode cX1_enter 22 = .ok (.getfield 18, 3) := by decide +kernel
theorem dX1_enter_25 : decode cX1_enter 25 = .ok (.iload_n 1, 1) := by decide +kernel
theorem dX1_enter_26 : decode cX1_enter 26 = .ok (.iastore, 1) := by decide +kernel
theorem dX1_enter_27 : decode cX1_enter 27 = .ok (.aload_n 0, 1) := by decide +kernel
theorem dX1_enter_28 : decode cX1_enter 28 = .ok (.getfield 15, 3) := by decide +kernel
theorem dX1_enter_31 : decode cX1_enter 31 = .ok (.aload_n 0, 1) := by decide +kernel
theorem dX1_enter_32 : decode cX1_enter 32 = .ok (.getfield 18, 3) := by decide +kernel
theorem dX1_enter_35 : decode cX1_enter 35 = .ok (.iload_n 2, 1) := by decide +kernel
theorem dX1_enter_36 : decode cX1_enter 36 = .ok (.iastore, 1) := by decide +kernel
theorem dX1_enter_37 : decode cX1_enter 37 = .ok (.aload_n 0, 1) := by decide +kernel
theorem dX1_enter_38 : decode cX1_enter 38 = .ok (.dup, 1) := by decide +kernel
theorem dX1_enter_39 : decode cX1_enter 39 = .ok (.getfield 18, 3) := by decide +kernel
theorem dX1_enter_42 : decode cX1_enter 42 = .ok (.iconst 1, 1) := by decide +kernel
theorem dX1_enter_43 : decode cX1_enter 43 = .ok (.iadd, 1) := by decide +kernel
theorem dX1_enter_44 : decode cX1_enter 44 = .ok (.putfield 18, 3) := by decide +kernel
theorem dX1_enter_47 : decode cX1_enter 47 = .ok (.iload_n 1, 1) := by decide +kernel
theorem dX1_enter_48 : decode cX1_enter 48 = .ok (.ireturn, 1) := by decide +kernel
theorem dX1_fateAt_0 : decode cX1_fateAt 0 = .ok (.iload_n 1, 1) := by decide +kernel
theorem dX1_fateAt_1 : decode cX1_fateAt 1 = .ok (.ifCond .lt 19, 3) := by decide +kernel
theorem dX1_fateAt_4 : decode cX1_fateAt 4 = .ok (.iload_n 1, 1) := by decide +kernel
theorem dX1_fateAt_5 : decode cX1_fateAt 5 = .ok (.sipush 400, 3) := by decide +kernel
theorem dX1_fateAt_8 : decode cX1_fateAt 8 = .ok (.if_icmp .ge 12, 3) := by decide +kernel
theorem dX1_fateAt_11 : decode cX1_fateAt 11 = .ok (.aload_n 0, 1) := by decide +kernel
theorem dX1_fateAt_12 : decode cX1_fateAt 12 = .ok (.getfield 9, 3) := by decide +kernel
theorem dX1_fateAt_15 : decode cX1_fateAt 15 = .ok (.iload_n 1, 1) := by decide +kernel
theorem dX1_fateAt_16 : decode cX1_fateAt 16 = .ok (.iaload, 1) := by decide +kernel
theorem dX1_fateAt_17 : decode cX1_fateAt 17 = .ok (.goto 4, 3) := by decide +kernel
theorem dX1_fateAt_20 : decode cX1_fateAt 20 = .ok (.iconst (-1), 1) := by decide +kernel
theorem dX1_fateAt_21 : decode cX1_fateAt 21 = .ok (.ireturn, 1) := by decide +kernel
theorem dX1_targetsAt_0 : decode cX1_targetsAt 0 = .ok (.iload_n 1, 1) := by decide +kernel
theorem dX1_targetsAt_1 : decode cX1_targetsAt 1 = .ok (.ifCond .lt 19, 3) := by decide +kernel
theorem dX1_targetsAt_4 : decode cX1_targetsAt 4 = .ok (.iload_n 1, 1) := by decide +kernel
theorem dX1_targetsAt_5 : decode cX1_targetsAt 5 = .ok (.sipush 400, 3) := by decide +kernel
theorem dX1_targetsAt_8 : decode cX1_targetsAt 8 = .ok (.if_icmp .ge 12, 3) := by decide +kernel
theorem dX1_targetsAt_11 : decode cX1_targetsAt 11 = .ok (.aload_n 0, 1) := by decide +kernel
theorem dX1_targetsAt_12 : decode cX1_targetsAt 12 = .ok (.getfield 15, 3) := by decide +kernel
theorem dX1_targetsAt_15 : decode cX1_targetsAt 15 = .ok (.iload_n 1, 1) := by decide +kernel
theorem dX1_targetsAt_16 : decode cX1_targetsAt 16 = .ok (.iaload, 1) := by decide +kernel
theorem dX1_targetsAt_17 : decode cX1_targetsAt 17 = .ok (.goto 4, 3) := by decide +kernel
theorem dX1_targetsAt_20 : decode cX1_targetsAt 20 = .ok (.iconst 0, 1) := by decide +kernel
theorem dX1_targetsAt_21 : decode cX1_targetsAt 21 = .ok (.ireturn, 1) := by decide +kernel
theorem dX1_entriesWith_0 : decode cX1_entriesWith 0 = .ok (.iconst 0, 1) := by decide +kernel
theorem dX1_entriesWith_1 : decode cX1_entriesWith 1 = .ok (.istore_n 2, 1) := by decide +kernel
theorem dX1_entriesWith_2 : decode cX1_entriesWith 2 = .ok (.iconst 0, 1) := by decide +kernel
theorem dX1_entriesWith_3 : decode cX1_entriesWith 3 = .ok (.istore_n 3, 1) := by decide +kernel
theorem dX1_entriesWith_4 : decode cX1_entriesWith 4 = .ok (.iload_n 3, 1) := by decide +kernel
theorem dX1_entriesWith_5 : decode cX1_entriesWith 5 = .ok (.aload_n 0, 1) := by decide +kernel
theorem dX1_entriesWith_6 : decode cX1_entriesWith 6 = .ok (.getfield 18, 3) := by decide +kernel
theorem dX1_entriesWith_9 : decode cX1_entriesWith 9 = .ok (.if_icmp .ge 29, 3) := by decide +kernel
theorem dX1_entriesWith_12 : decode cX1_entriesWith 12 = .ok (.iload_n 3, 1) := by decide +kernel
theorem dX1_entriesWith_13 : decode cX1_entriesWith 13 = .ok (.sipush 400, 3) := by decide +kernel
theorem dX1_entriesWith_16 : decode cX1_entriesWith 16 = .ok (.if_icmp .ge 22, 3) := by decide +kernel
theorem dX1_entriesWith_19 : decode cX1_entriesWith 19 = .ok (.aload_n 0, 1) := by decide +kernel
theorem dX1_entriesWith_20 : decode cX1_entriesWith 20 = .ok (.getfield 9, 3) := by decide +kernel
theorem dX1_entriesWith_23 : decode cX1_entriesWith 23 = .ok (.iload_n 3, 1) := by decide +kernel
theorem dX1_entriesWith_24 : decode cX1_entriesWith 24 = .ok (.iaload, 1) := by decide +kernel
theorem dX1_entriesWith_25 : decode cX1_entriesWith 25 = .ok (.iload_n 1, 1) := by decide +kernel
theorem dX1_entriesWith_26 : decode cX1_entriesWith 26 = .ok (.if_icmp .ne 6, 3) := by decide +kernel
theorem dX1_entriesWith_29 : decode cX1_entriesWith 29 = .ok (.iinc 2 1, 3) := by decide +kernel
theorem dX1_entriesWith_32 : decode cX1_entriesWith 32 = .ok (.iinc 3 1, 3) := by decide +kernel
theorem dX1_entriesWith_35 : decode cX1_entriesWith 35 = .ok (.goto (-31), 3) := by decide +kernel
theorem dX1_entriesWith_38 : decode cX1_entriesWith 38 = .ok (.iload_n 2, 1) := by decide +kernel
theorem dX1_entriesWith_39 : decode cX1_entriesWith 39 = .ok (.ireturn, 1) := by decide +kernel
theorem dX2_init_0 : decode cX2_init 0 = .ok (.aload_n 0, 1) := by decide +kernel
theorem dX2_init_1 : decode cX2_init 1 = .ok (.invokespecial 3, 3) := by decide +kernel
theorem dX2_init_4 : decode cX2_init 4 = .ok (.aload_n 0, 1) := by decide +kernel
theorem dX2_init_5 : decode cX2_init 5 = .ok (.sipush 400, 3) := by decide +kernel
theorem dX2_init_8 : decode cX2_init 8 = .ok (.newarray .int, 2) := by decide +kernel
theorem dX2_init_10 : decode cX2_init 10 = .ok (.putfield 9, 3) := by decide +kernel
theorem dX2_init_13 : decode cX2_init 13 = .ok (.aload_n 0, 1) := by decide +kernel
theorem dX2_init_14 : decode cX2_init 14 = .ok (.bipush 6, 2) := by decide +kernel
theorem dX2_init_16 : decode cX2_init 16 = .ok (.newarray .int, 2) := by decide +kernel
theorem dX2_init_18 : decode cX2_init 18 = .ok (.putfield 15, 3) := by decide +kernel
theorem dX2_init_21 : decode cX2_init 21 = .ok (.aload_n 0, 1) := by decide +kernel
theorem dX2_init_22 : decode cX2_init 22 = .ok (.iconst 0, 1) := by decide +kernel
theorem dX2_init_23 : decode cX2_init 23 = .ok (.putfield 18, 3) := by decide +kernel
theorem dX2_init_26 : decode cX2_init 26 = .ok (.aload_n 0, 1) := by decide +kernel
theorem dX2_init_27 : decode cX2_init 27 = .ok (.sipush 1000, 3) := by decide +kernel
theorem dX2_init_30 : decode cX2_init 30 = .ok (.putfield 22, 3) := by decide +kernel
theorem dX2_init_33 : decode cX2_init 33 = .ok (.aload_n 0, 1) := by decide +kernel
theorem dX2_init_34 : decode cX2_init 34 = .ok (.iconst 0, 1) := by decide +kernel
theorem dX2_init_35 : decode cX2_init 35 = .ok (.putfield 25, 3) := by decide +kernel
theorem dX2_init_38 : decode cX2_init 38 = .ok (.aload_n 0, 1) := by decide +kernel
theorem dX2_init_39 : decode cX2_init 39 = .ok (.iconst 2, 1) := by decide +kernel
theorem dX2_init_40 : decode cX2_init 40 = .ok (.putfield 28, 3) := by decide +kernel
theorem dX2_init_43 : decode cX2_init 43 = .ok (.aload_n 0, 1) := by decide +kernel
theorem dX2_init_44 : decode cX2_init 44 = .ok (.iconst 0, 1) := by decide +kernel
theorem dX2_init_45 : decode cX2_init 45 = .ok (.putfield 31, 3) := by decide +kernel
theorem dX2_init_48 : decode cX2_init 48 = .ok (.aload_n 0, 1) := by decide +kernel
theorem dX2_init_49 : decode cX2_init 49 = .ok (.iconst 0, 1) := by decide +kernel
theorem dX2_init_50 : decode cX2_init 50 = .ok (.putfield 34, 3) := by decide +kernel
theorem dX2_init_53 : decode cX2_init 53 = .ok (.aload_n 0, 1) := by decide +kernel
theorem dX2_init_54 : decode cX2_init 54 = .ok (.iconst 0, 1) := by decide +kernel
theorem dX2_init_55 : decode cX2_init 55 = .ok (.putfield 37, 3) := by decide +kernel
theorem dX2_init_58 : decode cX2_init 58 = .ok (.aload_n 0, 1) := by decide +kernel
theorem dX2_init_59 : decode cX2_init 59 = .ok (.iconst 0, 1) := by decide +kernel
theorem dX2_init_60 : decode cX2_init 60 = .ok (.putfield 40, 3) := by decide +kernel
theorem dX2_init_63 : decode cX2_init 63 = .ok (.return_, 1) := by decide +kernel
theorem dX2_limit_0 : decode cX2_limit 0 = .ok (.aload_n 0, 1) := by decide +kernel
theorem dX2_limit_1 : decode cX2_limit 1 = .ok (.iload_n 1, 1) := by decide +kernel
theorem dX2_limit_2 : decode cX2_limit 2 = .ok (.putfield 22, 3) := by decide +kernel
theorem dX2_limit_5 : decode cX2_limit 5 = .ok (.aload_n 0, 1) := by decide +kernel
theorem dX2_limit_6 : decode cX2_limit 6 = .ok (.iload_n 2, 1) := by decide +kernel
theorem dX2_limit_7 : decode cX2_limit 7 = .ok (.putfield 25, 3) := by decide +kernel
theorem dX2_limit_10 : decode cX2_limit 10 = .ok (.aload_n 0, 1) := by decide +kernel
theorem dX2_limit_11 : decode cX2_limit 11 = .ok (.iload_n 3, 1) := by decide +kernel
theorem dX2_limit_12 : decode cX2_limit 12 = .ok (.putfield 28, 3) := by decide +kernel
theorem dX2_limit_15 : decode cX2_limit 15 = .ok (.aload_n 0, 1) := by decide +kernel
theorem dX2_limit_16 : decode cX2_limit 16 = .ok (.getfield 37, 3) := by decide +kernel
theorem dX2_limit_19 : decode cX2_limit 19 = .ok (.iload_n 3, 1) := by decide +kernel
theorem dX2_limit_20 : decode cX2_limit 20 = .ok (.if_icmp .le 8, 3) := by decide +kernel
theorem dX2_limit_23 : decode cX2_limit 23 = .ok (.aload_n 0, 1) := by decide +kernel
theorem dX2_limit_24 : decode cX2_limit 24 = .ok (.iload_n 3, 1) := by decide +kernel
theorem dX2_limit_25 : decode cX2_limit 25 = .ok (.putfield 37, 3) := by decide +kernel
theorem dX2_limit_28 : decode cX2_limit 28 = .ok (.return_, 1) := by decide +kernel
theorem dX2_isEmpty_0 : decode cX2_isEmpty 0 = .ok (.aload_n 0, 1) := by decide +kernel
theorem dX2_isEmpty_1 : decode cX2_isEmpty 1 = .ok (.getfield 18, 3) := by decide +kernel
theorem dX2_isEmpty_4 : decode cX2_isEmpty 4 = .ok (.aload_n 0, 1) := by decide +kernel
theorem dX2_isEmpty_5 : decode cX2_isEmpty 5 = .ok (.getfield 15, 3) := by decide +kernel
theorem dX2_isEmpty_8 : decode cX2_isEmpty 8 = .ok (.iconst 0, 1) := by decide +kernel
theorem dX2_isEmpty_9 : decode cX2_isEmpty 9 = .ok (.iaload, 1) := by decide +kernel
theorem dX2_isEmpty_10 : decode cX2_isEmpty 10 = .ok (.if_icmp .ne 7, 3) := by decide +kernel
theorem dX2_isEmpty_13 : decode cX2_isEmpty 13 = .ok (.iconst 1, 1) := by decide +kernel
theorem dX2_isEmpty_14 : decode cX2_isEmpty 14 = .ok (.goto 4, 3) := by decide +kernel
theorem dX2_isEmpty_17 : decode cX2_isEmpty 17 = .ok (.iconst 0, 1) := by decide +kernel
theorem dX2_isEmpty_18 : decode cX2_isEmpty 18 = .ok (.ireturn, 1) := by decide +kernel
set_option maxRecDepth 20000 in
theorem ggX2_isAged_X2_isEmpty : GoodIn wsX2_isAged wsX2_isEmpty := goodIn_r _ [7, 8, 9, 10, 11, 12, 13, 14, 15, 16, 17, 18, 19] (by decide +kernel) (by decide +kernel)
set_option maxRecDepth 20000 in
theorem gX2_isAged_X2_isEmpty : GoodIn wsX2_isAged (wsV RX2 43 RX2 yX2_isEmpty wsX2_isEmpty) := goodIn_app (goodIn_of _ (by decide +kernel)) ggX2_isAged_X2_isEmpty
theorem dX2_isAged_0 : decode cX2_isAged 0 = .ok (.aload_n 0, 1) := by decide +kernel
theorem dX2_isAged_1 : decode cX2_isAged 1 = .ok (.getfield 25, 3) := by decide +kernel
theorem dX2_isAged_4 : decode cX2_isAged 4 = .ok (.ifCond .eq 27, 3) := by decide +kernel
theorem dX2_isAged_7 : decode cX2_isAged 7 = .ok (.aload_n 0, 1) := by decide +kernel
theorem dX2_isAged_8 : decode cX2_isAged 8 = .ok (.invokevirtual 43, 3) := by decide +kernel
theorem dX2_isAged_11 : decode cX2_isAged 11 = .ok (.ifCond .ne 20, 3) := by decide +kernel
theorem dX2_isAged_14 : decode cX2_isAged 14 = .ok (.iload_n 1, 1) := by decide +kernel
theorem dX2_isAged_15 : decode cX2_isAged 15 = .ok (.aload_n 0, 1) := by decide +kernel
theorem dX2_isAged_16 : decode cX2_isAged 16 = .ok (.getfield 31, 3) := by decide +kernel
theorem dX2_isAged_19 : decode cX2_isAged 19 = .ok (.isub, 1) := by decide +kernel
theorem dX2_isAged_20 : decode cX2_isAged 20 = .ok (.aload_n 0, 1) := by decide +kernel
theorem dX2_isAged_21 : decode cX2_isAged 21 = .ok (.getfield 25, 3) := by decide +kernel
theorem dX2_isAged_24 : decode cX2_isAged 24 = .ok (.if_icmp .lt 7, 3) := by decide +kernel
theorem dX2_isAged_27 : decode cX2_isAged 27 = .ok (.iconst 1, 1) := by decide +kernel
theorem dX2_isAged_28 : decode cX2_isAged 28 = .ok (.goto 4, 3) := by decide +kernel
theorem dX2_isAged_31 : decode cX2_isAged 31 = .ok (.iconst 0, 1) := by decide +kernel
theorem dX2_isAged_32 : decode cX2_isAged 32 = .ok (.ireturn, 1) := by decide +kernel
set_option maxRecDepth 20000 in
theorem ggX2_add_X2_isEmpty : GoodIn wsX2_add wsX2_isEmpty := goodIn_r _ [10, 4, 11, 19, 20, 21, 22, 23, 24, 25, 26, 27, 28] (by decide +kernel) (by decide +kernel)
set_option maxRecDepth 20000 in
theorem gX2_add_X2_isEmpty : GoodIn wsX2_add (wsV RX2 43 RX2 yX2_isEmpty wsX2_isEmpty) := goodIn_app (goodIn_of _ (by decide +kernel)) ggX2_add_X2_isEmpty
set_option maxRecDepth 20000 in
theorem ggX2_add_X2_turnOver : GoodIn wsX2_add wsX2_turnOver := goodIn_r _ [15, 11, 4, 1, 16, 17, 18, 19, 20, 21, 22, 23, 24, 25, 26, 27, 28] (by decide +kernel) (by decide +kernel)
set_option maxRecDepth 20000 in
theorem gX2_add_X2_turnOver : GoodIn wsX2_add (wsV RX2 47 RX2 yX2_turnOver wsX2_turnOver) := goodIn_app (goodIn_of _ (by decide +kernel)) ggX2_add_X2_turnOver
theorem dX2_add_0 : decode cX2_add 0 = .ok (.aload_n 0, 1) := by decide +kernel
theorem dX2_add_1 : decode cX2_add 1 = .ok (.invokevirtual 43, 3) := by decide +kernel
theorem dX2_add_4 : decode cX2_add 4 = .ok (.ifCond .ne 20, 3) := by decide +kernel
theorem dX2_add_7 : decode cX2_add 7 = .ok (.aload_n 0, 1) := by decide +kernel
theorem dX2_add_8 : decode cX2_add 8 = .ok (.getfield 34, 3) := by decide +kernel
theorem dX2_add_11 : decode cX2_add 11 = .ok (.iload_n 2, 1) := by decide +kernel
theorem dX2_add_12 : decode cX2_add 12 = .ok (.iadd, 1) := by decide +kernel
theorem dX2_add_13 : decode cX2_add 13 = .ok (.aload_n 0, 1) := by decide +kernel
theorem dX2_add_14 : decode cX2_add 14 = .ok (.getfield 22, 3) := by decide +kernel
theorem dX2_add_17 : decode cX2_add 17 = .ok (.if_icmp .le 7, 3) := by decide +kernel
theorem dX2_add_20 : decode cX2_add 20 = .ok (.aload_n 0, 1) := by decide +kernel
theorem dX2_add_21 : decode cX2_add 21 = .ok (.invokevirtual 47, 3) := by decide +kernel
theorem dX2_add_24 : decode cX2_add 24 = .ok (.aload_n 0, 1) := by decide +kernel
theorem dX2_add_25 : decode cX2_add 25 = .ok (.invokevirtual 43, 3) := by decide +kernel
theorem dX2_add_28 : decode cX2_add 28 = .ok (.ifCond .eq 8, 3) := by decide +kernel
theorem dX2_add_31 : decode cX2_add 31 = .ok (.aload_n 0, 1) := by decide +kernel
theorem dX2_add_32 : decode cX2_add 32 = .ok (.iload_n 3, 1) := by decide +kernel
theorem dX2_add_33 : decode cX2_add 33 = .ok (.putfield 31, 3) := by decide +kernel
theorem dX2_add_36 : decode cX2_add 36 = .ok (.aload_n 0, 1) := by decide +kernel
theorem dX2_add_37 : decode cX2_add 37 = .ok (.getfield 18, 3) := by decide +kernel
theorem dX2_add_40 : decode cX2_add 40 = .ok (.ifCond .lt 45, 3) := by decide +kernel
theorem dX2_add_43 : decode cX2_add 43 = .ok (.aload_n 0, 1) := by decide +kernel
theorem dX2_add_44 : decode cX2_add 44 = .ok (.getfield 18, 3) := by decide +kernel
theorem dX2_add_47 : decode cX2_add 47 = .ok (.aload_n 0, 1) := by decide +kernel
theorem dX2_add_48 : decode cX2_add 48 = .ok (.getfield 9, 3) := by decide +kernel
theorem dX2_add_51 : decode cX2_add 51 = .ok (.arraylength, 1) := by decide +kernel
theorem dX2_add_52 : decode cX2_add 52 = .ok (.if_icmp .ge 33, 3) := by decide +kernel
theorem dX2_add_55 : decode cX2_add 55 = .ok (.aload_n 0, 1) := by decide +kernel
theorem dX2_add_56 : decode cX2_add 56 = .ok (.getfield 9, 3) := by decide +kernel
theorem dX2_add_59 : decode cX2_add 59 = .ok (.aload_n 0, 1) := by decide +kernel
theorem dX2_add_60 : decode cX2_add 60 = .ok (.getfield 18, 3) := by decide +kernel
theorem dX2_add_63 : decode cX2_add 63 = .ok (.iload_n 1, 1) := by decide +kernel
theorem dX2_add_64 : decode cX2_add 64 = .ok (.iastore, 1) := by decide +kernel
theorem dX2_add_65 : decode cX2_add 65 = .ok (.aload_n 0, 1) := by decide +kernel
theorem dX2_add_66 : decode cX2_add 66 = .ok (.dup, 1) := by decide +kernel
theorem dX2_add_67 : decode cX2_add 67 = .ok (.getfield 18, 3) := by decide +kernel
theorem dX2_add_70 : decode cX2_add 70 = .ok (.iconst 1, 1) := by decide +kernel
theorem dX2_add_71 : decode cX2_add 71 = .ok (.iadd, 1) := by decide +kernel
theorem dX2_add_72 : decode cX2_add 72 = .ok (.putfield 18, 3) := by decide +kernel
theorem dX2_add_75 : decode cX2_add 75 = .ok (.aload_n 0, 1) := by decide +kernel
theorem dX2_add_76 : decode cX2_add 76 = .ok (.dup, 1) := by decide +kernel
theorem dX2_add_77 : decode cX2_add 77 = .ok (.getfield 34, 3) := by decide +kernel
theorem dX2_add_80 : decode cX2_add 80 = .ok (.iload_n 2, 1) := by decide +kernel
theorem dX2_add_81 : decode cX2_add 81 = .ok (.iadd, 1) := by decide +kernel
theorem dX2_add_82 : decode cX2_add 82 = .ok (.putfield 34, 3) := by decide +kernel
theorem dX2_add_85 : decode cX2_add 85 = .ok (.return_, 1) := by decide +kernel
theorem dX2_turnOver_0 : decode cX2_turnOver 0 = .ok (.iconst 5, 1) := by decide +kernel
theorem dX2_turnOver_1 : decode cX2_turnOver 1 = .ok (.istore_n 1, 1) := by decide +kernel
theorem dX2_turnOver_2 : decode cX2_turnOver 2 = .ok (.iload_n 1, 1) := by decide +kernel
theorem dX2_turnOver_3 : decode cX2_turnOver 3 = .ok (.ifCond .le 23, 3) := by decide +kernel
theorem dX2_turnOver_6 : decode cX2_turnOver 6 = .ok (.aload_n 0, 1) := by decide +kernel
theorem dX2_turnOver_7 : decode cX2_turnOver 7 = .ok (.getfield 15, 3) := by decide +kernel
theorem dX2_turnOver_10 : decode cX2_turnOver 10 = .ok (.iload_n 1, 1) := by decide +kernel
theorem dX2_turnOver_11 : decode cX2_turnOver 11 = .ok (.aload_n 0, 1) := by decide +kernel
theorem dX2_turnOver_12 : decode cX2_turnOver 12 = .ok (.getfield 15, 3) := by decide +kernel
theorem dX2_turnOver_15 : decode cX2_turnOver 15 = .ok (.iload_n 1, 1) := by decide +kernel
theorem dX2_turnOver_16 : decode cX2_turnOver 16 = .ok (.iconst 1, 1) := by decide +kernel
theorem dX2_turnOver_17 : decode cX2_turnOver 17 = .ok (.isub, 1) := by decide +kernel
theorem dX2_turnOver_18 : decode cX2_turnOver 18 = .ok (.iaload, 1) := by decide +kernel
theorem dX2_turnOver_19 : decode cX2_turnOver 19 = .ok (.iastore, 1) := by decide +kernel
theorem dX2_turnOver_20 : decode cX2_turnOver 20 = .ok (.iinc 1 (-1), 3) := by decide +kernel
theorem dX2_turnOver_23 : decode cX2_turnOver 23 = .ok (.goto (-21), 3) := by decide +kernel
theorem dX2_turnOver_26 : decode cX2_turnOver 26 = .ok (.aload_n 0, 1) := by decide +kernel
theorem dX2_turnOver_27 : decode cX2_turnOver 27 = .ok (.getfield 15, 3) := by decide +kernel
theorem dX2_turnOver_30 : decode cX2_turnOver 30 = .ok (.iconst 0, 1) := by decide +kernel
theorem dX2_turnOver_31 : decode cX2_turnOver 31 = .ok (.aload_n 0, 1) := by decide +kernel
theorem dX2_turnOver_32 : decode cX2_turnOver 32 = .ok (.getfield 18, 3) := by decide +kernel
theorem dX2_turnOver_35 : decode cX2_turnOver 35 = .ok (.iastore, 1) := by decide +kernel
theorem dX2_turnOver_36 : decode cX2_turnOver 36 = .ok (.aload_n 0, 1) := by decide +kernel
theorem dX2_turnOver_37 : decode cX2_turnOver 37 = .ok (.iconst 0, 1) := by decide +kernel
theorem dX2_turnOver_38 : decode cX2_turnOver 38 = .ok (.putfield 34, 3) := by decide +kernel
theorem dX2_turnOver_41 : decode cX2_turnOver 41 = .ok (.aload_n 0, 1) := by decide +kernel
theorem dX2_turnOver_42 : decode cX2_turnOver 42 = .ok (.dup, 1) := by decide +kernel
theorem dX2_turnOver_43 : decode cX2_turnOver 43 = .ok (.getfield 40, 3) := by decide +kernel
theorem dX2_turnOver_46 : decode cX2_turnOver 46 = .ok (.iconst 1, 1) := by decide +kernel
theorem dX2_turnOver_47 : decode cX2_turnOver 47 = .ok (.iadd, 1) := by decide +kernel
theorem dX2_turnOver_48 : decode cX2_turnOver 48 = .ok (.putfield 40, 3) := by decide +kernel
theorem dX2_turnOver_51 : decode cX2_turnOver 51 = .ok (.aload_n 0, 1) := by decide +kernel
theorem dX2_turnOver_52 : decode cX2_turnOver 52 = .ok (.getfield 37, 3) := by decide +kernel
theorem dX2_turnOver_55 : decode cX2_turnOver 55 = .ok (.aload_n 0, 1) := by decide +kernel
theorem dX2_turnOver_56 : decode cX2_turnOver 56 = .ok (.getfield 28, 3) := by decide +kernel
theorem dX2_turnOver_59 : decode cX2_turnOver 59 = .ok (.if_icmp .ge 13, 3) := by decide +kernel
theorem dX2_turnOver_62 : decode cX2_turnOver 62 = .ok (.aload_n 0, 1) := by decide +kernel
theorem dX2_turnOver_63 : decode cX2_turnOver 63 = .ok (.dup, 1) := by decide +kernel
theorem dX2_turnOver_64 : decode cX2_turnOver 64 = .ok (.getfield 37, 3) := by decide +kernel
theorem dX2_turnOver_67 : decode cX2_turnOver 67 = .ok (.iconst 1, 1) := by decide +kernel
theorem dX2_turnOver_68 : decode cX2_turnOver 68 = .ok (.iadd, 1) := by decide +kernel
theorem dX2_turnOver_69 : decode cX2_turnOver 69 = .ok (.putfield 37, 3) := by decide +kernel
theorem dX2_turnOver_72 : decode cX2_turnOver 72 = .ok (.return_, 1) := by decide +kernel
theorem dX2_has_0 : decode cX2_has 0 = .ok (.iload_n 1, 1) := by decide +kernel
theorem dX2_has_1 : decode cX2_has 1 = .ok (.iconst (-1), 1) := by decide +kernel
theorem dX2_has_2 : decode cX2_has 2 = .ok (.if_icmp .lt 15, 3) := by decide +kernel
theorem dX2_has_5 : decode cX2_has 5 = .ok (.iload_n 1, 1) := by decide +kernel
theorem dX2_has_6 : decode cX2_has 6 = .ok (.aload_n 0, 1) := by decide +kernel
theorem dX2_has_7 : decode cX2_has 7 = .ok (.getfield 37, 3) := by decide +kernel
theorem dX2_has_10 : decode cX2_has 10 = .ok (.if_icmp .ge 7, 3) := by decide +kernel
theorem dX2_has_13 : decode cX2_has 13 = .ok (.iconst 1, 1) := by decide +kernel
theorem dX2_has_14 : decode cX2_has 14 = .ok (.goto 4, 3) := by decide +kernel
theorem dX2_has_17 : decode cX2_has 17 = .ok (.iconst 0, 1) := by decide +kernel
theorem dX2_has_18 : decode cX2_has 18 = .ok (.ireturn, 1) := by decide +kernel
set_option maxRecDepth 20000 in
theorem ggX2_linesOf_X2_startOf : GoodIn wsX2_linesOf wsX2_startOf := goodIn_r _ [6, 7, 1, 8, 9, 10, 11, 12, 13, 14, 15, 16, 17] (by decide +kernel) (by decide +kernel)
set_option maxRecDepth 20000 in
theorem gX2_linesOf_X2_startOf : GoodIn wsX2_linesOf (wsV RX2 50 RX2 yX2_startOf wsX2_startOf) := goodIn_app (goodIn_of _ (by decide +kernel)) ggX2_linesOf_X2_startOf
theorem dX2_linesOf_0 : decode cX2_linesOf 0 = .ok (.iload_n 1, 1) := by decide +kernel
theorem dX2_linesOf_1 : decode cX2_linesOf 1 = .ok (.iconst (-1), 1) := by decide +kernel
theorem dX2_linesOf_2 : decode cX2_linesOf 2 = .ok (.if_icmp .ne 10, 3) := by decide +kernel
theorem dX2_linesOf_5 : decode cX2_linesOf 5 = .ok (.aload_n 0, 1) := by decide +kernel
theorem dX2_linesOf_6 : decode cX2_linesOf 6 = .ok (.getfield 18, 3) := by decide +kernel
theorem dX2_linesOf_9 : decode cX2_linesOf 9 = .ok (.goto 10, 3) := by decide +kernel
theorem dX2_linesOf_12 : decode cX2_linesOf 12 = .ok (.aload_n 0, 1) := by decide +kernel
theorem dX2_linesOf_13 : decode cX2_linesOf 13 = .ok (.iload_n 1, 1) := by decide +kernel
theorem dX2_linesOf_14 : decode cX2_linesOf 14 = .ok (.iconst 1, 1) := by decide +kernel
theorem dX2_linesOf_15 : decode cX2_linesOf 15 = .ok (.isub, 1) := by decide +kernel
theorem dX2_linesOf_16 : decode cX2_linesOf 16 = .ok (.invokevirtual 50, 3) := by decide +kernel
theorem dX2_linesOf_19 : decode cX2_linesOf 19 = .ok (.istore_n 2, 1) := by decide +kernel
theorem dX2_linesOf_20 : decode cX2_linesOf 20 = .ok (.iload_n 2, 1) := by decide +kernel
theorem dX2_linesOf_21 : decode cX2_linesOf 21 = .ok (.aload_n 0, 1) := by decide +kernel
theorem dX2_linesOf_22 : decode cX2_linesOf 22 = .ok (.iload_n 1, 1) := by decide +kernel
theorem dX2_linesOf_23 : decode cX2_linesOf 23 = .ok (.invokevirtual 50, 3) := by decide +kernel
theorem dX2_linesOf_26 : decode cX2_linesOf 26 = .ok (.isub, 1) := by decide +kernel
theorem dX2_linesOf_27 : decode cX2_linesOf 27 = .ok (.ireturn, 1) := by decide +kernel
set_option maxRecDepth 20000 in
theorem ggX2_lineAt_X2_startOf : GoodIn wsX2_lineAt wsX2_startOf := goodIn_r _ [6, 7, 8, 9, 10, 11, 12, 13, 14, 15, 16, 17, 18] (by decide +kernel) (by decide +kernel)
set_option maxRecDepth 20000 in
theorem gX2_lineAt_X2_startOf : GoodIn wsX2_lineAt (wsV RX2 50 RX2 yX2_startOf wsX2_startOf) := goodIn_app (goodIn_of _ (by decide +kernel)) ggX2_lineAt_X2_startOf
theorem dX2_lineAt_0 : decode cX2_lineAt 0 = .ok (.aload_n 0, 1) := by decide +kernel
theorem dX2_lineAt_1 : decode cX2_lineAt 1 = .ok (.iload_n 1, 1) := by decide +kernel
theorem dX2_lineAt_2 : decode cX2_lineAt 2 = .ok (.invokevirtual 50, 3) := by decide +kernel
theorem dX2_lineAt_5 : decode cX2_lineAt 5 = .ok (.iload_n 2, 1) := by decide +kernel
theorem dX2_lineAt_6 : decode cX2_lineAt 6 = .ok (.iadd, 1) := by decide +kernel
theorem dX2_lineAt_7 : decode cX2_lineAt 7 = .ok (.istore_n 3, 1) := by decide +kernel
theorem dX2_lineAt_8 : decode cX2_lineAt 8 = .ok (.iload_n 3, 1) := by decide +kernel
theorem dX2_lineAt_9 : decode cX2_lineAt 9 = .ok (.ifCond .lt 21, 3) := by decide +kernel
theorem dX2_lineAt_12 : decode cX2_lineAt 12 = .ok (.iload_n 3, 1) := by decide +kernel
theorem dX2_lineAt_13 : decode cX2_lineAt 13 = .ok (.aload_n 0, 1) := by decide +kernel
theorem dX2_lineAt_14 : decode cX2_lineAt 14 = .ok (.getfield 9, 3) := by decide +kernel
theorem dX2_lineAt_17 : decode cX2_lineAt 17 = .ok (.arraylength, 1) := by decide +kernel
theorem dX2_lineAt_18 : decode cX2_lineAt 18 = .ok (.if_icmp .ge 12, 3) := by decide +kernel
theorem dX2_lineAt_21 : decode cX2_lineAt 21 = .ok (.aload_n 0, 1) := by decide +kernel
theorem dX2_lineAt_22 : decode cX2_lineAt 22 = .ok (.getfield 9, 3) := by decide +kernel
theorem dX2_lineAt_25 : decode cX2_lineAt 25 = .ok (.iload_n 3, 1) := by decide +kernel
theorem dX2_lineAt_26 : decode cX2_lineAt 26 = .ok (.iaload, 1) := by decide +kernel
theorem dX2_lineAt_27 : decode cX2_lineAt 27 = .ok (.goto 4, 3) := by decide +kernel
theorem dX2_lineAt_30 : decode cX2_lineAt 30 = .ok (.iconst (-1), 1) := by decide +kernel
theorem dX2_lineAt_31 : decode cX2_lineAt 31 = .ok (.ireturn, 1) := by decide +kernel
theorem dX2_startOf_0 : decode cX2_startOf 0 = .ok (.iload_n 1, 1) := by decide +kernel
theorem dX2_startOf_1 : decode cX2_startOf 1 = .ok (.iconst 1, 1) := by decide +kernel
theorem dX2_startOf_2 : decode cX2_startOf 2 = .ok (.iadd, 1) := by decide +kernel
theorem dX2_startOf_3 : decode cX2_startOf 3 = .ok (.istore_n 2, 1) := by decide +kernel
theorem dX2_startOf_4 : decode cX2_startOf 4 = .ok (.iload_n 2, 1) := by decide +kernel
theorem dX2_startOf_5 : decode cX2_startOf 5 = .ok (.ifCond .lt 21, 3) := by decide +kernel
theorem dX2_startOf_8 : decode cX2_startOf 8 = .ok (.iload_n 2, 1) := by decide +kernel
theorem dX2_startOf_9 : decode cX2_startOf 9 = .ok (.aload_n 0, 1) := by decide +kernel
theorem dX2_startOf_10 : decode cX2_startOf 10 = .ok (.getfield 15, 3) := by decide +kernel
theorem dX2_startOf_13 : decode cX2_startOf 13 = .ok (.arraylength, 1) := by decide +kernel
theorem dX2_startOf_14 : decode cX2_startOf 14 = .ok (.if_icmp .ge 12, 3) := by decide +kernel
theorem dX2_startOf_17 : decode cX2_startOf 17 = .ok (.aload_n 0, 1) := by decide +kernel
theorem dX2_startOf_18 : decode cX2_startOf 18 = .ok (.getfield 15, 3) := by decide +kernel
theorem dX2_startOf_21 : decode cX2_startOf 21 = .ok (.iload_n 2, 1) := by decide +kernel
theorem dX2_startOf_22 : decode cX2_startOf 22 = .ok (.iaload, 1) := by decide +kernel
theorem dX2_startOf_23 : decode cX2_startOf 23 = .ok (.goto 7, 3) := by decide +kernel
theorem dX2_startOf_26 : decode cX2_startOf 26 = .ok (.aload_n 0, 1) := by decide +kernel
theorem dX2_startOf_27 : decode cX2_startOf 27 = .ok (.getfield 18, 3) := by decide +kernel
theorem dX2_startOf_30 : decode cX2_startOf 30 = .ok (.ireturn, 1) := by decide +kernel
theorem dX3_init_0 : decode cX3_init 0 = .ok (.aload_n 0, 1) := by decide +kernel
theorem dX3_init_1 : decode cX3_init 1 = .ok (.invokespecial 3, 3) := by decide +kernel
theorem dX3_init_4 : decode cX3_init 4 = .ok (.aload_n 0, 1) := by decide +kernel
theorem dX3_init_5 : decode cX3_init 5 = .ok (.iconst 0, 1) := by decide +kernel
theorem dX3_init_6 : decode cX3_init 6 = .ok (.putfield 9, 3) := by decide +kernel
theorem dX3_init_9 : decode cX3_init 9 = .ok (.aload_n 0, 1) := by decide +kernel
theorem dX3_init_10 : decode cX3_init 10 = .ok (.iconst 0, 1) := by decide +kernel
theorem dX3_init_11 : decode cX3_init 11 = .ok (.putfield 15, 3) := by decide +kernel
theorem dX3_init_14 : decode cX3_init 14 = .ok (.aload_n 0, 1) := by decide +kernel
theorem dX3_init_15 : decode cX3_init 15 = .ok (.iconst 0, 1) := by decide +kernel
theorem dX3_init_16 : decode cX3_init 16 = .ok (.putfield 19, 3) := by decide +kernel
theorem dX3_init_19 : decode cX3_init 19 = .ok (.aload_n 0, 1) := by decide +kernel
theorem dX3_init_20 : decode cX3_init 20 = .ok (.iconst (-1), 1) := by decide +kernel
theorem dX3_init_21 : decode cX3_init 21 = .ok (.putfield 22, 3) := by decide +kernel
theorem dX3_init_24 : decode cX3_init 24 = .ok (.aload_n 0, 1) := by decide +kernel
theorem dX3_init_25 : decode cX3_init 25 = .ok (.iconst 0, 1) := by decide +kernel
theorem dX3_init_26 : decode cX3_init 26 = .ok (.putfield 25, 3) := by decide +kernel
theorem dX3_init_29 : decode cX3_init 29 = .ok (.return_, 1) := by decide +kernel
theorem dX3_put_0 : decode cX3_put 0 = .ok (.aload_n 0, 1) := by decide +kernel
theorem dX3_put_1 : decode cX3_put 1 = .ok (.iconst 1, 1) := by decide +kernel
theorem dX3_put_2 : decode cX3_put 2 = .ok (.putfield 9, 3) := by decide +kernel
theorem dX3_put_5 : decode cX3_put 5 = .ok (.aload_n 0, 1) := by decide +kernel
theorem dX3_put_6 : decode cX3_put 6 = .ok (.iload_n 1, 1) := by decide +kernel
theorem dX3_put_7 : decode cX3_put 7 = .ok (.putfield 15, 3) := by decide +kernel
theorem dX3_put_10 : decode cX3_put 10 = .ok (.aload_n 0, 1) := by decide +kernel
theorem dX3_put_11 : decode cX3_put 11 = .ok (.iload_n 2, 1) := by decide +kernel
theorem dX3_put_12 : decode cX3_put 12 = .ok (.putfield 19, 3) := by decide +kernel
theorem dX3_put_15 : decode cX3_put 15 = .ok (.aload_n 0, 1) := by decide +kernel
theorem dX3_put_16 : decode cX3_put 16 = .ok (.iload_n 3, 1) := by decide +kernel
theorem dX3_put_17 : decode cX3_put 17 = .ok (.putfield 22, 3) := by decide +kernel
theorem dX3_put_20 : decode cX3_put 20 = .ok (.aload_n 0, 1) := by decide +kernel
theorem dX3_put_21 : decode cX3_put 21 = .ok (.iload 4, 2) := by decide +kernel
theorem dX3_put_23 : decode cX3_put 23 = .ok (.putfield 25, 3) := by decide +kernel
theorem dX3_put_26 : decode cX3_put 26 = .ok (.return_, 1) := by decide +kernel
theorem dX3_fits_0 : decode cX3_fits 0 = .ok (.aload_n 0, 1) := by decide +kernel
theorem dX3_fits_1 : decode cX3_fits 1 = .ok (.getfield 9, 3) := by decide +kernel
theorem dX3_fits_4 : decode cX3_fits 4 = .ok (.ifCond .eq 43, 3) := by decide +kernel
theorem dX3_fits_7 : decode cX3_fits 7 = .ok (.aload_n 0, 1) := by decide +kernel
theorem dX3_fits_8 : decode cX3_fits 8 = .ok (.getfield 15, 3) := by decide +kernel
theorem dX3_fits_11 : decode cX3_fits 11 = .ok (.iload_n 2, 1) := by decide +kernel
theorem dX3_fits_12 : decode cX3_fits 12 = .ok (.ishr, 1) := by decide +kernel
theorem dX3_fits_13 : decode cX3_fits 13 = .ok (.iconst 1, 1) := by decide +kernel
theorem dX3_fits_14 : decode cX3_fits 14 = .ok (.iand, 1) := by decide +kernel
theorem dX3_fits_15 : decode cX3_fits 15 = .ok (.iconst 1, 1) := by decide +kernel
theorem dX3_fits_16 : decode cX3_fits 16 = .ok (.if_icmp .ne 31, 3) := by decide +kernel
theorem dX3_fits_19 : decode cX3_fits 19 = .ok (.iload_n 3, 1) := by decide +kernel
theorem dX3_fits_20 : decode cX3_fits 20 = .ok (.aload_n 0, 1) := by decide +kernel
theorem dX3_fits_21 : decode cX3_fits 21 = .ok (.getfield 19, 3) := by decide +kernel
theorem dX3_fits_24 : decode cX3_fits 24 = .ok (.if_icmp .gt 23, 3) := by decide +kernel
theorem dX3_fits_27 : decode cX3_fits 27 = .ok (.aload_n 0, 1) := by decide +kernel
theorem dX3_fits_28 : decode cX3_fits 28 = .ok (.getfield 22, 3) := by decide +kernel
theorem dX3_fits_31 : decode cX3_fits 31 = .ok (.iconst (-1), 1) := by decide +kernel
theorem dX3_fits_32 : decode cX3_fits 32 = .ok (.if_icmp .eq 11, 3) := by decide +kernel
theorem dX3_fits_35 : decode cX3_fits 35 = .ok (.aload_n 0, 1) := by decide +kernel
theorem dX3_fits_36 : decode cX3_fits 36 = .ok (.getfield 22, 3) := by decide +kernel
theorem dX3_fits_39 : decode cX3_fits 39 = .ok (.iload_n 1, 1) := by decide +kernel
theorem dX3_fits_40 : decode cX3_fits 40 = .ok (.if_icmp .ne 7, 3) := by decide +kernel
theorem dX3_fits_43 : decode cX3_fits 43 = .ok (.iconst 1, 1) := by decide +kernel
theorem dX3_fits_44 : decode cX3_fits 44 = .ok (.goto 4, 3) := by decide +kernel
theorem dX3_fits_47 : decode cX3_fits 47 = .ok (.iconst 0, 1) := by decide +kernel
theorem dX3_fits_48 : decode cX3_fits 48 = .ok (.ireturn, 1) := by decide +kernel
theorem dX4_init_0 : decode cX4_init 0 = .ok (.aload_n 0, 1) := by decide +kernel
theorem dX4_init_1 : decode cX4_init 1 = .ok (.invokespecial 3, 3) := by decide +kernel
theorem dX4_init_4 : decode cX4_init 4 = .ok (.aload_n 0, 1) := by decide +kernel
theorem dX4_init_5 : decode cX4_init 5 = .ok (.iconst 0, 1) := by decide +kernel
theorem dX4_init_6 : decode cX4_init 6 = .ok (.putfield 9, 3) := by decide +kernel
theorem dX4_init_9 : decode cX4_init 9 = .ok (.aload_n 0, 1) := by decide +kernel
theorem dX4_init_10 : decode cX4_init 10 = .ok (.iconst 0, 1) := by decide +kernel
theorem dX4_init_11 : decode cX4_init 11 = .ok (.putfield 15, 3) := by decide +kernel
theorem dX4_init_14 : decode cX4_init 14 = .ok (.aload_n 0, 1) := by decide +kernel
theorem dX4_init_15 : decode cX4_init 15 = .ok (.iconst 0, 1) := by decide +kernel
theorem dX4_init_16 : decode cX4_init 16 = .ok (.putfield 18, 3) := by decide +kernel
theorem dX4_init_19 : decode cX4_init 19 = .ok (.aload_n 0, 1) := by decide +kernel
theorem dX4_init_20 : decode cX4_init 20 = .ok (.iconst (-1), 1) := by decide +kernel
theorem dX4_init_21 : decode cX4_init 21 = .ok (.putfield 21, 3) := by decide +kernel
theorem dX4_init_24 : decode cX4_init 24 = .ok (.aload_n 0, 1) := by decide +kernel
theorem dX4_init_25 : decode cX4_init 25 = .ok (.iconst (-1), 1) := by decide +kernel
theorem dX4_init_26 : decode cX4_init 26 = .ok (.putfield 24, 3) := by decide +kernel
theorem dX4_init_29 : decode cX4_init 29 = .ok (.aload_n 0, 1) := by decide +kernel
theorem dX4_init_30 : decode cX4_init 30 = .ok (.iconst (-1), 1) := by decide +kernel
theorem dX4_init_31 : decode cX4_init 31 = .ok (.putfield 27, 3) := by decide +kernel
theorem dX4_init_34 : decode cX4_init 34 = .ok (.aload_n 0, 1) := by decide +kernel
theorem dX4_init_35 : decode cX4_init 35 = .ok (.iconst (-1), 1) := by decide +kernel
theorem dX4_init_36 : decode cX4_init 36 = .ok (.putfield 30, 3) := by decide +kernel
theorem dX4_init_39 : decode cX4_init 39 = .ok (.aload_n 0, 1) := by decide +kernel
theorem dX4_init_40 : decode cX4_init 40 = .ok (.iload_n 1, 1) := by decide +kernel
theorem dX4_init_41 : decode cX4_init 41 = .ok (.putfield 33, 3) := by decide +kernel
theorem dX4_init_44 : decode cX4_init 44 = .ok (.aload_n 0, 1) := by decide +kernel
theorem dX4_init_45 : decode cX4_init 45 = .ok (.iload_n 2, 1) := by decide +kernel
theorem dX4_init_46 : decode cX4_init 46 = .ok (.putfield 36, 3) := by decide +kernel
theorem dX4_init_49 : decode cX4_init 49 = .ok (.return_, 1) := by decide +kernel
theorem dX4_capTokens_0 : decode cX4_capTokens 0 = .ok (.aload_n 0, 1) := by decide +kernel
theorem dX4_capTokens_1 : decode cX4_capTokens 1 = .ok (.getfield 36, 3) := by decide +kernel
theorem dX4_capTokens_4 : decode cX4_capTokens 4 = .ok (.iload_n 1, 1) := by decide +kernel
theorem dX4_capTokens_5 : decode cX4_capTokens 5 = .ok (.if_icmp .le 8, 3) := by decide +kernel
theorem dX4_capTokens_8 : decode cX4_capTokens 8 = .ok (.aload_n 0, 1) := by decide +kernel
theorem dX4_capTokens_9 : decode cX4_capTokens 9 = .ok (.iload_n 1, 1) := by decide +kernel
theorem dX4_capTokens_10 : decode cX4_capTokens 10 = .ok (.putfield 36, 3) := by decide +kernel
theorem dX4_capTokens_13 : decode cX4_capTokens 13 = .ok (.return_, 1) := by decide +kernel
theorem dX4_gainToken_0 : decode cX4_gainToken 0 = .ok (.aload_n 0, 1) := by decide +kernel
theorem dX4_gainToken_1 : decode cX4_gainToken 1 = .ok (.getfield 36, 3) := by decide +kernel
theorem dX4_gainToken_4 : decode cX4_gainToken 4 = .ok (.iload_n 1, 1) := by decide +kernel
theorem dX4_gainToken_5 : decode cX4_gainToken 5 = .ok (.if_icmp .ge 13, 3) := by decide +kernel
theorem dX4_gainToken_8 : decode cX4_gainToken 8 = .ok (.aload_n 0, 1) := by decide +kernel
theorem dX4_gainToken_9 : decode cX4_gainToken 9 = .ok (.dup, 1) := by decide +kernel
theorem dX4_gainToken_10 : decode cX4_gainToken 10 = .ok (.getfield 36, 3) := by decide +kernel
theorem dX4_gainToken_13 : decode cX4_gainToken 13 = .ok (.iconst 1, 1) := by decide +kernel
theorem dX4_gainToken_14 : decode cX4_gainToken 14 = .ok (.iadd, 1) := by decide +kernel
theorem dX4_gainToken_15 : decode cX4_gainToken 15 = .ok (.putfield 36, 3) := by decide +kernel
theorem dX4_gainToken_18 : decode cX4_gainToken 18 = .ok (.return_, 1) := by decide +kernel
theorem dX4_lastIs_0 : decode cX4_lastIs 0 = .ok (.aload_n 0, 1) := by decide +kernel
theorem dX4_lastIs_1 : decode cX4_lastIs 1 = .ok (.getfield 21, 3) := by decide +kernel
theorem dX4_lastIs_4 : decode cX4_lastIs 4 = .ok (.iload_n 1, 1) := by decide +kernel
theorem dX4_lastIs_5 : decode cX4_lastIs 5 = .ok (.if_icmp .ne 32, 3) := by decide +kernel
theorem dX4_lastIs_8 : decode cX4_lastIs 8 = .ok (.aload_n 0, 1) := by decide +kernel
theorem dX4_lastIs_9 : decode cX4_lastIs 9 = .ok (.getfield 24, 3) := by decide +kernel
theorem dX4_lastIs_12 : decode cX4_lastIs 12 = .ok (.iload_n 2, 1) := by decide +kernel
theorem dX4_lastIs_13 : decode cX4_lastIs 13 = .ok (.if_icmp .ne 24, 3) := by decide +kernel
theorem dX4_lastIs_16 : decode cX4_lastIs 16 = .ok (.aload_n 0, 1) := by decide +kernel
theorem dX4_lastIs_17 : decode cX4_lastIs 17 = .ok (.getfield 27, 3) := by decide +kernel
theorem dX4_lastIs_20 : decode cX4_lastIs 20 = .ok (.iload_n 3, 1) := by decide +kernel
theorem dX4_lastIs_21 : decode cX4_lastIs 21 = .ok (.if_icmp .ne 16, 3) := by decide +kernel
theorem dX4_lastIs_24 : decode cX4_lastIs 24 = .ok (.aload_n 0, 1) := by decide +kernel
theorem dX4_lastIs_25 : decode cX4_lastIs 25 = .ok (.getfield 30, 3) := by decide +kernel
theorem dX4_lastIs_28 : decode cX4_lastIs 28 = .ok (.iload 4, 2) := by decide +kernel
theorem dX4_lastIs_30 : decode cX4_lastIs 30 = .ok (.if_icmp .ne 7, 3) := by decide +kernel
theorem dX4_lastIs_33 : decode cX4_lastIs 33 = .ok (.iconst 1, 1) := by decide +kernel
theorem dX4_lastIs_34 : decode cX4_lastIs 34 = .ok (.goto 4, 3) := by decide +kernel
theorem dX4_lastIs_37 : decode cX4_lastIs 37 = .ok (.iconst 0, 1) := by decide +kernel
theorem dX4_lastIs_38 : decode cX4_lastIs 38 = .ok (.ireturn, 1) := by decide +kernel
theorem dX4_setLast_0 : decode cX4_setLast 0 = .ok (.aload_n 0, 1) := by decide +kernel
theorem dX4_setLast_1 : decode cX4_setLast 1 = .ok (.iload_n 1, 1) := by decide +kernel
theorem dX4_setLast_2 : decode cX4_setLast 2 = .ok (.putfield 21, 3) := by decide +kernel
theorem dX4_setLast_5 : decode cX4_setLast 5 = .ok (.aload_n 0, 1) := by decide +kernel
theorem dX4_setLast_6 : decode cX4_setLast 6 = .ok (.iload_n 2, 1) := by decide +kernel
theorem dX4_setLast_7 : decode cX4_setLast 7 = .ok (.putfield 24, 3) := by decide +kernel
theorem dX4_setLast_10 : decode cX4_setLast 10 = .ok (.aload_n 0, 1) := by decide +kernel
theorem dX4_setLast_11 : decode cX4_setLast 11 = .ok (.iload_n 3, 1) := by decide +kernel
theorem dX4_setLast_12 : decode cX4_setLast 12 = .ok (.putfield 27, 3) := by decide +kernel
theorem dX4_setLast_15 : decode cX4_setLast 15 = .ok (.aload_n 0, 1) := by decide +kernel
theorem dX4_setLast_16 : decode cX4_setLast 16 = .ok (.iload 4, 2) := by decide +kernel
theorem dX4_setLast_18 : decode cX4_setLast 18 = .ok (.putfield 30, 3) := by decide +kernel
theorem dX4_setLast_21 : decode cX4_setLast 21 = .ok (.return_, 1) := by decide +kernel
theorem dX4_countRepeat_0 : decode cX4_countRepeat 0 = .ok (.aload_n 0, 1) := by decide +kernel
theorem dX4_countRepeat_1 : decode cX4_countRepeat 1 = .ok (.getfield 9, 3) := by decide +kernel
theorem dX4_countRepeat_4 : decode cX4_countRepeat 4 = .ok (.ifCond .ne 8, 3) := by decide +kernel
theorem dX4_countRepeat_7 : decode cX4_countRepeat 7 = .ok (.aload_n 0, 1) := by decide +kernel
theorem dX4_countRepeat_8 : decode cX4_countRepeat 8 = .ok (.iload_n 1, 1) := by decide +kernel
theorem dX4_countRepeat_9 : decode cX4_countRepeat 9 = .ok (.putfield 15, 3) := by decide +kernel
theorem dX4_countRepeat_12 : decode cX4_countRepeat 12 = .ok (.aload_n 0, 1) := by decide +kernel
theorem dX4_countRepeat_13 : decode cX4_countRepeat 13 = .ok (.dup, 1) := by decide +kernel
theorem dX4_countRepeat_14 : decode cX4_countRepeat 14 = .ok (.getfield 9, 3) := by decide +kernel
theorem dX4_countRepeat_17 : decode cX4_countRepeat 17 = .ok (.iconst 1, 1) := by decide +kernel
theorem dX4_countRepeat_18 : decode cX4_countRepeat 18 = .ok (.iadd, 1) := by decide +kernel
theorem dX4_countRepeat_19 : decode cX4_countRepeat 19 = .ok (.putfield 9, 3) := by decide +kernel
theorem dX4_countRepeat_22 : decode cX4_countRepeat 22 = .ok (.return_, 1) := by decide +kernel
end
section
set_option maxHeartbeats 4000000 in
set_option maxRecDepth 100000 in
theorem c_X0_waiting (l : Launch) (hl9 : l.stackTraces = false) {B0 : Nat} {ad : Nat → Nat} {D : va_G} {T : Nat → ClassId} (hA : XA B0 ad) {h : xH} {K : Int32 → xH → Prop} (hw : w_X0_waiting h K) : XM l yX0_waiting wsX0_waiting ({ frames := 0, cells := 0, slots := 0, locals := 0 } : Room) B0 ad D T h [.ref (ad (4))] xei K 0 0 := by
  unfold XM
  refine Met.ofW (cc := cX0_waiting) (maxL := 1) (ret := (some .int)) (by decide) rfl ?_
  intro p e s m args below meth c s₁ B hml hv
  obtain ⟨rfl, hB0, hP, hK, hN⟩ := hv
  have hx := B.exec
  have hb := B.bytes
  have hr := B.returns
  have hts := atoms_spec (ws := wsX0_waiting) B.pre
  have hown : s.vm.findClass RX0 = some m.cls := findClass_of_methodNamed B.named
  have hlocks := B.notSynchronized
  have iX0 : ∀ w ∈ u_ws RX0 TX0 6, w ∈ wsX0_waiting := by decide +kernel
  have f_15 := hts (.fieldLink RX0 15 "LogSpooler$Forwarder" "end" "I") (by decide +kernel)
  have f_19 := hts (.fieldLink RX0 19 "LogSpooler$Forwarder" "firstQueued" "I") (by decide +kernel)
  have hS : va_S (fun q => B0 ≤ q) s.heap s.heap [] := va_S.rf
  have hl := lv_entry ([.ref (ad (4))]) (n := 1) (Nat.le_of_ble_eq_true rfl)
  rw [lg_entry_eq]
  generalize (lg_sl ([.ref (ad (4))]) ++ List.replicate (1 - (lg_sl ([.ref (ad (4))])).length) Slot.unset).toArray = ls at hl ⊢
  have hl : lv_has ls 1 [(0, .ref (ad (4)))] := hl
  unfold w_X0_waiting at hw
  refine lv_aload_n hx hb dX0_waiting_0 rfl (lv_at hl 0 rfl) ?_
  refine xg_get (C := RX0) (TC := TX0) (N := 6) hx hb hts iX0 hown hK hP xs4 rfl 1 (by decide) f_15 (fun _ h9 => h9) rfl dX0_waiting_1 ?_
  refine lv_aload_n hx hb dX0_waiting_4 rfl (lv_at hl 0 rfl) ?_
  refine xg_get (C := RX0) (TC := TX0) (N := 6) hx hb hts iX0 hown hK hP xs4 rfl 2 (by decide) f_19 (fun _ h9 => h9) rfl dX0_waiting_5 ?_
  refine lv_isub hx hb dX0_waiting_8 ?_
  exact xg_irets hx hb hr rfl hlocks hB0 hP hK hN hS dX0_waiting_9 (by decide) (by decide) hw
set_option maxHeartbeats 4000000 in
set_option maxRecDepth 100000 in
theorem c_X0_flying (l : Launch) (hl9 : l.stackTraces = false) {B0 : Nat} {ad : Nat → Nat} {D : va_G} {T : Nat → ClassId} (hA : XA B0 ad) {h : xH} {K : Int32 → xH → Prop} (hw : w_X0_flying h K) : XM l yX0_flying wsX0_flying ({ frames := 0, cells := 0, slots := 0, locals := 0 } : Room) B0 ad D T h [.ref (ad (4))] xei K 0 0 := by
  unfold XM
  refine Met.ofW (cc := cX0_flying) (maxL := 1) (ret := (some .int)) (by decide) rfl ?_
  intro p e s m args below meth c s₁ B hml hv
  obtain ⟨rfl, hB0, hP, hK, hN⟩ := hv
  have hx := B.exec
  have hb := B.bytes
  have hr := B.returns
  have hts := atoms_spec (ws := wsX0_flying) B.pre
  have hown : s.vm.findClass RX0 = some m.cls := findClass_of_methodNamed B.named
  have hlocks := B.notSynchronized
  have iX0 : ∀ w ∈ u_ws RX0 TX0 6, w ∈ wsX0_flying := by decide +kernel
  have f_19 := hts (.fieldLink RX0 19 "LogSpooler$Forwarder" "firstQueued" "I") (by decide +kernel)
  have f_22 := hts (.fieldLink RX0 22 "LogSpooler$Forwarder" "acknowledgedOnes" "I") (by decide +kernel)
  have hS : va_S (fun q => B0 ≤ q) s.heap s.heap [] := va_S.rf
  have hl := lv_entry ([.ref (ad (4))]) (n := 1) (Nat.le_of_ble_eq_true rfl)
  rw [lg_entry_eq]
  generalize (lg_sl ([.ref (ad (4))]) ++ List.replicate (1 - (lg_sl ([.ref (ad (4))])).length) Slot.unset).toArray = ls at hl ⊢
  have hl : lv_has ls 1 [(0, .ref (ad (4)))] := hl
  unfold w_X0_flying at hw
  refine lv_aload_n hx hb dX0_flying_0 rfl (lv_at hl 0 rfl) ?_
  refine xg_get (C := RX0) (TC := TX0) (N := 6) hx hb hts iX0 hown hK hP xs4 rfl 2 (by decide) f_19 (fun _ h9 => h9) rfl dX0_flying_1 ?_
  refine lv_aload_n hx hb dX0_flying_4 rfl (lv_at hl 0 rfl) ?_
  refine xg_get (C := RX0) (TC := TX0) (N := 6) hx hb hts iX0 hown hK hP xs4 rfl 3 (by decide) f_22 (fun _ h9 => h9) rfl dX0_flying_5 ?_
  refine lv_isub hx hb dX0_flying_8 ?_
  exact xg_irets hx hb hr rfl hlocks hB0 hP hK hN hS dX0_flying_9 (by decide) (by decide) hw
set_option maxHeartbeats 4000000 in
set_option maxRecDepth 100000 in
theorem c_X0_take (l : Launch) (hl9 : l.stackTraces = false) {B0 : Nat} {ad : Nat → Nat} {D : va_G} {T : Nat → ClassId} (hA : XA B0 ad) (p0 : Int32) {h : xH} {K : Unit → xH → Prop} (hw : w_X0_take p0 h K) : XM l yX0_take wsX0_take ({ frames := 0, cells := 0, slots := 0, locals := 0 } : Room) B0 ad D T h [.ref (ad (4)), .int (p0)] xev K 0 0 := by
  unfold XM
  refine Met.ofW (cc := cX0_take) (maxL := 2) (ret := none) (by decide) rfl ?_
  intro p e s m args below meth c s₁ B hml hv
  obtain ⟨rfl, hB0, hP, hK, hN⟩ := hv
  have hx := B.exec
  have hb := B.bytes
  have hr := B.returns
  have hts := atoms_spec (ws := wsX0_take) B.pre
  have hown : s.vm.findClass RX0 = some m.cls := findClass_of_methodNamed B.named
  have hlocks := B.notSynchronized
  have iX0 : ∀ w ∈ u_ws RX0 TX0 6, w ∈ wsX0_take := by decide +kernel
  have f_9 := hts (.fieldLink RX0 9 "LogSpooler$Forwarder" "row" "[I") (by decide +kernel)
  have f_15 := hts (.fieldLink RX0 15 "LogSpooler$Forwarder" "end" "I") (by decide +kernel)
  have f_22 := hts (.fieldLink RX0 22 "LogSpooler$Forwarder" "acknowledgedOnes" "I") (by decide +kernel)
  have f_25 := hts (.fieldLink RX0 25 "LogSpooler$Forwarder" "lostOnes" "I") (by decide +kernel)
  have hS : va_S (fun q => B0 ≤ q) s.heap s.heap [] := va_S.rf
  have hl := lv_entry ([.ref (ad (4)), .int (p0)]) (n := 2) (Nat.le_of_ble_eq_true rfl)
  rw [lg_entry_eq]
  generalize (lg_sl ([.ref (ad (4)), .int (p0)]) ++ List.replicate (2 - (lg_sl ([.ref (ad (4)), .int (p0)])).length) Slot.unset).toArray = ls at hl ⊢
  have hl : lv_has ls 2 [(0, .ref (ad (4))), (1, .int (p0))] := hl
  have j_56 : ∀ (h : xH) (H : Heap) (locs : List Loc) (ls : Array Slot), w_X0_take_56 p0 K h → XP ad D T h H → va_S (fun q => B0 ≤ q) s.heap H locs → lv_has ls 2 [(0, .ref (ad (4)))] → W p l e (headSpec wsX0_take ({ frames := 0, cells := 0, slots := 0, locals := 0 } : Room)).room s m ([.ref (ad (4)), .int (p0)] : List Value).toArray below meth c H locs 0 0 (MQ below (XQ B0 ad D T xev K) ([.ref (ad (4)), .int (p0)] : List Value).toArray s 0 0 (fun q => B0 ≤ q)) (F0 m 56 ls []) := by
    intro h H locs ls hw hP hS hl 
    unfold w_X0_take_56 at hw
    refine lv_aload_n hx hb dX0_take_56 rfl (lv_at hl 0 rfl) ?_
    refine lv_dup hx hb dX0_take_57 rfl ?_
    refine xg_get (C := RX0) (TC := TX0) (N := 6) hx hb hts iX0 hown hK hP xs4 rfl 4 (by decide) f_25 (fun _ h9 => h9) rfl dX0_take_58 ?_
    refine lv_iconst (v := 1) hx hb dX0_take_61 (by decide) ?_
    refine lv_iadd hx hb dX0_take_62 ?_
    refine xg_put (C := RX0) (TC := TX0) (N := 6) hx hb hts iX0 tyX0 tyX0_ok nmX0 hown hK hP hA hS xs4 rfl 4 (by decide) f_25 (fun _ h9 => h9) rfl rfl (ty := .int) (by decide +kernel) rfl rfl dX0_take_63 (fun H locs h7 eh7 hP hS => ?_)
    have hw := hw h7 eh7
    exact xg_vrets hx hb hr hlocks hB0 hP hK hN hS dX0_take_66 (by decide) (by decide) hw
  unfold w_X0_take at hw
  refine lv_aload_n hx hb dX0_take_0 rfl (lv_at hl 0 rfl) ?_
  refine xg_get (C := RX0) (TC := TX0) (N := 6) hx hb hts iX0 hown hK hP xs4 rfl 1 (by decide) f_15 (fun _ h9 => h9) rfl dX0_take_1 ?_
  refine lv_aload_n hx hb dX0_take_4 rfl (lv_at hl 0 rfl) ?_
  refine xg_get (C := RX0) (TC := TX0) (N := 6) hx hb hts iX0 hown hK hP xs4 rfl 3 (by decide) f_22 (fun _ h9 => h9) rfl dX0_take_5 ?_
  refine lv_isub hx hb dX0_take_8 ?_
  refine lv_bipush (v := 30) hx hb dX0_take_9 (by decide) ?_
  refine lv_icmp_ge (tgt := 56) hx hb dX0_take_11 (by decide) (fun c1 => ?_) (fun c1 => ?_)
  · have hw := hw.1 c1
    exact j_56  _ _ _ _ hw hP hS (lv_sub hl [0] rfl)
  · have hw := hw.2 c1
    refine lv_aload_n hx hb dX0_take_14 rfl (lv_at hl 0 rfl) ?_
    refine xg_get (C := RX0) (TC := TX0) (N := 6) hx hb hts iX0 hown hK hP xs4 rfl 1 (by decide) f_15 (fun _ h9 => h9) rfl dX0_take_15 ?_
    refine lv_if_lt (tgt := 56) hx hb dX0_take_18 (by decide) (fun c2 => ?_) (fun c2 => ?_)
    · have hw := hw.1 c2
      exact j_56  _ _ _ _ hw hP hS (lv_sub hl [0] rfl)
    · have hw := hw.2 c2
      refine lv_aload_n hx hb dX0_take_21 rfl (lv_at hl 0 rfl) ?_
      refine xg_get (C := RX0) (TC := TX0) (N := 6) hx hb hts iX0 hown hK hP xs4 rfl 1 (by decide) f_15 (fun _ h9 => h9) rfl dX0_take_22 ?_
      refine lv_aload_n hx hb dX0_take_25 rfl (lv_at hl 0 rfl) ?_
      refine xg_getr (C := RX0) (TC := TX0) (N := 6) hx hb hts iX0 hown hK hP xs4 rfl 0 (by decide) f_9 (fun _ h9 => h9) rfl dX0_take_26 ?_
      refine xg_alen (v := 400) hx hb hK hP xs5 rfl dX0_take_29 ?_
      refine lv_icmp_ge (tgt := 56) hx hb dX0_take_30 (by decide) (fun c3 => ?_) (fun c3 => ?_)
      · have hw := hw.1 c3
        exact j_56  _ _ _ _ hw hP hS (lv_sub hl [0] rfl)
      · have hw := hw.2 c3
        refine lv_aload_n hx hb dX0_take_33 rfl (lv_at hl 0 rfl) ?_
        refine xg_getr (C := RX0) (TC := TX0) (N := 6) hx hb hts iX0 hown hK hP xs4 rfl 0 (by decide) f_9 (fun _ h9 => h9) rfl dX0_take_34 ?_
        refine lv_aload_n hx hb dX0_take_37 rfl (lv_at hl 0 rfl) ?_
        refine xg_get (C := RX0) (TC := TX0) (N := 6) hx hb hts iX0 hown hK hP xs4 rfl 1 (by decide) f_15 (fun _ h9 => h9) rfl dX0_take_38 ?_
        refine lv_iload_n hx hb dX0_take_41 rfl (lv_at hl 1 rfl) ?_
        obtain ⟨hi4, hw⟩ := hw
        refine xg_iast hx hb hK hP hA hS xs5 hi4 dX0_take_42 (fun H locs h5 eh5 hP hS => ?_)
        have hw := hw h5 eh5
        refine lv_aload_n hx hb dX0_take_43 rfl (lv_at hl 0 rfl) ?_
        refine lv_dup hx hb dX0_take_44 rfl ?_
        refine xg_get (C := RX0) (TC := TX0) (N := 6) hx hb hts iX0 hown hK hP xs4 rfl 1 (by decide) f_15 (fun _ h9 => h9) rfl dX0_take_45 ?_
        refine lv_iconst (v := 1) hx hb dX0_take_48 (by decide) ?_
        refine lv_iadd hx hb dX0_take_49 ?_
        refine xg_put (C := RX0) (TC := TX0) (N := 6) hx hb hts iX0 tyX0 tyX0_ok nmX0 hown hK hP hA hS xs4 rfl 1 (by decide) f_15 (fun _ h9 => h9) rfl rfl (ty := .int) (by decide +kernel) rfl rfl dX0_take_50 (fun H locs h6 eh6 hP hS => ?_)
        have hw := hw h6 eh6
        refine lv_goto (tgt := 66) hx hb dX0_take_53 (by decide) ?_
        exact xg_vrets hx hb hr hlocks hB0 hP hK hN hS dX0_take_66 (by decide) (by decide) hw
set_option maxHeartbeats 4000000 in
set_option maxRecDepth 100000 in
theorem c_X0_canSend (l : Launch) (hl9 : l.stackTraces = false) {B0 : Nat} {ad : Nat → Nat} {D : va_G} {T : Nat → ClassId} (hA : XA B0 ad) {h : xH} {K : Int32 → xH → Prop} (hw : w_X0_canSend h K) : XM l yX0_canSend wsX0_canSend ({ frames := 1, cells := 0, slots := 0, locals := 20 } : Room) B0 ad D T h [.ref (ad (4))] xei K 0 0 := by
  unfold XM
  refine Met.ofW (cc := cX0_canSend) (maxL := 1) (ret := (some .boolean)) (by decide) rfl ?_
  intro p e s m args below meth c s₁ B hml hv
  obtain ⟨rfl, hB0, hP, hK, hN⟩ := hv
  have hx := B.exec
  have hb := B.bytes
  have hr := B.returns
  have hts := atoms_spec (ws := wsX0_canSend) B.pre
  have hown : s.vm.findClass RX0 = some m.cls := findClass_of_methodNamed B.named
  have hlocks := B.notSynchronized
  have iX0 : ∀ w ∈ u_ws RX0 TX0 6, w ∈ wsX0_canSend := by decide +kernel
  have f_28 := hts (.fieldLink RX0 28 "LogSpooler$Forwarder" "isConnected" "Z") (by decide +kernel)
  have hS : va_S (fun q => B0 ≤ q) s.heap s.heap [] := va_S.rf
  have hl := lv_entry ([.ref (ad (4))]) (n := 1) (Nat.le_of_ble_eq_true rfl)
  rw [lg_entry_eq]
  generalize (lg_sl ([.ref (ad (4))]) ++ List.replicate (1 - (lg_sl ([.ref (ad (4))])).length) Slot.unset).toArray = ls at hl ⊢
  have hl : lv_has ls 1 [(0, .ref (ad (4)))] := hl
  unfold w_X0_canSend at hw
  refine lv_aload_n hx hb dX0_canSend_0 rfl (lv_at hl 0 rfl) ?_
  refine xg_get (C := RX0) (TC := TX0) (N := 6) hx hb hts iX0 hown hK hP xs4 rfl 5 (by decide) f_28 (fun _ h9 => h9) rfl dX0_canSend_1 ?_
  refine lv_if_eq (tgt := 26) hx hb dX0_canSend_4 (by decide) (fun c1 => ?_) (fun c1 => ?_)
  · have hw := hw.1 c1
    refine lv_iconst (v := 0) hx hb dX0_canSend_26 (by decide) ?_
    exact xg_irets hx hb hr rfl hlocks hB0 hP hK hN hS dX0_canSend_27 (by decide) (by decide) hw
  · have hw := hw.2 c1
    refine lv_aload_n hx hb dX0_canSend_7 rfl (lv_at hl 0 rfl) ?_
    refine xg_calli (va_runV (As := []) (rest := []) ⟨hx, hb, hml, hown, hts⟩ (c_X0_waiting l hl9 hA hw) (cwV 0 hts gX0_canSend_X0_waiting rfl rfl rfl (by decide +kernel) ⟨Nat.le_of_ble_eq_true rfl, Nat.le_of_ble_eq_true rfl⟩) (xg_preV hB0 hP hK hN hS xs4 rfl) rfl rfl hl.1 rfl (lv_room (Nat.le_of_ble_eq_true rfl)) dX0_canSend_8 ⟨Nat.le_of_ble_eq_true rfl, Nat.le_of_ble_eq_true rfl⟩) hS (fun r2 h3 H locs hw hP hS => ?_)
    refine lv_if_le (tgt := 26) hx hb dX0_canSend_11 (by decide) (fun c4 => ?_) (fun c4 => ?_)
    · have hw := hw.1 c4
      refine lv_iconst (v := 0) hx hb dX0_canSend_26 (by decide) ?_
      exact xg_irets hx hb hr rfl hlocks hB0 hP hK hN hS dX0_canSend_27 (by decide) (by decide) hw
    · have hw := hw.2 c4
      refine lv_aload_n hx hb dX0_canSend_14 rfl (lv_at hl 0 rfl) ?_
      refine xg_calli (va_runV (As := []) (rest := []) ⟨hx, hb, hml, hown, hts⟩ (c_X0_flying l hl9 hA hw) (cwV 0 hts gX0_canSend_X0_flying rfl rfl rfl (by decide +kernel) ⟨Nat.le_of_ble_eq_true rfl, Nat.le_of_ble_eq_true rfl⟩) (xg_preV hB0 hP hK hN hS xs4 rfl) rfl rfl hl.1 rfl (lv_room (Nat.le_of_ble_eq_true rfl)) dX0_canSend_15 ⟨Nat.le_of_ble_eq_true rfl, Nat.le_of_ble_eq_true rfl⟩) hS (fun r5 h6 H locs hw hP hS => ?_)
      refine lv_iconst (v := 5) hx hb dX0_canSend_18 (by decide) ?_
      refine lv_icmp_ge (tgt := 26) hx hb dX0_canSend_19 (by decide) (fun c7 => ?_) (fun c7 => ?_)
      · have hw := hw.1 c7
        refine lv_iconst (v := 0) hx hb dX0_canSend_26 (by decide) ?_
        exact xg_irets hx hb hr rfl hlocks hB0 hP hK hN hS dX0_canSend_27 (by decide) (by decide) hw
      · have hw := hw.2 c7
        refine lv_iconst (v := 1) hx hb dX0_canSend_22 (by decide) ?_
        refine lv_goto (tgt := 27) hx hb dX0_canSend_23 (by decide) ?_
        exact xg_irets hx hb hr rfl hlocks hB0 hP hK hN hS dX0_canSend_27 (by decide) (by decide) hw
set_option maxHeartbeats 4000000 in
set_option maxRecDepth 100000 in
theorem c_X0_lineAt (l : Launch) (hl9 : l.stackTraces = false) {B0 : Nat} {ad : Nat → Nat} {D : va_G} {T : Nat → ClassId} (hA : XA B0 ad) (p0 : Int32) {h : xH} {K : Int32 → xH → Prop} (hw : w_X0_lineAt p0 h K) : XM l yX0_lineAt wsX0_lineAt ({ frames := 0, cells := 0, slots := 0, locals := 0 } : Room) B0 ad D T h [.ref (ad (4)), .int (p0)] xei K 0 0 := by
  unfold XM
  refine Met.ofW (cc := cX0_lineAt) (maxL := 2) (ret := (some .int)) (by decide) rfl ?_
  intro p e s m args below meth c s₁ B hml hv
  obtain ⟨rfl, hB0, hP, hK, hN⟩ := hv
  have hx := B.exec
  have hb := B.bytes
  have hr := B.returns
  have hts := atoms_spec (ws := wsX0_lineAt) B.pre
  have hown : s.vm.findClass RX0 = some m.cls := findClass_of_methodNamed B.named
  have hlocks := B.notSynchronized
  have iX0 : ∀ w ∈ u_ws RX0 TX0 6, w ∈ wsX0_lineAt := by decide +kernel
  have f_9 := hts (.fieldLink RX0 9 "LogSpooler$Forwarder" "row" "[I") (by decide +kernel)
  have hS : va_S (fun q => B0 ≤ q) s.heap s.heap [] := va_S.rf
  have hl := lv_entry ([.ref (ad (4)), .int (p0)]) (n := 2) (Nat.le_of_ble_eq_true rfl)
  rw [lg_entry_eq]
  generalize (lg_sl ([.ref (ad (4)), .int (p0)]) ++ List.replicate (2 - (lg_sl ([.ref (ad (4)), .int (p0)])).length) Slot.unset).toArray = ls at hl ⊢
  have hl : lv_has ls 2 [(0, .ref (ad (4))), (1, .int (p0))] := hl
  unfold w_X0_lineAt at hw
  refine lv_iload_n hx hb dX0_lineAt_0 rfl (lv_at hl 1 rfl) ?_
  refine lv_if_lt (tgt := 22) hx hb dX0_lineAt_1 (by decide) (fun c1 => ?_) (fun c1 => ?_)
  · have hw := hw.1 c1
    refine lv_iconst (v := (-1)) hx hb dX0_lineAt_22 (by decide) ?_
    exact xg_irets hx hb hr rfl hlocks hB0 hP hK hN hS dX0_lineAt_23 (by decide) (by decide) hw
  · have hw := hw.2 c1
    refine lv_iload_n hx hb dX0_lineAt_4 rfl (lv_at hl 1 rfl) ?_
    refine lv_aload_n hx hb dX0_lineAt_5 rfl (lv_at hl 0 rfl) ?_
    refine xg_getr (C := RX0) (TC := TX0) (N := 6) hx hb hts iX0 hown hK hP xs4 rfl 0 (by decide) f_9 (fun _ h9 => h9) rfl dX0_lineAt_6 ?_
    refine xg_alen (v := 400) hx hb hK hP xs5 rfl dX0_lineAt_9 ?_
    refine lv_icmp_ge (tgt := 22) hx hb dX0_lineAt_10 (by decide) (fun c2 => ?_) (fun c2 => ?_)
    · have hw := hw.1 c2
      refine lv_iconst (v := (-1)) hx hb dX0_lineAt_22 (by decide) ?_
      exact xg_irets hx hb hr rfl hlocks hB0 hP hK hN hS dX0_lineAt_23 (by decide) (by decide) hw
    · have hw := hw.2 c2
      refine lv_aload_n hx hb dX0_lineAt_13 rfl (lv_at hl 0 rfl) ?_
      refine xg_getr (C := RX0) (TC := TX0) (N := 6) hx hb hts iX0 hown hK hP xs4 rfl 0 (by decide) f_9 (fun _ h9 => h9) rfl dX0_lineAt_14 ?_
      refine lv_iload_n hx hb dX0_lineAt_17 rfl (lv_at hl 1 rfl) ?_
      obtain ⟨hi3, hw⟩ := hw
      refine xg_iald hx hb hK hP xs5 hi3 dX0_lineAt_18 ?_
      refine lv_goto (tgt := 23) hx hb dX0_lineAt_19 (by decide) ?_
      exact xg_irets hx hb hr rfl hlocks hB0 hP hK hN hS dX0_lineAt_23 (by decide) (by decide) hw
set_option maxHeartbeats 4000000 in
set_option maxRecDepth 100000 in
theorem c_X0_sendFirst (l : Launch) (hl9 : l.stackTraces = false) {B0 : Nat} {ad : Nat → Nat} {D : va_G} {T : Nat → ClassId} (hA : XA B0 ad) {h : xH} {K : Int32 → xH → Prop} (hw : w_X0_sendFirst h K) : XM l yX0_sendFirst wsX0_sendFirst ({ frames := 1, cells := 0, slots := 0, locals := 21 } : Room) B0 ad D T h [.ref (ad (4))] xei K 0 0 := by
  unfold XM
  refine Met.ofW (cc := cX0_sendFirst) (maxL := 2) (ret := (some .int)) (by decide) rfl ?_
  intro p e s m args below meth c s₁ B hml hv
  obtain ⟨rfl, hB0, hP, hK, hN⟩ := hv
  have hx := B.exec
  have hb := B.bytes
  have hr := B.returns
  have hts := atoms_spec (ws := wsX0_sendFirst) B.pre
  have hown : s.vm.findClass RX0 = some m.cls := findClass_of_methodNamed B.named
  have hlocks := B.notSynchronized
  have iX0 : ∀ w ∈ u_ws RX0 TX0 6, w ∈ wsX0_sendFirst := by decide +kernel
  have f_19 := hts (.fieldLink RX0 19 "LogSpooler$Forwarder" "firstQueued" "I") (by decide +kernel)
  have hS : va_S (fun q => B0 ≤ q) s.heap s.heap [] := va_S.rf
  have hl := lv_entry ([.ref (ad (4))]) (n := 2) (Nat.le_of_ble_eq_true rfl)
  rw [lg_entry_eq]
  generalize (lg_sl ([.ref (ad (4))]) ++ List.replicate (2 - (lg_sl ([.ref (ad (4))])).length) Slot.unset).toArray = ls at hl ⊢
  have hl : lv_has ls 2 [(0, .ref (ad (4)))] := hl
  unfold w_X0_sendFirst at hw
  refine lv_aload_n hx hb dX0_sendFirst_0 rfl (lv_at hl 0 rfl) ?_
  refine lv_aload_n hx hb dX0_sendFirst_1 rfl (lv_at hl 0 rfl) ?_
  refine xg_get (C := RX0) (TC := TX0) (N := 6) hx hb hts iX0 hown hK hP xs4 rfl 2 (by decide) f_19 (fun _ h9 => h9) rfl dX0_sendFirst_2 ?_
  refine xg_calli (va_runV (As := [.int ((h 4 2))]) (rest := []) ⟨hx, hb, hml, hown, hts⟩ (c_X0_lineAt l hl9 hA (h 4 2) hw) (cwV 1 hts gX0_sendFirst_X0_lineAt rfl rfl rfl (by decide +kernel) ⟨Nat.le_of_ble_eq_true rfl, Nat.le_of_ble_eq_true rfl⟩) (xg_preV hB0 hP hK hN hS xs4 rfl) rfl rfl hl.1 rfl (lv_room (Nat.le_of_ble_eq_true rfl)) dX0_sendFirst_5 ⟨Nat.le_of_ble_eq_true rfl, Nat.le_of_ble_eq_true rfl⟩) hS (fun r1 h2 H locs hw hP hS => ?_)
  refine lv_istore_n (lv' := [(1, .int (r1)), (0, .ref (ad (4)))]) hx hb dX0_sendFirst_8 rfl hl (by decide) rfl (fun ls hl => ?_)
  refine lv_aload_n hx hb dX0_sendFirst_9 rfl (lv_at hl 1 rfl) ?_
  refine lv_dup hx hb dX0_sendFirst_10 rfl ?_
  refine xg_get (C := RX0) (TC := TX0) (N := 6) hx hb hts iX0 hown hK hP xs4 rfl 2 (by decide) f_19 (fun _ h9 => h9) rfl dX0_sendFirst_11 ?_
  refine lv_iconst (v := 1) hx hb dX0_sendFirst_14 (by decide) ?_
  refine lv_iadd hx hb dX0_sendFirst_15 ?_
  refine xg_put (C := RX0) (TC := TX0) (N := 6) hx hb hts iX0 tyX0 tyX0_ok nmX0 hown hK hP hA hS xs4 rfl 2 (by decide) f_19 (fun _ h9 => h9) rfl rfl (ty := .int) (by decide +kernel) rfl rfl dX0_sendFirst_16 (fun H locs h3 eh3 hP hS => ?_)
  have hw := hw h3 eh3
  refine lv_iload_n hx hb dX0_sendFirst_19 rfl (lv_at hl 0 rfl) ?_
  exact xg_irets hx hb hr rfl hlocks hB0 hP hK hN hS dX0_sendFirst_20 (by decide) (by decide) hw
set_option maxHeartbeats 4000000 in
set_option maxRecDepth 100000 in
theorem c_X0_acknowledgeFirst (l : Launch) (hl9 : l.stackTraces = false) {B0 : Nat} {ad : Nat → Nat} {D : va_G} {T : Nat → ClassId} (hA : XA B0 ad) {h : xH} {K : Int32 → xH → Prop} (hw : w_X0_acknowledgeFirst h K) : XM l yX0_acknowledgeFirst wsX0_acknowledgeFirst ({ frames := 1, cells := 0, slots := 0, locals := 21 } : Room) B0 ad D T h [.ref (ad (4))] xei K 0 0 := by
  unfold XM
  refine Met.ofW (cc := cX0_acknowledgeFirst) (maxL := 2) (ret := (some .int)) (by decide) rfl ?_
  intro p e s m args below meth c s₁ B hml hv
  obtain ⟨rfl, hB0, hP, hK, hN⟩ := hv
  have hx := B.exec
  have hb := B.bytes
  have hr := B.returns
  have hts := atoms_spec (ws := wsX0_acknowledgeFirst) B.pre
  have hown : s.vm.findClass RX0 = some m.cls := findClass_of_methodNamed B.named
  have hlocks := B.notSynchronized
  have iX0 : ∀ w ∈ u_ws RX0 TX0 6, w ∈ wsX0_acknowledgeFirst := by decide +kernel
  have f_22 := hts (.fieldLink RX0 22 "LogSpooler$Forwarder" "acknowledgedOnes" "I") (by decide +kernel)
  have hS : va_S (fun q => B0 ≤ q) s.heap s.heap [] := va_S.rf
  have hl := lv_entry ([.ref (ad (4))]) (n := 2) (Nat.le_of_ble_eq_true rfl)
  rw [lg_entry_eq]
  generalize (lg_sl ([.ref (ad (4))]) ++ List.replicate (2 - (lg_sl ([.ref (ad (4))])).length) Slot.unset).toArray = ls at hl ⊢
  have hl : lv_has ls 2 [(0, .ref (ad (4)))] := hl
  unfold w_X0_acknowledgeFirst at hw
  refine lv_aload_n hx hb dX0_acknowledgeFirst_0 rfl (lv_at hl 0 rfl) ?_
  refine lv_aload_n hx hb dX0_acknowledgeFirst_1 rfl (lv_at hl 0 rfl) ?_
  refine xg_get (C := RX0) (TC := TX0) (N := 6) hx hb hts iX0 hown hK hP xs4 rfl 3 (by decide) f_22 (fun _ h9 => h9) rfl dX0_acknowledgeFirst_2 ?_
  refine xg_calli (va_runV (As := [.int ((h 4 3))]) (rest := []) ⟨hx, hb, hml, hown, hts⟩ (c_X0_lineAt l hl9 hA (h 4 3) hw) (cwV 1 hts gX0_acknowledgeFirst_X0_lineAt rfl rfl rfl (by decide +kernel) ⟨Nat.le_of_ble_eq_true rfl, Nat.le_of_ble_eq_true rfl⟩) (xg_preV hB0 hP hK hN hS xs4 rfl) rfl rfl hl.1 rfl (lv_room (Nat.le_of_ble_eq_true rfl)) dX0_acknowledgeFirst_5 ⟨Nat.le_of_ble_eq_true rfl, Nat.le_of_ble_eq_true rfl⟩) hS (fun r1 h2 H locs hw hP hS => ?_)
  refine lv_istore_n (lv' := [(1, .int (r1)), (0, .ref (ad (4)))]) hx hb dX0_acknowledgeFirst_8 rfl hl (by decide) rfl (fun ls hl => ?_)
  refine lv_aload_n hx hb dX0_acknowledgeFirst_9 rfl (lv_at hl 1 rfl) ?_
  refine lv_dup hx hb dX0_acknowledgeFirst_10 rfl ?_
  refine xg_get (C := RX0) (TC := TX0) (N := 6) hx hb hts iX0 hown hK hP xs4 rfl 3 (by decide) f_22 (fun _ h9 => h9) rfl dX0_acknowledgeFirst_11 ?_
  refine lv_iconst (v := 1) hx hb dX0_acknowledgeFirst_14 (by decide) ?_
  refine lv_iadd hx hb dX0_acknowledgeFirst_15 ?_
  refine xg_put (C := RX0) (TC := TX0) (N := 6) hx hb hts iX0 tyX0 tyX0_ok nmX0 hown hK hP hA hS xs4 rfl 3 (by decide) f_22 (fun _ h9 => h9) rfl rfl (ty := .int) (by decide +kernel) rfl rfl dX0_acknowledgeFirst_16 (fun H locs h3 eh3 hP hS => ?_)
  have hw := hw h3 eh3
  refine lv_iload_n hx hb dX0_acknowledgeFirst_19 rfl (lv_at hl 0 rfl) ?_
  exact xg_irets hx hb hr rfl hlocks hB0 hP hK hN hS dX0_acknowledgeFirst_20 (by decide) (by decide) hw
set_option maxHeartbeats 4000000 in
set_option maxRecDepth 100000 in
theorem c_X0_loseConnection (l : Launch) (hl9 : l.stackTraces = false) {B0 : Nat} {ad : Nat → Nat} {D : va_G} {T : Nat → ClassId} (hA : XA B0 ad) {h : xH} {K : Unit → xH → Prop} (hw : w_X0_loseConnection h K) : XM l yX0_loseConnection wsX0_loseConnection ({ frames := 0, cells := 0, slots := 0, locals := 0 } : Room) B0 ad D T h [.ref (ad (4))] xev K 0 0 := by
  unfold XM
  refine Met.ofW (cc := cX0_loseConnection) (maxL := 1) (ret := none) (by decide) rfl ?_
  intro p e s m args below meth c s₁ B hml hv
  obtain ⟨rfl, hB0, hP, hK, hN⟩ := hv
  have hx := B.exec
  have hb := B.bytes
  have hr := B.returns
  have hts := atoms_spec (ws := wsX0_loseConnection) B.pre
  have hown : s.vm.findClass RX0 = some m.cls := findClass_of_methodNamed B.named
  have hlocks := B.notSynchronized
  have iX0 : ∀ w ∈ u_ws RX0 TX0 6, w ∈ wsX0_loseConnection := by decide +kernel
  have f_19 := hts (.fieldLink RX0 19 "LogSpooler$Forwarder" "firstQueued" "I") (by decide +kernel)
  have f_22 := hts (.fieldLink RX0 22 "LogSpooler$Forwarder" "acknowledgedOnes" "I") (by decide +kernel)
  have f_28 := hts (.fieldLink RX0 28 "LogSpooler$Forwarder" "isConnected" "Z") (by decide +kernel)
  have hS : va_S (fun q => B0 ≤ q) s.heap s.heap [] := va_S.rf
  have hl := lv_entry ([.ref (ad (4))]) (n := 1) (Nat.le_of_ble_eq_true rfl)
  rw [lg_entry_eq]
  generalize (lg_sl ([.ref (ad (4))]) ++ List.replicate (1 - (lg_sl ([.ref (ad (4))])).length) Slot.unset).toArray = ls at hl ⊢
  have hl : lv_has ls 1 [(0, .ref (ad (4)))] := hl
  unfold w_X0_loseConnection at hw
  refine lv_aload_n hx hb dX0_loseConnection_0 rfl (lv_at hl 0 rfl) ?_
  refine lv_iconst (v := 0) hx hb dX0_loseConnection_1 (by decide) ?_
  refine xg_put (C := RX0) (TC := TX0) (N := 6) hx hb hts iX0 tyX0 tyX0_ok nmX0 hown hK hP hA hS xs4 rfl 5 (by decide) f_28 (fun _ h9 => h9) rfl rfl (ty := .boolean) (by decide +kernel) rfl rfl dX0_loseConnection_2 (fun H locs h1 eh1 hP hS => ?_)
  have hw := hw h1 eh1
  refine lv_aload_n hx hb dX0_loseConnection_5 rfl (lv_at hl 0 rfl) ?_
  refine lv_aload_n hx hb dX0_loseConnection_6 rfl (lv_at hl 0 rfl) ?_
  refine xg_get (C := RX0) (TC := TX0) (N := 6) hx hb hts iX0 hown hK hP xs4 rfl 3 (by decide) f_22 (fun _ h9 => h9) rfl dX0_loseConnection_7 ?_
  refine xg_put (C := RX0) (TC := TX0) (N := 6) hx hb hts iX0 tyX0 tyX0_ok nmX0 hown hK hP hA hS xs4 rfl 2 (by decide) f_19 (fun _ h9 => h9) rfl rfl (ty := .int) (by decide +kernel) rfl rfl dX0_loseConnection_10 (fun H locs h2 eh2 hP hS => ?_)
  have hw := hw h2 eh2
  exact xg_vrets hx hb hr hlocks hB0 hP hK hN hS dX0_loseConnection_13 (by decide) (by decide) hw
set_option maxHeartbeats 4000000 in
set_option maxRecDepth 100000 in
theorem c_X1_isFull (l : Launch) (hl9 : l.stackTraces = false) {B0 : Nat} {ad : Nat → Nat} {D : va_G} {T : Nat → ClassId} (hA : XA B0 ad) {h : xH} {K : Int32 → xH → Prop} (hw : w_X1_isFull h K) : XM l yX1_isFull wsX1_isFull ({ frames := 0, cells := 0, slots := 0, locals := 0 } : Room) B0 ad D T h [.ref (ad (6))] xei K 0 0 := by
  unfold XM
  refine Met.ofW (cc := cX1_isFull) (maxL := 1) (ret := (some .boolean)) (by decide) rfl ?_
  intro p e s m args below meth c s₁ B hml hv
  obtain ⟨rfl, hB0, hP, hK, hN⟩ := hv
  have hx := B.exec
  have hb := B.bytes
  have hr := B.returns
  have hts := atoms_spec (ws := wsX1_isFull) B.pre
  have hown : s.vm.findClass RX1 = some m.cls := findClass_of_methodNamed B.named
  have hlocks := B.notSynchronized
  have iX1 : ∀ w ∈ u_ws RX1 TX1 3, w ∈ wsX1_isFull := by decide +kernel
  have f_18 := hts (.fieldLink RX1 18 "LogSpooler$Ledger" "entries" "I") (by decide +kernel)
  have hS : va_S (fun q => B0 ≤ q) s.heap s.heap [] := va_S.rf
  have hl := lv_entry ([.ref (ad (6))]) (n := 1) (Nat.le_of_ble_eq_true rfl)
  rw [lg_entry_eq]
  generalize (lg_sl ([.ref (ad (6))]) ++ List.replicate (1 - (lg_sl ([.ref (ad (6))])).length) Slot.unset).toArray = ls at hl ⊢
  have hl : lv_has ls 1 [(0, .ref (ad (6)))] := hl
  unfold w_X1_isFull at hw
  refine lv_aload_n hx hb dX1_isFull_0 rfl (lv_at hl 0 rfl) ?_
  refine xg_get (C := RX1) (TC := TX1) (N := 3) hx hb hts iX1 hown hK hP xs6 rfl 2 (by decide) f_18 (fun _ h9 => h9) rfl dX1_isFull_1 ?_
  refine lv_sipush (v := 400) hx hb dX1_isFull_4 (by decide) ?_
  refine lv_icmp_lt (tgt := 14) hx hb dX1_isFull_7 (by decide) (fun c1 => ?_) (fun c1 => ?_)
  · have hw := hw.1 c1
    refine lv_iconst (v := 0) hx hb dX1_isFull_14 (by decide) ?_
    exact xg_irets hx hb hr rfl hlocks hB0 hP hK hN hS dX1_isFull_15 (by decide) (by decide) hw
  · have hw := hw.2 c1
    refine lv_iconst (v := 1) hx hb dX1_isFull_10 (by decide) ?_
    refine lv_goto (tgt := 15) hx hb dX1_isFull_11 (by decide) ?_
    exact xg_irets hx hb hr rfl hlocks hB0 hP hK hN hS dX1_isFull_15 (by decide) (by decide) hw
set_option maxHeartbeats 4000000 in
set_option maxRecDepth 100000 in
theorem c_X1_has (l : Launch) (hl9 : l.stackTraces = false) {B0 : Nat} {ad : Nat → Nat} {D : va_G} {T : Nat → ClassId} (hA : XA B0 ad) (p0 : Int32) {h : xH} {K : Int32 → xH → Prop} (hw : w_X1_has p0 h K) : XM l yX1_has wsX1_has ({ frames := 0, cells := 0, slots := 0, locals := 0 } : Room) B0 ad D T h [.ref (ad (6)), .int (p0)] xei K 0 0 := by
  unfold XM
  refine Met.ofW (cc := cX1_has) (maxL := 2) (ret := (some .boolean)) (by decide) rfl ?_
  intro p e s m args below meth c s₁ B hml hv
  obtain ⟨rfl, hB0, hP, hK, hN⟩ := hv
  have hx := B.exec
  have hb := B.bytes
  have hr := B.returns
  have hts := atoms_spec (ws := wsX1_has) B.pre
  have hown : s.vm.findClass RX1 = some m.cls := findClass_of_methodNamed B.named
  have hlocks := B.notSynchronized
  have iX1 : ∀ w ∈ u_ws RX1 TX1 3, w ∈ wsX1_has := by decide +kernel
  have f_18 := hts (.fieldLink RX1 18 "LogSpooler$Ledger" "entries" "I") (by decide +kernel)
  have hS : va_S (fun q => B0 ≤ q) s.heap s.heap [] := va_S.rf
  have hl := lv_entry ([.ref (ad (6)), .int (p0)]) (n := 2) (Nat.le_of_ble_eq_true rfl)
  rw [lg_entry_eq]
  generalize (lg_sl ([.ref (ad (6)), .int (p0)]) ++ List.replicate (2 - (lg_sl ([.ref (ad (6)), .int (p0)])).length) Slot.unset).toArray = ls at hl ⊢
  have hl : lv_has ls 2 [(0, .ref (ad (6))), (1, .int (p0))] := hl
  unfold w_X1_has at hw
  refine lv_iload_n hx hb dX1_has_0 rfl (lv_at hl 1 rfl) ?_
  refine lv_if_lt (tgt := 16) hx hb dX1_has_1 (by decide) (fun c1 => ?_) (fun c1 => ?_)
  · have hw := hw.1 c1
    refine lv_iconst (v := 0) hx hb dX1_has_16 (by decide) ?_
    exact xg_irets hx hb hr rfl hlocks hB0 hP hK hN hS dX1_has_17 (by decide) (by decide) hw
  · have hw := hw.2 c1
    refine lv_iload_n hx hb dX1_has_4 rfl (lv_at hl 1 rfl) ?_
    refine lv_aload_n hx hb dX1_has_5 rfl (lv_at hl 0 rfl) ?_
    refine xg_get (C := RX1) (TC := TX1) (N := 3) hx hb hts iX1 hown hK hP xs6 rfl 2 (by decide) f_18 (fun _ h9 => h9) rfl dX1_has_6 ?_
    refine lv_icmp_ge (tgt := 16) hx hb dX1_has_9 (by decide) (fun c2 => ?_) (fun c2 => ?_)
    · have hw := hw.1 c2
      refine lv_iconst (v := 0) hx hb dX1_has_16 (by decide) ?_
      exact xg_irets hx hb hr rfl hlocks hB0 hP hK hN hS dX1_has_17 (by decide) (by decide) hw
    · have hw := hw.2 c2
      refine lv_iconst (v := 1) hx hb dX1_has_12 (by decide) ?_
      refine lv_goto (tgt := 17) hx hb dX1_has_13 (by decide) ?_
      exact xg_irets hx hb hr rfl hlocks hB0 hP hK hN hS dX1_has_17 (by decide) (by decide) hw
set_option maxHeartbeats 4000000 in
set_option maxRecDepth 100000 in
theorem c_X1_enter (l : Launch) (hl9 : l.stackTraces = false) {B0 : Nat} {ad : Nat → Nat} {D : va_G} {T : Nat → ClassId} (hA : XA B0 ad) (p0 : Int32) (p1 : Int32) {h : xH} {K : Int32 → xH → Prop} (hw : w_X1_enter p0 p1 h K) : XM l yX1_enter wsX1_enter ({ frames := 0, cells := 0, slots := 0, locals := 0 } : Room) B0 ad D T h [.ref (ad (6)), .int (p0), .int (p1)] xei K 0 0 := by
  unfold XM
  refine Met.ofW (cc := cX1_enter) (maxL := 3) (ret := (some .int)) (by decide) rfl ?_
  intro p e s m args below meth c s₁ B hml hv
  obtain ⟨rfl, hB0, hP, hK, hN⟩ := hv
  have hx := B.exec
  have hb := B.bytes
  have hr := B.returns
  have hts := atoms_spec (ws := wsX1_enter) B.pre
  have hown : s.vm.findClass RX1 = some m.cls := findClass_of_methodNamed B.named
  have hlocks := B.notSynchronized
  have iX1 : ∀ w ∈ u_ws RX1 TX1 3, w ∈ wsX1_enter := by decide +kernel
  have f_9 := hts (.fieldLink RX1 9 "LogSpooler$Ledger" "fates" "[I") (by decide +kernel)
  have f_15 := hts (.fieldLink RX1 15 "LogSpooler$Ledger" "targetSets" "[I") (by decide +kernel)
  have f_18 := hts (.fieldLink RX1 18 "LogSpooler$Ledger" "entries" "I") (by decide +kernel)
  have hS : va_S (fun q => B0 ≤ q) s.heap s.heap [] := va_S.rf
  have hl := lv_entry ([.ref (ad (6)), .int (p0), .int (p1)]) (n := 3) (Nat.le_of_ble_eq_true rfl)
  rw [lg_entry_eq]
  generalize (lg_sl ([.ref (ad (6)), .int (p0), .int (p1)]) ++ List.replicate (3 - (lg_sl ([.ref (ad (6)), .int (p0), .int (p1)])).length) Slot.unset).toArray = ls at hl ⊢
  have hl : lv_has ls 3 [(0, .ref (ad (6))), (1, .int (p0)), (2, .int (p1))] := hl
  unfold w_X1_enter at hw
  refine lv_aload_n hx hb dX1_enter_0 rfl (lv_at hl 0 rfl) ?_
  refine xg_get (C := RX1) (TC := TX1) (N := 3) hx hb hts iX1 hown hK hP xs6 rfl 2 (by decide) f_18 (fun _ h9 => h9) rfl dX1_enter_1 ?_
  refine lv_if_lt (tgt := 47) hx hb dX1_enter_4 (by decide) (fun c1 => ?_) (fun c1 => ?_)
  · have hw := hw.1 c1
    refine lv_iload_n hx hb dX1_enter_47 rfl (lv_at hl 1 rfl) ?_
    exact xg_irets hx hb hr rfl hlocks hB0 hP hK hN hS dX1_enter_48 (by decide) (by decide) hw
  · have hw := hw.2 c1
    refine lv_aload_n hx hb dX1_enter_7 rfl (lv_at hl 0 rfl) ?_
    refine xg_get (C := RX1) (TC := TX1) (N := 3) hx hb hts iX1 hown hK hP xs6 rfl 2 (by decide) f_18 (fun _ h9 => h9) rfl dX1_enter_8 ?_
    refine lv_sipush (v := 400) hx hb dX1_enter_11 (by decide) ?_
    refine lv_icmp_ge (tgt := 47) hx hb dX1_enter_14 (by decide) (fun c2 => ?_) (fun c2 => ?_)
    · have hw := hw.1 c2
      refine lv_iload_n hx hb dX1_enter_47 rfl (lv_at hl 1 rfl) ?_
      exact xg_irets hx hb hr rfl hlocks hB0 hP hK hN hS dX1_enter_48 (by decide) (by decide) hw
    · have hw := hw.2 c2
      refine lv_aload_n hx hb dX1_enter_17 rfl (lv_at hl 0 rfl) ?_
      refine xg_getr (C := RX1) (TC := TX1) (N := 3) hx hb hts iX1 hown hK hP xs6 rfl 0 (by decide) f_9 (fun _ h9 => h9) rfl dX1_enter_18 ?_
      refine lv_aload_n hx hb dX1_enter_21 rfl (lv_at hl 0 rfl) ?_
      refine xg_get (C := RX1) (TC := TX1) (N := 3) hx hb hts iX1 hown hK hP xs6 rfl 2 (by decide) f_18 (fun _ h9 => h9) rfl dX1_enter_22 ?_
      refine lv_iload_n hx hb dX1_enter_25 rfl (lv_at hl 1 rfl) ?_
      obtain ⟨hi3, hw⟩ := hw
      refine xg_iast hx hb hK hP hA hS xs7 hi3 dX1_enter_26 (fun H locs h4 eh4 hP hS => ?_)
      have hw := hw h4 eh4
      refine lv_aload_n hx hb dX1_enter_27 rfl (lv_at hl 0 rfl) ?_
      refine xg_getr (C := RX1) (TC := TX1) (N := 3) hx hb hts iX1 hown hK hP xs6 rfl 1 (by decide) f_15 (fun _ h9 => h9) rfl dX1_enter_28 ?_
      refine lv_aload_n hx hb dX1_enter_31 rfl (lv_at hl 0 rfl) ?_
      refine xg_get (C := RX1) (TC := TX1) (N := 3) hx hb hts iX1 hown hK hP xs6 rfl 2 (by decide) f_18 (fun _ h9 => h9) rfl dX1_enter_32 ?_
      refine lv_iload_n hx hb dX1_enter_35 rfl (lv_at hl 2 rfl) ?_
      obtain ⟨hi5, hw⟩ := hw
      refine xg_iast hx hb hK hP hA hS xs8 hi5 dX1_enter_36 (fun H locs h6 eh6 hP hS => ?_)
      have hw := hw h6 eh6
      refine lv_aload_n hx hb dX1_enter_37 rfl (lv_at hl 0 rfl) ?_
      refine lv_dup hx hb dX1_enter_38 rfl ?_
      refine xg_get (C := RX1) (TC := TX1) (N := 3) hx hb hts iX1 hown hK hP xs6 rfl 2 (by decide) f_18 (fun _ h9 => h9) rfl dX1_enter_39 ?_
      refine lv_iconst (v := 1) hx hb dX1_enter_42 (by decide) ?_
      refine lv_iadd hx hb dX1_enter_43 ?_
      refine xg_put (C := RX1) (TC := TX1) (N := 3) hx hb hts iX1 tyX1 tyX1_ok nmX1 hown hK hP hA hS xs6 rfl 2 (by decide) f_18 (fun _ h9 => h9) rfl rfl (ty := .int) (by decide +kernel) rfl rfl dX1_enter_44 (fun H locs h7 eh7 hP hS => ?_)
      have hw := hw h7 eh7
      refine lv_iload_n hx hb dX1_enter_47 rfl (lv_at hl 1 rfl) ?_
      exact xg_irets hx hb hr rfl hlocks hB0 hP hK hN hS dX1_enter_48 (by decide) (by decide) hw
set_option maxHeartbeats 4000000 in
set_option maxRecDepth 100000 in
theorem c_X1_fateAt (l : Launch) (hl9 : l.stackTraces = false) {B0 : Nat} {ad : Nat → Nat} {D : va_G} {T : Nat → ClassId} (hA : XA B0 ad) (p0 : Int32) {h : xH} {K : Int32 → xH → Prop} (hw : w_X1_fateAt p0 h K) : XM l yX1_fateAt wsX1_fateAt ({ frames := 0, cells := 0, slots := 0, locals := 0 } : Room) B0 ad D T h [.ref (ad (6)), .int (p0)] xei K 0 0 := by
  unfold XM
  refine Met.ofW (cc := cX1_fateAt) (maxL := 2) (ret := (some .int)) (by decide) rfl ?_
  intro p e s m args below meth c s₁ B hml hv
  obtain ⟨rfl, hB0, hP, hK, hN⟩ := hv
  have hx := B.exec
  have hb := B.bytes
  have hr := B.returns
  have hts := atoms_spec (ws := wsX1_fateAt) B.pre
  have hown : s.vm.findClass RX1 = some m.cls := findClass_of_methodNamed B.named
  have hlocks := B.notSynchronized
  have iX1 : ∀ w ∈ u_ws RX1 TX1 3, w ∈ wsX1_fateAt := by decide +kernel
  have f_9 := hts (.fieldLink RX1 9 "LogSpooler$Ledger" "fates" "[I") (by decide +kernel)
  have hS : va_S (fun q => B0 ≤ q) s.heap s.heap [] := va_S.rf
  have hl := lv_entry ([.ref (ad (6)), .int (p0)]) (n := 2) (Nat.le_of_ble_eq_true rfl)
  rw [lg_entry_eq]
  generalize (lg_sl ([.ref (ad (6)), .int (p0)]) ++ List.replicate (2 - (lg_sl ([.ref (ad (6)), .int (p0)])).length) Slot.unset).toArray = ls at hl ⊢
  have hl : lv_has ls 2 [(0, .ref (ad (6))), (1, .int (p0))] := hl
  unfold w_X1_fateAt at hw
  refine lv_iload_n hx hb dX1_fateAt_0 rfl (lv_at hl 1 rfl) ?_
  refine lv_if_lt (tgt := 20) hx hb dX1_fateAt_1 (by decide) (fun c1 => ?_) (fun c1 => ?_)
  · have hw := hw.1 c1
    refine lv_iconst (v := (-1)) hx hb dX1_fateAt_20 (by decide) ?_
    exact xg_irets hx hb hr rfl hlocks hB0 hP hK hN hS dX1_fateAt_21 (by decide) (by decide) hw
  · have hw := hw.2 c1
    refine lv_iload_n hx hb dX1_fateAt_4 rfl (lv_at hl 1 rfl) ?_
    refine lv_sipush (v := 400) hx hb dX1_fateAt_5 (by decide) ?_
    refine lv_icmp_ge (tgt := 20) hx hb dX1_fateAt_8 (by decide) (fun c2 => ?_) (fun c2 => ?_)
    · have hw := hw.1 c2
      refine lv_iconst (v := (-1)) hx hb dX1_fateAt_20 (by decide) ?_
      exact xg_irets hx hb hr rfl hlocks hB0 hP hK hN hS dX1_fateAt_21 (by decide) (by decide) hw
    · have hw := hw.2 c2
      refine lv_aload_n hx hb dX1_fateAt_11 rfl (lv_at hl 0 rfl) ?_
      refine xg_getr (C := RX1) (TC := TX1) (N := 3) hx hb hts iX1 hown hK hP xs6 rfl 0 (by decide) f_9 (fun _ h9 => h9) rfl dX1_fateAt_12 ?_
      refine lv_iload_n hx hb dX1_fateAt_15 rfl (lv_at hl 1 rfl) ?_
      obtain ⟨hi3, hw⟩ := hw
      refine xg_iald hx hb hK hP xs7 hi3 dX1_fateAt_16 ?_
      refine lv_goto (tgt := 21) hx hb dX1_fateAt_17 (by decide) ?_
      exact xg_irets hx hb hr rfl hlocks hB0 hP hK hN hS dX1_fateAt_21 (by decide) (by decide) hw
set_option maxHeartbeats 4000000 in
set_option maxRecDepth 100000 in
theorem c_X1_targetsAt (l : Launch) (hl9 : l.stackTraces = false) {B0 : Nat} {ad : Nat → Nat} {D : va_G} {T : Nat → ClassId} (hA : XA B0 ad) (p0 : Int32) {h : xH} {K : Int32 → xH → Prop} (hw : w_X1_targetsAt p0 h K) : XM l yX1_targetsAt wsX1_targetsAt ({ frames := 0, cells := 0, slots := 0, locals := 0 } : Room) B0 ad D T h [.ref (ad (6)), .int (p0)] xei K 0 0 := by
  unfold XM
  refine Met.ofW (cc := cX1_targetsAt) (maxL := 2) (ret := (some .int)) (by decide) rfl ?_
  intro p e s m args below meth c s₁ B hml hv
  obtain ⟨rfl, hB0, hP, hK, hN⟩ := hv
  have hx := B.exec
  have hb := B.bytes
  have hr := B.returns
  have hts := atoms_spec (ws := wsX1_targetsAt) B.pre
  have hown : s.vm.findClass RX1 = some m.cls := findClass_of_methodNamed B.named
  have hlocks := B.notSynchronized
  have iX1 : ∀ w ∈ u_ws RX1 TX1 3, w ∈ wsX1_targetsAt := by decide +kernel
  have f_15 := hts (.fieldLink RX1 15 "LogSpooler$Ledger" "targetSets" "[I") (by decide +kernel)
  have hS : va_S (fun q => B0 ≤ q) s.heap s.heap [] := va_S.rf
  have hl := lv_entry ([.ref (ad (6)), .int (p0)]) (n := 2) (Nat.le_of_ble_eq_true rfl)
  rw [lg_entry_eq]
  generalize (lg_sl ([.ref (ad (6)), .int (p0)]) ++ List.replicate (2 - (lg_sl ([.ref (ad (6)), .int (p0)])).length) Slot.unset).toArray = ls at hl ⊢
  have hl : lv_has ls 2 [(0, .ref (ad (6))), (1, .int (p0))] := hl
  unfold w_X1_targetsAt at hw
  refine lv_iload_n hx hb dX1_targetsAt_0 rfl (lv_at hl 1 rfl) ?_
  refine lv_if_lt (tgt := 20) hx hb dX1_targetsAt_1 (by decide) (fun c1 => ?_) (fun c1 => ?_)
  · have hw := hw.1 c1
    refine lv_iconst (v := 0) hx hb dX1_targetsAt_20 (by decide) ?_
    exact xg_irets hx hb hr rfl hlocks hB0 hP hK hN hS dX1_targetsAt_21 (by decide) (by decide) hw
  · have hw := hw.2 c1
    refine lv_iload_n hx hb dX1_targetsAt_4 rfl (lv_at hl 1 rfl) ?_
    refine lv_sipush (v := 400) hx hb dX1_targetsAt_5 (by decide) ?_
    refine lv_icmp_ge (tgt := 20) hx hb dX1_targetsAt_8 (by decide) (fun c2 => ?_) (fun c2 => ?_)
    · have hw := hw.1 c2
      refine lv_iconst (v := 0) hx hb dX1_targetsAt_20 (by decide) ?_
      exact xg_irets hx hb hr rfl hlocks hB0 hP hK hN hS dX1_targetsAt_21 (by decide) (by decide) hw
    · have hw := hw.2 c2
      refine lv_aload_n hx hb dX1_targetsAt_11 rfl (lv_at hl 0 rfl) ?_
      refine xg_getr (C := RX1) (TC := TX1) (N := 3) hx hb hts iX1 hown hK hP xs6 rfl 1 (by decide) f_15 (fun _ h9 => h9) rfl dX1_targetsAt_12 ?_
      refine lv_iload_n hx hb dX1_targetsAt_15 rfl (lv_at hl 1 rfl) ?_
      obtain ⟨hi3, hw⟩ := hw
      refine xg_iald hx hb hK hP xs8 hi3 dX1_targetsAt_16 ?_
      refine lv_goto (tgt := 21) hx hb dX1_targetsAt_17 (by decide) ?_
      exact xg_irets hx hb hr rfl hlocks hB0 hP hK hN hS dX1_targetsAt_21 (by decide) (by decide) hw
set_option maxHeartbeats 4000000 in
set_option maxRecDepth 100000 in
theorem c_X1_entriesWith (l : Launch) (hl9 : l.stackTraces = false) {B0 : Nat} {ad : Nat → Nat} {D : va_G} {T : Nat → ClassId} (hA : XA B0 ad) (p0 : Int32) {h : xH} {K : Int32 → xH → Prop} (hw : w_X1_entriesWith p0 h K) : XM l yX1_entriesWith wsX1_entriesWith ({ frames := 0, cells := 0, slots := 0, locals := 0 } : Room) B0 ad D T h [.ref (ad (6)), .int (p0)] xei K 0 0 := by
  unfold XM
  refine Met.ofW (cc := cX1_entriesWith) (maxL := 4) (ret := (some .int)) (by decide) rfl ?_
  intro p e s m args below meth c s₁ B hml hv
  obtain ⟨rfl, hB0, hP, hK, hN⟩ := hv
  have hx := B.exec
  have hb := B.bytes
  have hr := B.returns
  have hts := atoms_spec (ws := wsX1_entriesWith) B.pre
  have hown : s.vm.findClass RX1 = some m.cls := findClass_of_methodNamed B.named
  have hlocks := B.notSynchronized
  have iX1 : ∀ w ∈ u_ws RX1 TX1 3, w ∈ wsX1_entriesWith := by decide +kernel
  have f_9 := hts (.fieldLink RX1 9 "LogSpooler$Ledger" "fates" "[I") (by decide +kernel)
  have f_18 := hts (.fieldLink RX1 18 "LogSpooler$Ledger" "entries" "I") (by decide +kernel)
  have hS : va_S (fun q => B0 ≤ q) s.heap s.heap [] := va_S.rf
  have hl := lv_entry ([.ref (ad (6)), .int (p0)]) (n := 4) (Nat.le_of_ble_eq_true rfl)
  rw [lg_entry_eq]
  generalize (lg_sl ([.ref (ad (6)), .int (p0)]) ++ List.replicate (4 - (lg_sl ([.ref (ad (6)), .int (p0)])).length) Slot.unset).toArray = ls at hl ⊢
  have hl : lv_has ls 4 [(0, .ref (ad (6))), (1, .int (p0))] := hl
  have j_32 : ∀ (R9 : Int32 → Int32 → xH → Prop) (hR9 : ∀ (v2 : Int32) (v3 : Int32) (h : xH) (H : Heap) (locs : List Loc) (ls : Array Slot), R9 v2 v3 h → XP ad D T h H → va_S (fun q => B0 ≤ q) s.heap H locs → lv_has ls 4 [(0, .ref (ad (6))), (1, .int (p0)), (2, .int (v2)), (3, .int (v3))] → W p l e (headSpec wsX1_entriesWith ({ frames := 0, cells := 0, slots := 0, locals := 0 } : Room)).room s m ([.ref (ad (6)), .int (p0)] : List Value).toArray below meth c H locs 0 0 (MQ below (XQ B0 ad D T xei K) ([.ref (ad (6)), .int (p0)] : List Value).toArray s 0 0 (fun q => B0 ≤ q)) (F0 m 4 ls [])) (v2 : Int32) (v3 : Int32) (h : xH) (H : Heap) (locs : List Loc) (ls : Array Slot), w_X1_entriesWith_32 p0 K R9 v2 v3 h → XP ad D T h H → va_S (fun q => B0 ≤ q) s.heap H locs → lv_has ls 4 [(0, .ref (ad (6))), (1, .int (p0)), (2, .int (v2)), (3, .int (v3))] → W p l e (headSpec wsX1_entriesWith ({ frames := 0, cells := 0, slots := 0, locals := 0 } : Room)).room s m ([.ref (ad (6)), .int (p0)] : List Value).toArray below meth c H locs 0 0 (MQ below (XQ B0 ad D T xei K) ([.ref (ad (6)), .int (p0)] : List Value).toArray s 0 0 (fun q => B0 ≤ q)) (F0 m 32 ls []) := by
    intro R9 hR9 v2 v3 h H locs ls hw hP hS hl 
    unfold w_X1_entriesWith_32 at hw
    obtain ⟨x6, ex6⟩ : ∃ z : Int32, z = v3 + 1 := ⟨_, rfl⟩
    have hw := hw x6 ex6
    refine lv_iinc (v := x6) (lv' := [(3, .int (x6)), (0, .ref (ad (6))), (1, .int (p0)), (2, .int (v2))]) hx hb dX1_entriesWith_32 hl (k := 3) rfl (by rw [ex6]; rfl) (by decide) rfl (fun ls hl => ?_)
    refine lv_goto (tgt := 4) hx hb dX1_entriesWith_35 (by decide) ?_
    exact hR9 (v2) (x6) _ _ _ _ hw hP hS (lv_sub hl [1, 2, 3, 0] rfl)
  have j_4 : ∀ (n : Nat) (v2 : Int32) (v3 : Int32) (h : xH) (H : Heap) (locs : List Loc) (ls : Array Slot), w_X1_entriesWith_4 p0 K n v2 v3 h → XP ad D T h H → va_S (fun q => B0 ≤ q) s.heap H locs → lv_has ls 4 [(0, .ref (ad (6))), (1, .int (p0)), (2, .int (v2)), (3, .int (v3))] → W p l e (headSpec wsX1_entriesWith ({ frames := 0, cells := 0, slots := 0, locals := 0 } : Room)).room s m ([.ref (ad (6)), .int (p0)] : List Value).toArray below meth c H locs 0 0 (MQ below (XQ B0 ad D T xei K) ([.ref (ad (6)), .int (p0)] : List Value).toArray s 0 0 (fun q => B0 ≤ q)) (F0 m 4 ls []) := by
    intro n
    induction n with
    | zero => intro v2 v3 h H locs ls hw; exact hw.elim
    | succ n9 ih =>
      intro v2 v3 h H locs ls hw hP hS hl 
      rw [w_X1_entriesWith_4_s] at hw
      refine lv_iload_n hx hb dX1_entriesWith_4 rfl (lv_at hl 3 rfl) ?_
      refine lv_aload_n hx hb dX1_entriesWith_5 rfl (lv_at hl 0 rfl) ?_
      refine xg_get (C := RX1) (TC := TX1) (N := 3) hx hb hts iX1 hown hK hP xs6 rfl 2 (by decide) f_18 (fun _ h9 => h9) rfl dX1_entriesWith_6 ?_
      refine lv_icmp_ge (tgt := 38) hx hb dX1_entriesWith_9 (by decide) (fun c1 => ?_) (fun c1 => ?_)
      · have hw := hw.1 c1
        refine lv_iload_n hx hb dX1_entriesWith_38 rfl (lv_at hl 2 rfl) ?_
        exact xg_irets hx hb hr rfl hlocks hB0 hP hK hN hS dX1_entriesWith_39 (by decide) (by decide) hw
      · have hw := hw.2 c1
        refine lv_iload_n hx hb dX1_entriesWith_12 rfl (lv_at hl 3 rfl) ?_
        refine lv_sipush (v := 400) hx hb dX1_entriesWith_13 (by decide) ?_
        refine lv_icmp_ge (tgt := 38) hx hb dX1_entriesWith_16 (by decide) (fun c2 => ?_) (fun c2 => ?_)
        · have hw := hw.1 c2
          refine lv_iload_n hx hb dX1_entriesWith_38 rfl (lv_at hl 2 rfl) ?_
          exact xg_irets hx hb hr rfl hlocks hB0 hP hK hN hS dX1_entriesWith_39 (by decide) (by decide) hw
        · have hw := hw.2 c2
          refine lv_aload_n hx hb dX1_entriesWith_19 rfl (lv_at hl 0 rfl) ?_
          refine xg_getr (C := RX1) (TC := TX1) (N := 3) hx hb hts iX1 hown hK hP xs6 rfl 0 (by decide) f_9 (fun _ h9 => h9) rfl dX1_entriesWith_20 ?_
          refine lv_iload_n hx hb dX1_entriesWith_23 rfl (lv_at hl 3 rfl) ?_
          obtain ⟨hi3, hw⟩ := hw
          refine xg_iald hx hb hK hP xs7 hi3 dX1_entriesWith_24 ?_
          refine lv_iload_n hx hb dX1_entriesWith_25 rfl (lv_at hl 1 rfl) ?_
          refine lv_icmp_ne (tgt := 32) hx hb dX1_entriesWith_26 (by decide) (fun c4 => ?_) (fun c4 => ?_)
          · have hw := hw.2 c4
            exact j_32 _ (ih) (v2) (v3) _ _ _ _ hw hP hS (lv_sub hl [0, 1, 2, 3] rfl)
          · have hw := hw.1 c4
            obtain ⟨x5, ex5⟩ : ∃ z : Int32, z = v2 + 1 := ⟨_, rfl⟩
            have hw := hw x5 ex5
            refine lv_iinc (v := x5) (lv' := [(2, .int (x5)), (0, .ref (ad (6))), (1, .int (p0)), (3, .int (v3))]) hx hb dX1_entriesWith_29 hl (k := 2) rfl (by rw [ex5]; rfl) (by decide) rfl (fun ls hl => ?_)
            exact j_32 _ (ih) (x5) (v3) _ _ _ _ hw hP hS (lv_sub hl [1, 2, 0, 3] rfl)
  unfold w_X1_entriesWith at hw
  refine lv_iconst (v := 0) hx hb dX1_entriesWith_0 (by decide) ?_
  refine lv_istore_n (lv' := [(2, .int (0)), (0, .ref (ad (6))), (1, .int (p0))]) hx hb dX1_entriesWith_1 rfl hl (by decide) rfl (fun ls hl => ?_)
  refine lv_iconst (v := 0) hx hb dX1_entriesWith_2 (by decide) ?_
  refine lv_istore_n (lv' := [(3, .int (0)), (2, .int (0)), (0, .ref (ad (6))), (1, .int (p0))]) hx hb dX1_entriesWith_3 rfl hl (by decide) rfl (fun ls hl => ?_)
  obtain ⟨n9, hw⟩ := hw
  exact j_4 n9 (0) (0) _ _ _ _ hw hP hS (lv_sub hl [2, 3, 1, 0] rfl)
set_option maxHeartbeats 4000000 in
set_option maxRecDepth 100000 in
theorem c_X2_limit (l : Launch) (hl9 : l.stackTraces = false) {B0 : Nat} {ad : Nat → Nat} {D : va_G} {T : Nat → ClassId} (hA : XA B0 ad) (k : Nat) (hk : 30 ≤ k ∧ k < 34) (p0 : Int32) (p1 : Int32) (p2 : Int32) {h : xH} {K : Unit → xH → Prop} (hw : w_X2_limit k p0 p1 p2 h K) : XM l yX2_limit wsX2_limit ({ frames := 0, cells := 0, slots := 0, locals := 0 } : Room) B0 ad D T h [.ref (ad (k)), .int (p0), .int (p1), .int (p2)] xev K 0 0 := by
  unfold XM
  refine Met.ofW (cc := cX2_limit) (maxL := 4) (ret := none) (by decide) rfl ?_
  intro p e s m args below meth c s₁ B hml hv
  obtain ⟨rfl, hB0, hP, hK, hN⟩ := hv
  have hx := B.exec
  have hb := B.bytes
  have hr := B.returns
  have hts := atoms_spec (ws := wsX2_limit) B.pre
  have hown : s.vm.findClass RX2 = some m.cls := findClass_of_methodNamed B.named
  have hlocks := B.notSynchronized
  have iX2 : ∀ w ∈ u_ws RX2 TX2 10, w ∈ wsX2_limit := by decide +kernel
  have f_22 := hts (.fieldLink RX2 22 "LogSpooler$LogFile" "greatestSize" "I") (by decide +kernel)
  have f_25 := hts (.fieldLink RX2 25 "LogSpooler$LogFile" "age" "I") (by decide +kernel)
  have f_28 := hts (.fieldLink RX2 28 "LogSpooler$LogFile" "kept" "I") (by decide +kernel)
  have f_37 := hts (.fieldLink RX2 37 "LogSpooler$LogFile" "olderOnes" "I") (by decide +kernel)
  have hS : va_S (fun q => B0 ≤ q) s.heap s.heap [] := va_S.rf
  have hl := lv_entry ([.ref (ad (k)), .int (p0), .int (p1), .int (p2)]) (n := 4) (Nat.le_of_ble_eq_true rfl)
  rw [lg_entry_eq]
  generalize (lg_sl ([.ref (ad (k)), .int (p0), .int (p1), .int (p2)]) ++ List.replicate (4 - (lg_sl ([.ref (ad (k)), .int (p0), .int (p1), .int (p2)])).length) Slot.unset).toArray = ls at hl ⊢
  have hl : lv_has ls 4 [(0, .ref (ad (k))), (1, .int (p0)), (2, .int (p1)), (3, .int (p2))] := hl
  unfold w_X2_limit at hw
  refine lv_aload_n hx hb dX2_limit_0 rfl (lv_at hl 0 rfl) ?_
  refine lv_iload_n hx hb dX2_limit_1 rfl (lv_at hl 1 rfl) ?_
  refine xg_put (C := RX2) (TC := TX2) (N := 10) hx hb hts iX2 tyX2 tyX2_ok nmX2 hown hK hP hA hS (xsF hk) rfl 3 (by decide) f_22 (fun _ h9 => h9) rfl rfl (ty := .int) (by decide +kernel) rfl rfl dX2_limit_2 (fun H locs h1 eh1 hP hS => ?_)
  have hw := hw h1 eh1
  refine lv_aload_n hx hb dX2_limit_5 rfl (lv_at hl 0 rfl) ?_
  refine lv_iload_n hx hb dX2_limit_6 rfl (lv_at hl 2 rfl) ?_
  refine xg_put (C := RX2) (TC := TX2) (N := 10) hx hb hts iX2 tyX2 tyX2_ok nmX2 hown hK hP hA hS (xsF hk) rfl 4 (by decide) f_25 (fun _ h9 => h9) rfl rfl (ty := .int) (by decide +kernel) rfl rfl dX2_limit_7 (fun H locs h2 eh2 hP hS => ?_)
  have hw := hw h2 eh2
  refine lv_aload_n hx hb dX2_limit_10 rfl (lv_at hl 0 rfl) ?_
  refine lv_iload_n hx hb dX2_limit_11 rfl (lv_at hl 3 rfl) ?_
  refine xg_put (C := RX2) (TC := TX2) (N := 10) hx hb hts iX2 tyX2 tyX2_ok nmX2 hown hK hP hA hS (xsF hk) rfl 5 (by decide) f_28 (fun _ h9 => h9) rfl rfl (ty := .int) (by decide +kernel) rfl rfl dX2_limit_12 (fun H locs h3 eh3 hP hS => ?_)
  have hw := hw h3 eh3
  refine lv_aload_n hx hb dX2_limit_15 rfl (lv_at hl 0 rfl) ?_
  refine xg_get (C := RX2) (TC := TX2) (N := 10) hx hb hts iX2 hown hK hP (xsF hk) rfl 8 (by decide) f_37 (fun _ h9 => h9) rfl dX2_limit_16 ?_
  refine lv_iload_n hx hb dX2_limit_19 rfl (lv_at hl 3 rfl) ?_
  refine lv_icmp_le (tgt := 28) hx hb dX2_limit_20 (by decide) (fun c4 => ?_) (fun c4 => ?_)
  · have hw := hw.1 c4
    exact xg_vrets hx hb hr hlocks hB0 hP hK hN hS dX2_limit_28 (by decide) (by decide) hw
  · have hw := hw.2 c4
    refine lv_aload_n hx hb dX2_limit_23 rfl (lv_at hl 0 rfl) ?_
    refine lv_iload_n hx hb dX2_limit_24 rfl (lv_at hl 3 rfl) ?_
    refine xg_put (C := RX2) (TC := TX2) (N := 10) hx hb hts iX2 tyX2 tyX2_ok nmX2 hown hK hP hA hS (xsF hk) rfl 8 (by decide) f_37 (fun _ h9 => h9) rfl rfl (ty := .int) (by decide +kernel) rfl rfl dX2_limit_25 (fun H locs h5 eh5 hP hS => ?_)
    have hw := hw h5 eh5
    exact xg_vrets hx hb hr hlocks hB0 hP hK hN hS dX2_limit_28 (by decide) (by decide) hw
set_option maxHeartbeats 4000000 in
set_option maxRecDepth 100000 in
theorem c_X2_isEmpty (l : Launch) (hl9 : l.stackTraces = false) {B0 : Nat} {ad : Nat → Nat} {D : va_G} {T : Nat → ClassId} (hA : XA B0 ad) (k : Nat) (hk : 30 ≤ k ∧ k < 34) {h : xH} {K : Int32 → xH → Prop} (hw : w_X2_isEmpty k h K) : XM l yX2_isEmpty wsX2_isEmpty ({ frames := 0, cells := 0, slots := 0, locals := 0 } : Room) B0 ad D T h [.ref (ad (k))] xei K 0 0 := by
  unfold XM
  refine Met.ofW (cc := cX2_isEmpty) (maxL := 1) (ret := (some .boolean)) (by decide) rfl ?_
  intro p e s m args below meth c s₁ B hml hv
  obtain ⟨rfl, hB0, hP, hK, hN⟩ := hv
  have hx := B.exec
  have hb := B.bytes
  have hr := B.returns
  have hts := atoms_spec (ws := wsX2_isEmpty) B.pre
  have hown : s.vm.findClass RX2 = some m.cls := findClass_of_methodNamed B.named
  have hlocks := B.notSynchronized
  have iX2 : ∀ w ∈ u_ws RX2 TX2 10, w ∈ wsX2_isEmpty := by decide +kernel
  have f_15 := hts (.fieldLink RX2 15 "LogSpooler$LogFile" "starts" "[I") (by decide +kernel)
  have f_18 := hts (.fieldLink RX2 18 "LogSpooler$LogFile" "end" "I") (by decide +kernel)
  have hS : va_S (fun q => B0 ≤ q) s.heap s.heap [] := va_S.rf
  have hl := lv_entry ([.ref (ad (k))]) (n := 1) (Nat.le_of_ble_eq_true rfl)
  rw [lg_entry_eq]
  generalize (lg_sl ([.ref (ad (k))]) ++ List.replicate (1 - (lg_sl ([.ref (ad (k))])).length) Slot.unset).toArray = ls at hl ⊢
  have hl : lv_has ls 1 [(0, .ref (ad (k)))] := hl
  unfold w_X2_isEmpty at hw
  refine lv_aload_n hx hb dX2_isEmpty_0 rfl (lv_at hl 0 rfl) ?_
  refine xg_get (C := RX2) (TC := TX2) (N := 10) hx hb hts iX2 hown hK hP (xsF hk) rfl 2 (by decide) f_18 (fun _ h9 => h9) rfl dX2_isEmpty_1 ?_
  refine lv_aload_n hx hb dX2_isEmpty_4 rfl (lv_at hl 0 rfl) ?_
  refine xg_getr (C := RX2) (TC := TX2) (N := 10) hx hb hts iX2 hown hK hP (xsF hk) rfl 1 (by decide) f_15 (fun _ h9 => h9) rfl dX2_isEmpty_5 ?_
  refine lv_iconst (v := 0) hx hb dX2_isEmpty_8 (by decide) ?_
  obtain ⟨hi1, hw⟩ := hw
  refine xg_iald hx hb hK hP (xsFs hk) hi1 dX2_isEmpty_9 ?_
  refine lv_icmp_ne (tgt := 17) hx hb dX2_isEmpty_10 (by decide) (fun c2 => ?_) (fun c2 => ?_)
  · have hw := hw.2 c2
    refine lv_iconst (v := 0) hx hb dX2_isEmpty_17 (by decide) ?_
    exact xg_irets hx hb hr rfl hlocks hB0 hP hK hN hS dX2_isEmpty_18 (by decide) (by decide) hw
  · have hw := hw.1 c2
    refine lv_iconst (v := 1) hx hb dX2_isEmpty_13 (by decide) ?_
    refine lv_goto (tgt := 18) hx hb dX2_isEmpty_14 (by decide) ?_
    exact xg_irets hx hb hr rfl hlocks hB0 hP hK hN hS dX2_isEmpty_18 (by decide) (by decide) hw
set_option maxHeartbeats 4000000 in
set_option maxRecDepth 100000 in
theorem c_X2_isAged (l : Launch) (hl9 : l.stackTraces = false) {B0 : Nat} {ad : Nat → Nat} {D : va_G} {T : Nat → ClassId} (hA : XA B0 ad) (k : Nat) (hk : 30 ≤ k ∧ k < 34) (p0 : Int32) {h : xH} {K : Int32 → xH → Prop} (hw : w_X2_isAged k p0 h K) : XM l yX2_isAged wsX2_isAged ({ frames := 1, cells := 0, slots := 0, locals := 20 } : Room) B0 ad D T h [.ref (ad (k)), .int (p0)] xei K 0 0 := by
  unfold XM
  refine Met.ofW (cc := cX2_isAged) (maxL := 2) (ret := (some .boolean)) (by decide) rfl ?_
  intro p e s m args below meth c s₁ B hml hv
  obtain ⟨rfl, hB0, hP, hK, hN⟩ := hv
  have hx := B.exec
  have hb := B.bytes
  have hr := B.returns
  have hts := atoms_spec (ws := wsX2_isAged) B.pre
  have hown : s.vm.findClass RX2 = some m.cls := findClass_of_methodNamed B.named
  have hlocks := B.notSynchronized
  have iX2 : ∀ w ∈ u_ws RX2 TX2 10, w ∈ wsX2_isAged := by decide +kernel
  have f_25 := hts (.fieldLink RX2 25 "LogSpooler$LogFile" "age" "I") (by decide +kernel)
  have f_31 := hts (.fieldLink RX2 31 "LogSpooler$LogFile" "firstCame" "I") (by decide +kernel)
  have hS : va_S (fun q => B0 ≤ q) s.heap s.heap [] := va_S.rf
  have hl := lv_entry ([.ref (ad (k)), .int (p0)]) (n := 2) (Nat.le_of_ble_eq_true rfl)
  rw [lg_entry_eq]
  generalize (lg_sl ([.ref (ad (k)), .int (p0)]) ++ List.replicate (2 - (lg_sl ([.ref (ad (k)), .int (p0)])).length) Slot.unset).toArray = ls at hl ⊢
  have hl : lv_has ls 2 [(0, .ref (ad (k))), (1, .int (p0))] := hl
  unfold w_X2_isAged at hw
  refine lv_aload_n hx hb dX2_isAged_0 rfl (lv_at hl 0 rfl) ?_
  refine xg_get (C := RX2) (TC := TX2) (N := 10) hx hb hts iX2 hown hK hP (xsF hk) rfl 4 (by decide) f_25 (fun _ h9 => h9) rfl dX2_isAged_1 ?_
  refine lv_if_eq (tgt := 31) hx hb dX2_isAged_4 (by decide) (fun c1 => ?_) (fun c1 => ?_)
  · have hw := hw.1 c1
    refine lv_iconst (v := 0) hx hb dX2_isAged_31 (by decide) ?_
    exact xg_irets hx hb hr rfl hlocks hB0 hP hK hN hS dX2_isAged_32 (by decide) (by decide) hw
  · have hw := hw.2 c1
    refine lv_aload_n hx hb dX2_isAged_7 rfl (lv_at hl 0 rfl) ?_
    refine xg_calli (va_runV (As := []) (rest := []) ⟨hx, hb, hml, hown, hts⟩ (c_X2_isEmpty l hl9 hA k hk hw) (cwV 0 hts gX2_isAged_X2_isEmpty rfl rfl rfl (by decide +kernel) ⟨Nat.le_of_ble_eq_true rfl, Nat.le_of_ble_eq_true rfl⟩) (xg_preV hB0 hP hK hN hS (xsF hk) rfl) rfl rfl hl.1 rfl (lv_room (Nat.le_of_ble_eq_true rfl)) dX2_isAged_8 ⟨Nat.le_of_ble_eq_true rfl, Nat.le_of_ble_eq_true rfl⟩) hS (fun r2 h3 H locs hw hP hS => ?_)
    refine lv_if_ne (tgt := 31) hx hb dX2_isAged_11 (by decide) (fun c4 => ?_) (fun c4 => ?_)
    · have hw := hw.2 c4
      refine lv_iconst (v := 0) hx hb dX2_isAged_31 (by decide) ?_
      exact xg_irets hx hb hr rfl hlocks hB0 hP hK hN hS dX2_isAged_32 (by decide) (by decide) hw
    · have hw := hw.1 c4
      refine lv_iload_n hx hb dX2_isAged_14 rfl (lv_at hl 1 rfl) ?_
      refine lv_aload_n hx hb dX2_isAged_15 rfl (lv_at hl 0 rfl) ?_
      refine xg_get (C := RX2) (TC := TX2) (N := 10) hx hb hts iX2 hown hK hP (xsF hk) rfl 6 (by decide) f_31 (fun _ h9 => h9) rfl dX2_isAged_16 ?_
      refine lv_isub hx hb dX2_isAged_19 ?_
      refine lv_aload_n hx hb dX2_isAged_20 rfl (lv_at hl 0 rfl) ?_
      refine xg_get (C := RX2) (TC := TX2) (N := 10) hx hb hts iX2 hown hK hP (xsF hk) rfl 4 (by decide) f_25 (fun _ h9 => h9) rfl dX2_isAged_21 ?_
      refine lv_icmp_lt (tgt := 31) hx hb dX2_isAged_24 (by decide) (fun c5 => ?_) (fun c5 => ?_)
      · have hw := hw.1 c5
        refine lv_iconst (v := 0) hx hb dX2_isAged_31 (by decide) ?_
        exact xg_irets hx hb hr rfl hlocks hB0 hP hK hN hS dX2_isAged_32 (by decide) (by decide) hw
      · have hw := hw.2 c5
        refine lv_iconst (v := 1) hx hb dX2_isAged_27 (by decide) ?_
        refine lv_goto (tgt := 32) hx hb dX2_isAged_28 (by decide) ?_
        exact xg_irets hx hb hr rfl hlocks hB0 hP hK hN hS dX2_isAged_32 (by decide) (by decide) hw
set_option maxHeartbeats 4000000 in
set_option maxRecDepth 100000 in
theorem c_X2_turnOver (l : Launch) (hl9 : l.stackTraces = false) {B0 : Nat} {ad : Nat → Nat} {D : va_G} {T : Nat → ClassId} (hA : XA B0 ad) (k : Nat) (hk : 30 ≤ k ∧ k < 34) {h : xH} {K : Unit → xH → Prop} (hw : w_X2_turnOver k h K) : XM l yX2_turnOver wsX2_turnOver ({ frames := 0, cells := 0, slots := 0, locals := 0 } : Room) B0 ad D T h [.ref (ad (k))] xev K 0 0 := by
  unfold XM
  refine Met.ofW (cc := cX2_turnOver) (maxL := 2) (ret := none) (by decide) rfl ?_
  intro p e s m args below meth c s₁ B hml hv
  obtain ⟨rfl, hB0, hP, hK, hN⟩ := hv
  have hx := B.exec
  have hb := B.bytes
  have hr := B.returns
  have hts := atoms_spec (ws := wsX2_turnOver) B.pre
  have hown : s.vm.findClass RX2 = some m.cls := findClass_of_methodNamed B.named
  have hlocks := B.notSynchronized
  have iX2 : ∀ w ∈ u_ws RX2 TX2 10, w ∈ wsX2_turnOver := by decide +kernel
  have f_15 := hts (.fieldLink RX2 15 "LogSpooler$LogFile" "starts" "[I") (by decide +kernel)
  have f_18 := hts (.fieldLink RX2 18 "LogSpooler$LogFile" "end" "I") (by decide +kernel)
  have f_28 := hts (.fieldLink RX2 28 "LogSpooler$LogFile" "kept" "I") (by decide +kernel)
  have f_34 := hts (.fieldLink RX2 34 "LogSpooler$LogFile" "sumOfLengths" "I") (by decide +kernel)
  have f_37 := hts (.fieldLink RX2 37 "LogSpooler$LogFile" "olderOnes" "I") (by decide +kernel)
  have f_40 := hts (.fieldLink RX2 40 "LogSpooler$LogFile" "rotations" "I") (by decide +kernel)
  have hS : va_S (fun q => B0 ≤ q) s.heap s.heap [] := va_S.rf
  have hl := lv_entry ([.ref (ad (k))]) (n := 2) (Nat.le_of_ble_eq_true rfl)
  rw [lg_entry_eq]
  generalize (lg_sl ([.ref (ad (k))]) ++ List.replicate (2 - (lg_sl ([.ref (ad (k))])).length) Slot.unset).toArray = ls at hl ⊢
  have hl : lv_has ls 2 [(0, .ref (ad (k)))] := hl
  have j_2 : ∀ (n : Nat) (v1 : Int32) (h : xH) (H : Heap) (locs : List Loc) (ls : Array Slot), w_X2_turnOver_2 k K n v1 h → XP ad D T h H → va_S (fun q => B0 ≤ q) s.heap H locs → lv_has ls 2 [(0, .ref (ad (k))), (1, .int (v1))] → W p l e (headSpec wsX2_turnOver ({ frames := 0, cells := 0, slots := 0, locals := 0 } : Room)).room s m ([.ref (ad (k))] : List Value).toArray below meth c H locs 0 0 (MQ below (XQ B0 ad D T xev K) ([.ref (ad (k))] : List Value).toArray s 0 0 (fun q => B0 ≤ q)) (F0 m 2 ls []) := by
    intro n
    induction n with
    | zero => intro v1 h H locs ls hw; exact hw.elim
    | succ n9 ih =>
      intro v1 h H locs ls hw hP hS hl 
      rw [w_X2_turnOver_2_s] at hw
      refine lv_iload_n hx hb dX2_turnOver_2 rfl (lv_at hl 1 rfl) ?_
      refine lv_if_le (tgt := 26) hx hb dX2_turnOver_3 (by decide) (fun c1 => ?_) (fun c1 => ?_)
      · have hw := hw.1 c1
        refine lv_aload_n hx hb dX2_turnOver_26 rfl (lv_at hl 0 rfl) ?_
        refine xg_getr (C := RX2) (TC := TX2) (N := 10) hx hb hts iX2 hown hK hP (xsF hk) rfl 1 (by decide) f_15 (fun _ h9 => h9) rfl dX2_turnOver_27 ?_
        refine lv_iconst (v := 0) hx hb dX2_turnOver_30 (by decide) ?_
        refine lv_aload_n hx hb dX2_turnOver_31 rfl (lv_at hl 0 rfl) ?_
        refine xg_get (C := RX2) (TC := TX2) (N := 10) hx hb hts iX2 hown hK hP (xsF hk) rfl 2 (by decide) f_18 (fun _ h9 => h9) rfl dX2_turnOver_32 ?_
        obtain ⟨hi2, hw⟩ := hw
        refine xg_iast hx hb hK hP hA hS (xsFs hk) hi2 dX2_turnOver_35 (fun H locs h3 eh3 hP hS => ?_)
        have hw := hw h3 eh3
        refine lv_aload_n hx hb dX2_turnOver_36 rfl (lv_at hl 0 rfl) ?_
        refine lv_iconst (v := 0) hx hb dX2_turnOver_37 (by decide) ?_
        refine xg_put (C := RX2) (TC := TX2) (N := 10) hx hb hts iX2 tyX2 tyX2_ok nmX2 hown hK hP hA hS (xsF hk) rfl 7 (by decide) f_34 (fun _ h9 => h9) rfl rfl (ty := .int) (by decide +kernel) rfl rfl dX2_turnOver_38 (fun H locs h4 eh4 hP hS => ?_)
        have hw := hw h4 eh4
        refine lv_aload_n hx hb dX2_turnOver_41 rfl (lv_at hl 0 rfl) ?_
        refine lv_dup hx hb dX2_turnOver_42 rfl ?_
        refine xg_get (C := RX2) (TC := TX2) (N := 10) hx hb hts iX2 hown hK hP (xsF hk) rfl 9 (by decide) f_40 (fun _ h9 => h9) rfl dX2_turnOver_43 ?_
        refine lv_iconst (v := 1) hx hb dX2_turnOver_46 (by decide) ?_
        refine lv_iadd hx hb dX2_turnOver_47 ?_
        refine xg_put (C := RX2) (TC := TX2) (N := 10) hx hb hts iX2 tyX2 tyX2_ok nmX2 hown hK hP hA hS (xsF hk) rfl 9 (by decide) f_40 (fun _ h9 => h9) rfl rfl (ty := .int) (by decide +kernel) rfl rfl dX2_turnOver_48 (fun H locs h5 eh5 hP hS => ?_)
        have hw := hw h5 eh5
        refine lv_aload_n hx hb dX2_turnOver_51 rfl (lv_at hl 0 rfl) ?_
        refine xg_get (C := RX2) (TC := TX2) (N := 10) hx hb hts iX2 hown hK hP (xsF hk) rfl 8 (by decide) f_37 (fun _ h9 => h9) rfl dX2_turnOver_52 ?_
        refine lv_aload_n hx hb dX2_turnOver_55 rfl (lv_at hl 0 rfl) ?_
        refine xg_get (C := RX2) (TC := TX2) (N := 10) hx hb hts iX2 hown hK hP (xsF hk) rfl 5 (by decide) f_28 (fun _ h9 => h9) rfl dX2_turnOver_56 ?_
        refine lv_icmp_ge (tgt := 72) hx hb dX2_turnOver_59 (by decide) (fun c6 => ?_) (fun c6 => ?_)
        · have hw := hw.1 c6
          exact xg_vrets hx hb hr hlocks hB0 hP hK hN hS dX2_turnOver_72 (by decide) (by decide) hw
        · have hw := hw.2 c6
          refine lv_aload_n hx hb dX2_turnOver_62 rfl (lv_at hl 0 rfl) ?_
          refine lv_dup hx hb dX2_turnOver_63 rfl ?_
          refine xg_get (C := RX2) (TC := TX2) (N := 10) hx hb hts iX2 hown hK hP (xsF hk) rfl 8 (by decide) f_37 (fun _ h9 => h9) rfl dX2_turnOver_64 ?_
          refine lv_iconst (v := 1) hx hb dX2_turnOver_67 (by decide) ?_
          refine lv_iadd hx hb dX2_turnOver_68 ?_
          refine xg_put (C := RX2) (TC := TX2) (N := 10) hx hb hts iX2 tyX2 tyX2_ok nmX2 hown hK hP hA hS (xsF hk) rfl 8 (by decide) f_37 (fun _ h9 => h9) rfl rfl (ty := .int) (by decide +kernel) rfl rfl dX2_turnOver_69 (fun H locs h7 eh7 hP hS => ?_)
          have hw := hw h7 eh7
          exact xg_vrets hx hb hr hlocks hB0 hP hK hN hS dX2_turnOver_72 (by decide) (by decide) hw
      · have hw := hw.2 c1
        refine lv_aload_n hx hb dX2_turnOver_6 rfl (lv_at hl 0 rfl) ?_
        refine xg_getr (C := RX2) (TC := TX2) (N := 10) hx hb hts iX2 hown hK hP (xsF hk) rfl 1 (by decide) f_15 (fun _ h9 => h9) rfl dX2_turnOver_7 ?_
        refine lv_iload_n hx hb dX2_turnOver_10 rfl (lv_at hl 1 rfl) ?_
        refine lv_aload_n hx hb dX2_turnOver_11 rfl (lv_at hl 0 rfl) ?_
        refine xg_getr (C := RX2) (TC := TX2) (N := 10) hx hb hts iX2 hown hK hP (xsF hk) rfl 1 (by decide) f_15 (fun _ h9 => h9) rfl dX2_turnOver_12 ?_
        refine lv_iload_n hx hb dX2_turnOver_15 rfl (lv_at hl 1 rfl) ?_
        refine lv_iconst (v := 1) hx hb dX2_turnOver_16 (by decide) ?_
        refine lv_isub hx hb dX2_turnOver_17 ?_
        obtain ⟨hi8, hw⟩ := hw
        refine xg_iald hx hb hK hP (xsFs hk) hi8 dX2_turnOver_18 ?_
        obtain ⟨hi9, hw⟩ := hw
        refine xg_iast hx hb hK hP hA hS (xsFs hk) hi9 dX2_turnOver_19 (fun H locs h10 eh10 hP hS => ?_)
        have hw := hw h10 eh10
        obtain ⟨x11, ex11⟩ : ∃ z : Int32, z = v1 + (-1) := ⟨_, rfl⟩
        have hw := hw x11 ex11
        refine lv_iinc (v := x11) (lv' := [(1, .int (x11)), (0, .ref (ad (k)))]) hx hb dX2_turnOver_20 hl (k := 1) rfl (by rw [ex11]; rfl) (by decide) rfl (fun ls hl => ?_)
        refine lv_goto (tgt := 2) hx hb dX2_turnOver_23 (by decide) ?_
        exact ih (x11) _ _ _ _ hw hP hS (lv_sub hl [1, 0] rfl)
  unfold w_X2_turnOver at hw
  refine lv_iconst (v := 5) hx hb dX2_turnOver_0 (by decide) ?_
  refine lv_istore_n (lv' := [(1, .int (5)), (0, .ref (ad (k)))]) hx hb dX2_turnOver_1 rfl hl (by decide) rfl (fun ls hl => ?_)
  obtain ⟨n9, hw⟩ := hw
  exact j_2 n9 (5) _ _ _ _ hw hP hS (lv_sub hl [1, 0] rfl)
set_option maxHeartbeats 4000000 in
set_option maxRecDepth 100000 in
theorem c_X2_add (l : Launch) (hl9 : l.stackTraces = false) {B0 : Nat} {ad : Nat → Nat} {D : va_G} {T : Nat → ClassId} (hA : XA B0 ad) (k : Nat) (hk : 30 ≤ k ∧ k < 34) (p0 : Int32) (p1 : Int32) (p2 : Int32) {h : xH} {K : Unit → xH → Prop} (hw : w_X2_add k p0 p1 p2 h K) : XM l yX2_add wsX2_add ({ frames := 1, cells := 0, slots := 0, locals := 21 } : Room) B0 ad D T h [.ref (ad (k)), .int (p0), .int (p1), .int (p2)] xev K 0 0 := by
  unfold XM
  refine Met.ofW (cc := cX2_add) (maxL := 4) (ret := none) (by decide) rfl ?_
  intro p e s m args below meth c s₁ B hml hv
  obtain ⟨rfl, hB0, hP, hK, hN⟩ := hv
  have hx := B.exec
  have hb := B.bytes
  have hr := B.returns
  have hts := atoms_spec (ws := wsX2_add) B.pre
  have hown : s.vm.findClass RX2 = some m.cls := findClass_of_methodNamed B.named
  have hlocks := B.notSynchronized
  have iX2 : ∀ w ∈ u_ws RX2 TX2 10, w ∈ wsX2_add := by decide +kernel
  have f_9 := hts (.fieldLink RX2 9 "LogSpooler$LogFile" "row" "[I") (by decide +kernel)
  have f_18 := hts (.fieldLink RX2 18 "LogSpooler$LogFile" "end" "I") (by decide +kernel)
  have f_22 := hts (.fieldLink RX2 22 "LogSpooler$LogFile" "greatestSize" "I") (by decide +kernel)
  have f_31 := hts (.fieldLink RX2 31 "LogSpooler$LogFile" "firstCame" "I") (by decide +kernel)
  have f_34 := hts (.fieldLink RX2 34 "LogSpooler$LogFile" "sumOfLengths" "I") (by decide +kernel)
  have hS : va_S (fun q => B0 ≤ q) s.heap s.heap [] := va_S.rf
  have hl := lv_entry ([.ref (ad (k)), .int (p0), .int (p1), .int (p2)]) (n := 4) (Nat.le_of_ble_eq_true rfl)
  rw [lg_entry_eq]
  generalize (lg_sl ([.ref (ad (k)), .int (p0), .int (p1), .int (p2)]) ++ List.replicate (4 - (lg_sl ([.ref (ad (k)), .int (p0), .int (p1), .int (p2)])).length) Slot.unset).toArray = ls at hl ⊢
  have hl : lv_has ls 4 [(0, .ref (ad (k))), (1, .int (p0)), (2, .int (p1)), (3, .int (p2))] := hl
  have j_36 : ∀ (h : xH) (H : Heap) (locs : List Loc) (ls : Array Slot), w_X2_add_36 k p0 p1 p2 K h → XP ad D T h H → va_S (fun q => B0 ≤ q) s.heap H locs → lv_has ls 4 [(0, .ref (ad (k))), (1, .int (p0)), (2, .int (p1))] → W p l e (headSpec wsX2_add ({ frames := 1, cells := 0, slots := 0, locals := 21 } : Room)).room s m ([.ref (ad (k)), .int (p0), .int (p1), .int (p2)] : List Value).toArray below meth c H locs 0 0 (MQ below (XQ B0 ad D T xev K) ([.ref (ad (k)), .int (p0), .int (p1), .int (p2)] : List Value).toArray s 0 0 (fun q => B0 ≤ q)) (F0 m 36 ls []) := by
    intro h H locs ls hw hP hS hl 
    unfold w_X2_add_36 at hw
    refine lv_aload_n hx hb dX2_add_36 rfl (lv_at hl 0 rfl) ?_
    refine xg_get (C := RX2) (TC := TX2) (N := 10) hx hb hts iX2 hown hK hP (xsF hk) rfl 2 (by decide) f_18 (fun _ h9 => h9) rfl dX2_add_37 ?_
    refine lv_if_lt (tgt := 85) hx hb dX2_add_40 (by decide) (fun c11 => ?_) (fun c11 => ?_)
    · have hw := hw.1 c11
      exact xg_vrets hx hb hr hlocks hB0 hP hK hN hS dX2_add_85 (by decide) (by decide) hw
    · have hw := hw.2 c11
      refine lv_aload_n hx hb dX2_add_43 rfl (lv_at hl 0 rfl) ?_
      refine xg_get (C := RX2) (TC := TX2) (N := 10) hx hb hts iX2 hown hK hP (xsF hk) rfl 2 (by decide) f_18 (fun _ h9 => h9) rfl dX2_add_44 ?_
      refine lv_aload_n hx hb dX2_add_47 rfl (lv_at hl 0 rfl) ?_
      refine xg_getr (C := RX2) (TC := TX2) (N := 10) hx hb hts iX2 hown hK hP (xsF hk) rfl 0 (by decide) f_9 (fun _ h9 => h9) rfl dX2_add_48 ?_
      refine xg_alen (v := 400) hx hb hK hP (xsFr hk) rfl dX2_add_51 ?_
      refine lv_icmp_ge (tgt := 85) hx hb dX2_add_52 (by decide) (fun c12 => ?_) (fun c12 => ?_)
      · have hw := hw.1 c12
        exact xg_vrets hx hb hr hlocks hB0 hP hK hN hS dX2_add_85 (by decide) (by decide) hw
      · have hw := hw.2 c12
        refine lv_aload_n hx hb dX2_add_55 rfl (lv_at hl 0 rfl) ?_
        refine xg_getr (C := RX2) (TC := TX2) (N := 10) hx hb hts iX2 hown hK hP (xsF hk) rfl 0 (by decide) f_9 (fun _ h9 => h9) rfl dX2_add_56 ?_
        refine lv_aload_n hx hb dX2_add_59 rfl (lv_at hl 0 rfl) ?_
        refine xg_get (C := RX2) (TC := TX2) (N := 10) hx hb hts iX2 hown hK hP (xsF hk) rfl 2 (by decide) f_18 (fun _ h9 => h9) rfl dX2_add_60 ?_
        refine lv_iload_n hx hb dX2_add_63 rfl (lv_at hl 1 rfl) ?_
        obtain ⟨hi13, hw⟩ := hw
        refine xg_iast hx hb hK hP hA hS (xsFr hk) hi13 dX2_add_64 (fun H locs h14 eh14 hP hS => ?_)
        have hw := hw h14 eh14
        refine lv_aload_n hx hb dX2_add_65 rfl (lv_at hl 0 rfl) ?_
        refine lv_dup hx hb dX2_add_66 rfl ?_
        refine xg_get (C := RX2) (TC := TX2) (N := 10) hx hb hts iX2 hown hK hP (xsF hk) rfl 2 (by decide) f_18 (fun _ h9 => h9) rfl dX2_add_67 ?_
        refine lv_iconst (v := 1) hx hb dX2_add_70 (by decide) ?_
        refine lv_iadd hx hb dX2_add_71 ?_
        refine xg_put (C := RX2) (TC := TX2) (N := 10) hx hb hts iX2 tyX2 tyX2_ok nmX2 hown hK hP hA hS (xsF hk) rfl 2 (by decide) f_18 (fun _ h9 => h9) rfl rfl (ty := .int) (by decide +kernel) rfl rfl dX2_add_72 (fun H locs h15 eh15 hP hS => ?_)
        have hw := hw h15 eh15
        refine lv_aload_n hx hb dX2_add_75 rfl (lv_at hl 0 rfl) ?_
        refine lv_dup hx hb dX2_add_76 rfl ?_
        refine xg_get (C := RX2) (TC := TX2) (N := 10) hx hb hts iX2 hown hK hP (xsF hk) rfl 7 (by decide) f_34 (fun _ h9 => h9) rfl dX2_add_77 ?_
        refine lv_iload_n hx hb dX2_add_80 rfl (lv_at hl 2 rfl) ?_
        refine lv_iadd hx hb dX2_add_81 ?_
        refine xg_put (C := RX2) (TC := TX2) (N := 10) hx hb hts iX2 tyX2 tyX2_ok nmX2 hown hK hP hA hS (xsF hk) rfl 7 (by decide) f_34 (fun _ h9 => h9) rfl rfl (ty := .int) (by decide +kernel) rfl rfl dX2_add_82 (fun H locs h16 eh16 hP hS => ?_)
        have hw := hw h16 eh16
        exact xg_vrets hx hb hr hlocks hB0 hP hK hN hS dX2_add_85 (by decide) (by decide) hw
  have j_24 : ∀ (h : xH) (H : Heap) (locs : List Loc) (ls : Array Slot), w_X2_add_24 k p0 p1 p2 K h → XP ad D T h H → va_S (fun q => B0 ≤ q) s.heap H locs → lv_has ls 4 [(0, .ref (ad (k))), (1, .int (p0)), (2, .int (p1)), (3, .int (p2))] → W p l e (headSpec wsX2_add ({ frames := 1, cells := 0, slots := 0, locals := 21 } : Room)).room s m ([.ref (ad (k)), .int (p0), .int (p1), .int (p2)] : List Value).toArray below meth c H locs 0 0 (MQ below (XQ B0 ad D T xev K) ([.ref (ad (k)), .int (p0), .int (p1), .int (p2)] : List Value).toArray s 0 0 (fun q => B0 ≤ q)) (F0 m 24 ls []) := by
    intro h H locs ls hw hP hS hl 
    unfold w_X2_add_24 at hw
    refine lv_aload_n hx hb dX2_add_24 rfl (lv_at hl 0 rfl) ?_
    refine xg_calli (va_runV (As := []) (rest := []) ⟨hx, hb, hml, hown, hts⟩ (c_X2_isEmpty l hl9 hA k hk hw) (cwV 0 hts gX2_add_X2_isEmpty rfl rfl rfl (by decide +kernel) ⟨Nat.le_of_ble_eq_true rfl, Nat.le_of_ble_eq_true rfl⟩) (xg_preV hB0 hP hK hN hS (xsF hk) rfl) rfl rfl hl.1 rfl (lv_room (Nat.le_of_ble_eq_true rfl)) dX2_add_25 ⟨Nat.le_of_ble_eq_true rfl, Nat.le_of_ble_eq_true rfl⟩) hS (fun r7 h8 H locs hw hP hS => ?_)
    refine lv_if_eq (tgt := 36) hx hb dX2_add_28 (by decide) (fun c9 => ?_) (fun c9 => ?_)
    · have hw := hw.1 c9
      exact j_36  _ _ _ _ hw hP hS (lv_sub hl [0, 1, 2] rfl)
    · have hw := hw.2 c9
      refine lv_aload_n hx hb dX2_add_31 rfl (lv_at hl 0 rfl) ?_
      refine lv_iload_n hx hb dX2_add_32 rfl (lv_at hl 3 rfl) ?_
      refine xg_put (C := RX2) (TC := TX2) (N := 10) hx hb hts iX2 tyX2 tyX2_ok nmX2 hown hK hP hA hS (xsF hk) rfl 6 (by decide) f_31 (fun _ h9 => h9) rfl rfl (ty := .int) (by decide +kernel) rfl rfl dX2_add_33 (fun H locs h10 eh10 hP hS => ?_)
      have hw := hw h10 eh10
      exact j_36  _ _ _ _ hw hP hS (lv_sub hl [0, 1, 2] rfl)
  unfold w_X2_add at hw
  refine lv_aload_n hx hb dX2_add_0 rfl (lv_at hl 0 rfl) ?_
  refine xg_calli (va_runV (As := []) (rest := []) ⟨hx, hb, hml, hown, hts⟩ (c_X2_isEmpty l hl9 hA k hk hw) (cwV 0 hts gX2_add_X2_isEmpty rfl rfl rfl (by decide +kernel) ⟨Nat.le_of_ble_eq_true rfl, Nat.le_of_ble_eq_true rfl⟩) (xg_preV hB0 hP hK hN hS (xsF hk) rfl) rfl rfl hl.1 rfl (lv_room (Nat.le_of_ble_eq_true rfl)) dX2_add_1 ⟨Nat.le_of_ble_eq_true rfl, Nat.le_of_ble_eq_true rfl⟩) hS (fun r1 h2 H locs hw hP hS => ?_)
  refine lv_if_ne (tgt := 24) hx hb dX2_add_4 (by decide) (fun c3 => ?_) (fun c3 => ?_)
  · have hw := hw.2 c3
    exact j_24  _ _ _ _ hw hP hS (lv_sub hl [0, 1, 2, 3] rfl)
  · have hw := hw.1 c3
    refine lv_aload_n hx hb dX2_add_7 rfl (lv_at hl 0 rfl) ?_
    refine xg_get (C := RX2) (TC := TX2) (N := 10) hx hb hts iX2 hown hK hP (xsF hk) rfl 7 (by decide) f_34 (fun _ h9 => h9) rfl dX2_add_8 ?_
    refine lv_iload_n hx hb dX2_add_11 rfl (lv_at hl 2 rfl) ?_
    refine lv_iadd hx hb dX2_add_12 ?_
    refine lv_aload_n hx hb dX2_add_13 rfl (lv_at hl 0 rfl) ?_
    refine xg_get (C := RX2) (TC := TX2) (N := 10) hx hb hts iX2 hown hK hP (xsF hk) rfl 3 (by decide) f_22 (fun _ h9 => h9) rfl dX2_add_14 ?_
    refine lv_icmp_le (tgt := 24) hx hb dX2_add_17 (by decide) (fun c4 => ?_) (fun c4 => ?_)
    · have hw := hw.1 c4
      exact j_24  _ _ _ _ hw hP hS (lv_sub hl [0, 1, 2, 3] rfl)
    · have hw := hw.2 c4
      refine lv_aload_n hx hb dX2_add_20 rfl (lv_at hl 0 rfl) ?_
      refine xg_callv (va_runV (As := []) (rest := []) ⟨hx, hb, hml, hown, hts⟩ (c_X2_turnOver l hl9 hA k hk hw) (cwV 0 hts gX2_add_X2_turnOver rfl rfl rfl (by decide +kernel) ⟨Nat.le_of_ble_eq_true rfl, Nat.le_of_ble_eq_true rfl⟩) (xg_preV hB0 hP hK hN hS (xsF hk) rfl) rfl rfl hl.1 rfl (lv_room (Nat.le_of_ble_eq_true rfl)) dX2_add_21 ⟨Nat.le_of_ble_eq_true rfl, Nat.le_of_ble_eq_true rfl⟩) hS (fun _ h6 H locs hw hP hS => ?_)
      exact j_24  _ _ _ _ hw hP hS (lv_sub hl [0, 1, 2, 3] rfl)
set_option maxHeartbeats 4000000 in
set_option maxRecDepth 100000 in
theorem c_X2_has (l : Launch) (hl9 : l.stackTraces = false) {B0 : Nat} {ad : Nat → Nat} {D : va_G} {T : Nat → ClassId} (hA : XA B0 ad) (k : Nat) (hk : 30 ≤ k ∧ k < 34) (p0 : Int32) {h : xH} {K : Int32 → xH → Prop} (hw : w_X2_has k p0 h K) : XM l yX2_has wsX2_has ({ frames := 0, cells := 0, slots := 0, locals := 0 } : Room) B0 ad D T h [.ref (ad (k)), .int (p0)] xei K 0 0 := by
  unfold XM
  refine Met.ofW (cc := cX2_has) (maxL := 2) (ret := (some .boolean)) (by decide) rfl ?_
  intro p e s m args below meth c s₁ B hml hv
  obtain ⟨rfl, hB0, hP, hK, hN⟩ := hv
  have hx := B.exec
  have hb := B.bytes
  have hr := B.returns
  have hts := atoms_spec (ws := wsX2_has) B.pre
  have hown : s.vm.findClass RX2 = some m.cls := findClass_of_methodNamed B.named
  have hlocks := B.notSynchronized
  have iX2 : ∀ w ∈ u_ws RX2 TX2 10, w ∈ wsX2_has := by decide +kernel
  have f_37 := hts (.fieldLink RX2 37 "LogSpooler$LogFile" "olderOnes" "I") (by decide +kernel)
  have hS : va_S (fun q => B0 ≤ q) s.heap s.heap [] := va_S.rf
  have hl := lv_entry ([.ref (ad (k)), .int (p0)]) (n := 2) (Nat.le_of_ble_eq_true rfl)
  rw [lg_entry_eq]
  generalize (lg_sl ([.ref (ad (k)), .int (p0)]) ++ List.replicate (2 - (lg_sl ([.ref (ad (k)), .int (p0)])).length) Slot.unset).toArray = ls at hl ⊢
  have hl : lv_has ls 2 [(0, .ref (ad (k))), (1, .int (p0))] := hl
  unfold w_X2_has at hw
  refine lv_iload_n hx hb dX2_has_0 rfl (lv_at hl 1 rfl) ?_
  refine lv_iconst (v := (-1)) hx hb dX2_has_1 (by decide) ?_
  refine lv_icmp_lt (tgt := 17) hx hb dX2_has_2 (by decide) (fun c1 => ?_) (fun c1 => ?_)
  · have hw := hw.1 c1
    refine lv_iconst (v := 0) hx hb dX2_has_17 (by decide) ?_
    exact xg_irets hx hb hr rfl hlocks hB0 hP hK hN hS dX2_has_18 (by decide) (by decide) hw
  · have hw := hw.2 c1
    refine lv_iload_n hx hb dX2_has_5 rfl (lv_at hl 1 rfl) ?_
    refine lv_aload_n hx hb dX2_has_6 rfl (lv_at hl 0 rfl) ?_
    refine xg_get (C := RX2) (TC := TX2) (N := 10) hx hb hts iX2 hown hK hP (xsF hk) rfl 8 (by decide) f_37 (fun _ h9 => h9) rfl dX2_has_7 ?_
    refine lv_icmp_ge (tgt := 17) hx hb dX2_has_10 (by decide) (fun c2 => ?_) (fun c2 => ?_)
    · have hw := hw.1 c2
      refine lv_iconst (v := 0) hx hb dX2_has_17 (by decide) ?_
      exact xg_irets hx hb hr rfl hlocks hB0 hP hK hN hS dX2_has_18 (by decide) (by decide) hw
    · have hw := hw.2 c2
      refine lv_iconst (v := 1) hx hb dX2_has_13 (by decide) ?_
      refine lv_goto (tgt := 18) hx hb dX2_has_14 (by decide) ?_
      exact xg_irets hx hb hr rfl hlocks hB0 hP hK hN hS dX2_has_18 (by decide) (by decide) hw
set_option maxHeartbeats 4000000 in
set_option maxRecDepth 100000 in
theorem c_X2_startOf (l : Launch) (hl9 : l.stackTraces = false) {B0 : Nat} {ad : Nat → Nat} {D : va_G} {T : Nat → ClassId} (hA : XA B0 ad) (k : Nat) (hk : 30 ≤ k ∧ k < 34) (p0 : Int32) {h : xH} {K : Int32 → xH → Prop} (hw : w_X2_startOf k p0 h K) : XM l yX2_startOf wsX2_startOf ({ frames := 0, cells := 0, slots := 0, locals := 0 } : Room) B0 ad D T h [.ref (ad (k)), .int (p0)] xei K 0 0 := by
  unfold XM
  refine Met.ofW (cc := cX2_startOf) (maxL := 3) (ret := (some .int)) (by decide) rfl ?_
  intro p e s m args below meth c s₁ B hml hv
  obtain ⟨rfl, hB0, hP, hK, hN⟩ := hv
  have hx := B.exec
  have hb := B.bytes
  have hr := B.returns
  have hts := atoms_spec (ws := wsX2_startOf) B.pre
  have hown : s.vm.findClass RX2 = some m.cls := findClass_of_methodNamed B.named
  have hlocks := B.notSynchronized
  have iX2 : ∀ w ∈ u_ws RX2 TX2 10, w ∈ wsX2_startOf := by decide +kernel
  have f_15 := hts (.fieldLink RX2 15 "LogSpooler$LogFile" "starts" "[I") (by decide +kernel)
  have f_18 := hts (.fieldLink RX2 18 "LogSpooler$LogFile" "end" "I") (by decide +kernel)
  have hS : va_S (fun q => B0 ≤ q) s.heap s.heap [] := va_S.rf
  have hl := lv_entry ([.ref (ad (k)), .int (p0)]) (n := 3) (Nat.le_of_ble_eq_true rfl)
  rw [lg_entry_eq]
  generalize (lg_sl ([.ref (ad (k)), .int (p0)]) ++ List.replicate (3 - (lg_sl ([.ref (ad (k)), .int (p0)])).length) Slot.unset).toArray = ls at hl ⊢
  have hl : lv_has ls 3 [(0, .ref (ad (k))), (1, .int (p0))] := hl
  unfold w_X2_startOf at hw
  refine lv_iload_n hx hb dX2_startOf_0 rfl (lv_at hl 1 rfl) ?_
  refine lv_iconst (v := 1) hx hb dX2_startOf_1 (by decide) ?_
  refine lv_iadd hx hb dX2_startOf_2 ?_
  refine lv_topi (fun x1 ex1 => ?_)
  have hw := hw x1 ex1
  refine lv_istore_n (lv' := [(2, .int (x1)), (0, .ref (ad (k))), (1, .int (p0))]) hx hb dX2_startOf_3 rfl hl (by decide) rfl (fun ls hl => ?_)
  refine lv_iload_n hx hb dX2_startOf_4 rfl (lv_at hl 0 rfl) ?_
  refine lv_if_lt (tgt := 26) hx hb dX2_startOf_5 (by decide) (fun c2 => ?_) (fun c2 => ?_)
  · have hw := hw.1 c2
    refine lv_aload_n hx hb dX2_startOf_26 rfl (lv_at hl 1 rfl) ?_
    refine xg_get (C := RX2) (TC := TX2) (N := 10) hx hb hts iX2 hown hK hP (xsF hk) rfl 2 (by decide) f_18 (fun _ h9 => h9) rfl dX2_startOf_27 ?_
    exact xg_irets hx hb hr rfl hlocks hB0 hP hK hN hS dX2_startOf_30 (by decide) (by decide) hw
  · have hw := hw.2 c2
    refine lv_iload_n hx hb dX2_startOf_8 rfl (lv_at hl 0 rfl) ?_
    refine lv_aload_n hx hb dX2_startOf_9 rfl (lv_at hl 1 rfl) ?_
    refine xg_getr (C := RX2) (TC := TX2) (N := 10) hx hb hts iX2 hown hK hP (xsF hk) rfl 1 (by decide) f_15 (fun _ h9 => h9) rfl dX2_startOf_10 ?_
    refine xg_alen (v := 6) hx hb hK hP (xsFs hk) rfl dX2_startOf_13 ?_
    refine lv_icmp_ge (tgt := 26) hx hb dX2_startOf_14 (by decide) (fun c3 => ?_) (fun c3 => ?_)
    · have hw := hw.1 c3
      refine lv_aload_n hx hb dX2_startOf_26 rfl (lv_at hl 1 rfl) ?_
      refine xg_get (C := RX2) (TC := TX2) (N := 10) hx hb hts iX2 hown hK hP (xsF hk) rfl 2 (by decide) f_18 (fun _ h9 => h9) rfl dX2_startOf_27 ?_
      exact xg_irets hx hb hr rfl hlocks hB0 hP hK hN hS dX2_startOf_30 (by decide) (by decide) hw
    · have hw := hw.2 c3
      refine lv_aload_n hx hb dX2_startOf_17 rfl (lv_at hl 1 rfl) ?_
      refine xg_getr (C := RX2) (TC := TX2) (N := 10) hx hb hts iX2 hown hK hP (xsF hk) rfl 1 (by decide) f_15 (fun _ h9 => h9) rfl dX2_startOf_18 ?_
      refine lv_iload_n hx hb dX2_startOf_21 rfl (lv_at hl 0 rfl) ?_
      obtain ⟨hi4, hw⟩ := hw
      refine xg_iald hx hb hK hP (xsFs hk) hi4 dX2_startOf_22 ?_
      refine lv_goto (tgt := 30) hx hb dX2_startOf_23 (by decide) ?_
      exact xg_irets hx hb hr rfl hlocks hB0 hP hK hN hS dX2_startOf_30 (by decide) (by decide) hw
set_option maxHeartbeats 4000000 in
set_option maxRecDepth 100000 in
theorem c_X2_linesOf (l : Launch) (hl9 : l.stackTraces = false) {B0 : Nat} {ad : Nat → Nat} {D : va_G} {T : Nat → ClassId} (hA : XA B0 ad) (k : Nat) (hk : 30 ≤ k ∧ k < 34) (p0 : Int32) {h : xH} {K : Int32 → xH → Prop} (hw : w_X2_linesOf k p0 h K) : XM l yX2_linesOf wsX2_linesOf ({ frames := 1, cells := 0, slots := 0, locals := 22 } : Room) B0 ad D T h [.ref (ad (k)), .int (p0)] xei K 0 0 := by
  unfold XM
  refine Met.ofW (cc := cX2_linesOf) (maxL := 3) (ret := (some .int)) (by decide) rfl ?_
  intro p e s m args below meth c s₁ B hml hv
  obtain ⟨rfl, hB0, hP, hK, hN⟩ := hv
  have hx := B.exec
  have hb := B.bytes
  have hr := B.returns
  have hts := atoms_spec (ws := wsX2_linesOf) B.pre
  have hown : s.vm.findClass RX2 = some m.cls := findClass_of_methodNamed B.named
  have hlocks := B.notSynchronized
  have iX2 : ∀ w ∈ u_ws RX2 TX2 10, w ∈ wsX2_linesOf := by decide +kernel
  have f_18 := hts (.fieldLink RX2 18 "LogSpooler$LogFile" "end" "I") (by decide +kernel)
  have hS : va_S (fun q => B0 ≤ q) s.heap s.heap [] := va_S.rf
  have hl := lv_entry ([.ref (ad (k)), .int (p0)]) (n := 3) (Nat.le_of_ble_eq_true rfl)
  rw [lg_entry_eq]
  generalize (lg_sl ([.ref (ad (k)), .int (p0)]) ++ List.replicate (3 - (lg_sl ([.ref (ad (k)), .int (p0)])).length) Slot.unset).toArray = ls at hl ⊢
  have hl : lv_has ls 3 [(0, .ref (ad (k))), (1, .int (p0))] := hl
  have j_19 : ∀ (s0 : Int32) (h : xH) (H : Heap) (locs : List Loc) (ls : Array Slot), w_X2_linesOf_19 k p0 K s0 h → XP ad D T h H → va_S (fun q => B0 ≤ q) s.heap H locs → lv_has ls 3 [(0, .ref (ad (k))), (1, .int (p0))] → W p l e (headSpec wsX2_linesOf ({ frames := 1, cells := 0, slots := 0, locals := 22 } : Room)).room s m ([.ref (ad (k)), .int (p0)] : List Value).toArray below meth c H locs 0 0 (MQ below (XQ B0 ad D T xei K) ([.ref (ad (k)), .int (p0)] : List Value).toArray s 0 0 (fun q => B0 ≤ q)) (F0 m 19 ls [.int (s0)]) := by
    intro s0 h H locs ls hw hP hS hl 
    unfold w_X2_linesOf_19 at hw
    refine lv_istore_n (lv' := [(2, .int (s0)), (0, .ref (ad (k))), (1, .int (p0))]) hx hb dX2_linesOf_19 rfl hl (by decide) rfl (fun ls hl => ?_)
    refine lv_iload_n hx hb dX2_linesOf_20 rfl (lv_at hl 0 rfl) ?_
    refine lv_aload_n hx hb dX2_linesOf_21 rfl (lv_at hl 1 rfl) ?_
    refine lv_iload_n hx hb dX2_linesOf_22 rfl (lv_at hl 2 rfl) ?_
    refine xg_calli (va_runV (As := [.int (p0)]) (rest := [.int (s0)]) ⟨hx, hb, hml, hown, hts⟩ (c_X2_startOf l hl9 hA k hk p0 hw) (cwV 1 hts gX2_linesOf_X2_startOf rfl rfl rfl (by decide +kernel) ⟨Nat.le_of_ble_eq_true rfl, Nat.le_of_ble_eq_true rfl⟩) (xg_preV hB0 hP hK hN hS (xsF hk) rfl) rfl rfl hl.1 rfl (lv_room (Nat.le_of_ble_eq_true rfl)) dX2_linesOf_23 ⟨Nat.le_of_ble_eq_true rfl, Nat.le_of_ble_eq_true rfl⟩) hS (fun r4 h5 H locs hw hP hS => ?_)
    refine lv_isub hx hb dX2_linesOf_26 ?_
    exact xg_irets hx hb hr rfl hlocks hB0 hP hK hN hS dX2_linesOf_27 (by decide) (by decide) hw
  unfold w_X2_linesOf at hw
  refine lv_iload_n hx hb dX2_linesOf_0 rfl (lv_at hl 1 rfl) ?_
  refine lv_iconst (v := (-1)) hx hb dX2_linesOf_1 (by decide) ?_
  refine lv_icmp_ne (tgt := 12) hx hb dX2_linesOf_2 (by decide) (fun c1 => ?_) (fun c1 => ?_)
  · have hw := hw.2 c1
    refine lv_aload_n hx hb dX2_linesOf_12 rfl (lv_at hl 0 rfl) ?_
    refine lv_iload_n hx hb dX2_linesOf_13 rfl (lv_at hl 1 rfl) ?_
    refine lv_iconst (v := 1) hx hb dX2_linesOf_14 (by decide) ?_
    refine lv_isub hx hb dX2_linesOf_15 ?_
    refine xg_calli (va_runV (As := [.int ((p0 - 1))]) (rest := []) ⟨hx, hb, hml, hown, hts⟩ (c_X2_startOf l hl9 hA k hk (p0 - 1) hw) (cwV 1 hts gX2_linesOf_X2_startOf rfl rfl rfl (by decide +kernel) ⟨Nat.le_of_ble_eq_true rfl, Nat.le_of_ble_eq_true rfl⟩) (xg_preV hB0 hP hK hN hS (xsF hk) rfl) rfl rfl hl.1 rfl (lv_room (Nat.le_of_ble_eq_true rfl)) dX2_linesOf_16 ⟨Nat.le_of_ble_eq_true rfl, Nat.le_of_ble_eq_true rfl⟩) hS (fun r2 h3 H locs hw hP hS => ?_)
    exact j_19 (r2) _ _ _ _ hw hP hS (lv_sub hl [0, 1] rfl)
  · have hw := hw.1 c1
    refine lv_aload_n hx hb dX2_linesOf_5 rfl (lv_at hl 0 rfl) ?_
    refine xg_get (C := RX2) (TC := TX2) (N := 10) hx hb hts iX2 hown hK hP (xsF hk) rfl 2 (by decide) f_18 (fun _ h9 => h9) rfl dX2_linesOf_6 ?_
    refine lv_goto (tgt := 19) hx hb dX2_linesOf_9 (by decide) ?_
    exact j_19 ((h k 2)) _ _ _ _ hw hP hS (lv_sub hl [0, 1] rfl)
set_option maxHeartbeats 4000000 in
set_option maxRecDepth 100000 in
theorem c_X2_lineAt (l : Launch) (hl9 : l.stackTraces = false) {B0 : Nat} {ad : Nat → Nat} {D : va_G} {T : Nat → ClassId} (hA : XA B0 ad) (k : Nat) (hk : 30 ≤ k ∧ k < 34) (p0 : Int32) (p1 : Int32) {h : xH} {K : Int32 → xH → Prop} (hw : w_X2_lineAt k p0 p1 h K) : XM l yX2_lineAt wsX2_lineAt ({ frames := 1, cells := 0, slots := 0, locals := 22 } : Room) B0 ad D T h [.ref (ad (k)), .int (p0), .int (p1)] xei K 0 0 := by
  unfold XM
  refine Met.ofW (cc := cX2_lineAt) (maxL := 4) (ret := (some .int)) (by decide) rfl ?_
  intro p e s m args below meth c s₁ B hml hv
  obtain ⟨rfl, hB0, hP, hK, hN⟩ := hv
  have hx := B.exec
  have hb := B.bytes
  have hr := B.returns
  have hts := atoms_spec (ws := wsX2_lineAt) B.pre
  have hown : s.vm.findClass RX2 = some m.cls := findClass_of_methodNamed B.named
  have hlocks := B.notSynchronized
  have iX2 : ∀ w ∈ u_ws RX2 TX2 10, w ∈ wsX2_lineAt := by decide +kernel
  have f_9 := hts (.fieldLink RX2 9 "LogSpooler$LogFile" "row" "[I") (by decide +kernel)
  have hS : va_S (fun q => B0 ≤ q) s.heap s.heap [] := va_S.rf
  have hl := lv_entry ([.ref (ad (k)), .int (p0), .int (p1)]) (n := 4) (Nat.le_of_ble_eq_true rfl)
  rw [lg_entry_eq]
  generalize (lg_sl ([.ref (ad (k)), .int (p0), .int (p1)]) ++ List.replicate (4 - (lg_sl ([.ref (ad (k)), .int (p0), .int (p1)])).length) Slot.unset).toArray = ls at hl ⊢
  have hl : lv_has ls 4 [(0, .ref (ad (k))), (1, .int (p0)), (2, .int (p1))] := hl
  unfold w_X2_lineAt at hw
  refine lv_aload_n hx hb dX2_lineAt_0 rfl (lv_at hl 0 rfl) ?_
  refine lv_iload_n hx hb dX2_lineAt_1 rfl (lv_at hl 1 rfl) ?_
  refine xg_calli (va_runV (As := [.int (p0)]) (rest := []) ⟨hx, hb, hml, hown, hts⟩ (c_X2_startOf l hl9 hA k hk p0 hw) (cwV 1 hts gX2_lineAt_X2_startOf rfl rfl rfl (by decide +kernel) ⟨Nat.le_of_ble_eq_true rfl, Nat.le_of_ble_eq_true rfl⟩) (xg_preV hB0 hP hK hN hS (xsF hk) rfl) rfl rfl hl.1 rfl (lv_room (Nat.le_of_ble_eq_true rfl)) dX2_lineAt_2 ⟨Nat.le_of_ble_eq_true rfl, Nat.le_of_ble_eq_true rfl⟩) hS (fun r1 h2 H locs hw hP hS => ?_)
  refine lv_iload_n hx hb dX2_lineAt_5 rfl (lv_at hl 2 rfl) ?_
  refine lv_iadd hx hb dX2_lineAt_6 ?_
  refine lv_topi (fun x3 ex3 => ?_)
  have hw := hw x3 ex3
  refine lv_istore_n (lv' := [(3, .int (x3)), (0, .ref (ad (k))), (1, .int (p0)), (2, .int (p1))]) hx hb dX2_lineAt_7 rfl hl (by decide) rfl (fun ls hl => ?_)
  refine lv_iload_n hx hb dX2_lineAt_8 rfl (lv_at hl 0 rfl) ?_
  refine lv_if_lt (tgt := 30) hx hb dX2_lineAt_9 (by decide) (fun c4 => ?_) (fun c4 => ?_)
  · have hw := hw.1 c4
    refine lv_iconst (v := (-1)) hx hb dX2_lineAt_30 (by decide) ?_
    exact xg_irets hx hb hr rfl hlocks hB0 hP hK hN hS dX2_lineAt_31 (by decide) (by decide) hw
  · have hw := hw.2 c4
    refine lv_iload_n hx hb dX2_lineAt_12 rfl (lv_at hl 0 rfl) ?_
    refine lv_aload_n hx hb dX2_lineAt_13 rfl (lv_at hl 1 rfl) ?_
    refine xg_getr (C := RX2) (TC := TX2) (N := 10) hx hb hts iX2 hown hK hP (xsF hk) rfl 0 (by decide) f_9 (fun _ h9 => h9) rfl dX2_lineAt_14 ?_
    refine xg_alen (v := 400) hx hb hK hP (xsFr hk) rfl dX2_lineAt_17 ?_
    refine lv_icmp_ge (tgt := 30) hx hb dX2_lineAt_18 (by decide) (fun c5 => ?_) (fun c5 => ?_)
    · have hw := hw.1 c5
      refine lv_iconst (v := (-1)) hx hb dX2_lineAt_30 (by decide) ?_
      exact xg_irets hx hb hr rfl hlocks hB0 hP hK hN hS dX2_lineAt_31 (by decide) (by decide) hw
    · have hw := hw.2 c5
      refine lv_aload_n hx hb dX2_lineAt_21 rfl (lv_at hl 1 rfl) ?_
      refine xg_getr (C := RX2) (TC := TX2) (N := 10) hx hb hts iX2 hown hK hP (xsF hk) rfl 0 (by decide) f_9 (fun _ h9 => h9) rfl dX2_lineAt_22 ?_
      refine lv_iload_n hx hb dX2_lineAt_25 rfl (lv_at hl 0 rfl) ?_
      obtain ⟨hi6, hw⟩ := hw
      refine xg_iald hx hb hK hP (xsFr hk) hi6 dX2_lineAt_26 ?_
      refine lv_goto (tgt := 31) hx hb dX2_lineAt_27 (by decide) ?_
      exact xg_irets hx hb hr rfl hlocks hB0 hP hK hN hS dX2_lineAt_31 (by decide) (by decide) hw
set_option maxHeartbeats 4000000 in
set_option maxRecDepth 100000 in
theorem c_X3_put (l : Launch) (hl9 : l.stackTraces = false) {B0 : Nat} {ad : Nat → Nat} {D : va_G} {T : Nat → ClassId} (hA : XA B0 ad) (k : Nat) (hk : 20 ≤ k ∧ k < 26) (p0 : Int32) (p1 : Int32) (p2 : Int32) (p3 : Int32) {h : xH} {K : Unit → xH → Prop} (hw : w_X3_put k p0 p1 p2 p3 h K) : XM l yX3_put wsX3_put ({ frames := 0, cells := 0, slots := 0, locals := 0 } : Room) B0 ad D T h [.ref (ad (k)), .int (p0), .int (p1), .int (p2), .int (p3)] xev K 0 0 := by
  unfold XM
  refine Met.ofW (cc := cX3_put) (maxL := 5) (ret := none) (by decide) rfl ?_
  intro p e s m args below meth c s₁ B hml hv
  obtain ⟨rfl, hB0, hP, hK, hN⟩ := hv
  have hx := B.exec
  have hb := B.bytes
  have hr := B.returns
  have hts := atoms_spec (ws := wsX3_put) B.pre
  have hown : s.vm.findClass RX3 = some m.cls := findClass_of_methodNamed B.named
  have hlocks := B.notSynchronized
  have iX3 : ∀ w ∈ u_ws RX3 TX3 5, w ∈ wsX3_put := by decide +kernel
  have f_9 := hts (.fieldLink RX3 9 "LogSpooler$Rule" "isSet" "Z") (by decide +kernel)
  have f_15 := hts (.fieldLink RX3 15 "LogSpooler$Rule" "facilities" "I") (by decide +kernel)
  have f_19 := hts (.fieldLink RX3 19 "LogSpooler$Rule" "severity" "I") (by decide +kernel)
  have f_22 := hts (.fieldLink RX3 22 "LogSpooler$Rule" "sender" "I") (by decide +kernel)
  have f_25 := hts (.fieldLink RX3 25 "LogSpooler$Rule" "target" "I") (by decide +kernel)
  have hS : va_S (fun q => B0 ≤ q) s.heap s.heap [] := va_S.rf
  have hl := lv_entry ([.ref (ad (k)), .int (p0), .int (p1), .int (p2), .int (p3)]) (n := 5) (Nat.le_of_ble_eq_true rfl)
  rw [lg_entry_eq]
  generalize (lg_sl ([.ref (ad (k)), .int (p0), .int (p1), .int (p2), .int (p3)]) ++ List.replicate (5 - (lg_sl ([.ref (ad (k)), .int (p0), .int (p1), .int (p2), .int (p3)])).length) Slot.unset).toArray = ls at hl ⊢
  have hl : lv_has ls 5 [(0, .ref (ad (k))), (1, .int (p0)), (2, .int (p1)), (3, .int (p2)), (4, .int (p3))] := hl
  unfold w_X3_put at hw
  refine lv_aload_n hx hb dX3_put_0 rfl (lv_at hl 0 rfl) ?_
  refine lv_iconst (v := 1) hx hb dX3_put_1 (by decide) ?_
  refine xg_put (C := RX3) (TC := TX3) (N := 5) hx hb hts iX3 tyX3 tyX3_ok nmX3 hown hK hP hA hS (xsR hk) rfl 0 (by decide) f_9 (fun _ h9 => h9) rfl rfl (ty := .boolean) (by decide +kernel) rfl rfl dX3_put_2 (fun H locs h1 eh1 hP hS => ?_)
  have hw := hw h1 eh1
  refine lv_aload_n hx hb dX3_put_5 rfl (lv_at hl 0 rfl) ?_
  refine lv_iload_n hx hb dX3_put_6 rfl (lv_at hl 1 rfl) ?_
  refine xg_put (C := RX3) (TC := TX3) (N := 5) hx hb hts iX3 tyX3 tyX3_ok nmX3 hown hK hP hA hS (xsR hk) rfl 1 (by decide) f_15 (fun _ h9 => h9) rfl rfl (ty := .int) (by decide +kernel) rfl rfl dX3_put_7 (fun H locs h2 eh2 hP hS => ?_)
  have hw := hw h2 eh2
  refine lv_aload_n hx hb dX3_put_10 rfl (lv_at hl 0 rfl) ?_
  refine lv_iload_n hx hb dX3_put_11 rfl (lv_at hl 2 rfl) ?_
  refine xg_put (C := RX3) (TC := TX3) (N := 5) hx hb hts iX3 tyX3 tyX3_ok nmX3 hown hK hP hA hS (xsR hk) rfl 2 (by decide) f_19 (fun _ h9 => h9) rfl rfl (ty := .int) (by decide +kernel) rfl rfl dX3_put_12 (fun H locs h3 eh3 hP hS => ?_)
  have hw := hw h3 eh3
  refine lv_aload_n hx hb dX3_put_15 rfl (lv_at hl 0 rfl) ?_
  refine lv_iload_n hx hb dX3_put_16 rfl (lv_at hl 3 rfl) ?_
  refine xg_put (C := RX3) (TC := TX3) (N := 5) hx hb hts iX3 tyX3 tyX3_ok nmX3 hown hK hP hA hS (xsR hk) rfl 3 (by decide) f_22 (fun _ h9 => h9) rfl rfl (ty := .int) (by decide +kernel) rfl rfl dX3_put_17 (fun H locs h4 eh4 hP hS => ?_)
  have hw := hw h4 eh4
  refine lv_aload_n hx hb dX3_put_20 rfl (lv_at hl 0 rfl) ?_
  refine lv_iload hx hb dX3_put_21 (lv_at hl 4 rfl) ?_
  refine xg_put (C := RX3) (TC := TX3) (N := 5) hx hb hts iX3 tyX3 tyX3_ok nmX3 hown hK hP hA hS (xsR hk) rfl 4 (by decide) f_25 (fun _ h9 => h9) rfl rfl (ty := .int) (by decide +kernel) rfl rfl dX3_put_23 (fun H locs h5 eh5 hP hS => ?_)
  have hw := hw h5 eh5
  exact xg_vrets hx hb hr hlocks hB0 hP hK hN hS dX3_put_26 (by decide) (by decide) hw
set_option maxHeartbeats 4000000 in
set_option maxRecDepth 100000 in
theorem c_X3_fits (l : Launch) (hl9 : l.stackTraces = false) {B0 : Nat} {ad : Nat → Nat} {D : va_G} {T : Nat → ClassId} (hA : XA B0 ad) (k : Nat) (hk : 20 ≤ k ∧ k < 26) (p0 : Int32) (p1 : Int32) (p2 : Int32) {h : xH} {K : Int32 → xH → Prop} (hw : w_X3_fits k p0 p1 p2 h K) : XM l yX3_fits wsX3_fits ({ frames := 0, cells := 0, slots := 0, locals := 0 } : Room) B0 ad D T h [.ref (ad (k)), .int (p0), .int (p1), .int (p2)] xei K 0 0 := by
  unfold XM
  refine Met.ofW (cc := cX3_fits) (maxL := 4) (ret := (some .boolean)) (by decide) rfl ?_
  intro p e s m args below meth c s₁ B hml hv
  obtain ⟨rfl, hB0, hP, hK, hN⟩ := hv
  have hx := B.exec
  have hb := B.bytes
  have hr := B.returns
  have hts := atoms_spec (ws := wsX3_fits) B.pre
  have hown : s.vm.findClass RX3 = some m.cls := findClass_of_methodNamed B.named
  have hlocks := B.notSynchronized
  have iX3 : ∀ w ∈ u_ws RX3 TX3 5, w ∈ wsX3_fits := by decide +kernel
  have f_9 := hts (.fieldLink RX3 9 "LogSpooler$Rule" "isSet" "Z") (by decide +kernel)
  have f_15 := hts (.fieldLink RX3 15 "LogSpooler$Rule" "facilities" "I") (by decide +kernel)
  have f_19 := hts (.fieldLink RX3 19 "LogSpooler$Rule" "severity" "I") (by decide +kernel)
  have f_22 := hts (.fieldLink RX3 22 "LogSpooler$Rule" "sender" "I") (by decide +kernel)
  have hS : va_S (fun q => B0 ≤ q) s.heap s.heap [] := va_S.rf
  have hl := lv_entry ([.ref (ad (k)), .int (p0), .int (p1), .int (p2)]) (n := 4) (Nat.le_of_ble_eq_true rfl)
  rw [lg_entry_eq]
  generalize (lg_sl ([.ref (ad (k)), .int (p0), .int (p1), .int (p2)]) ++ List.replicate (4 - (lg_sl ([.ref (ad (k)), .int (p0), .int (p1), .int (p2)])).length) Slot.unset).toArray = ls at hl ⊢
  have hl : lv_has ls 4 [(0, .ref (ad (k))), (1, .int (p0)), (2, .int (p1)), (3, .int (p2))] := hl
  have j_43 : ∀ (h : xH) (H : Heap) (locs : List Loc) (ls : Array Slot), w_X3_fits_43 k p0 p1 p2 K h → XP ad D T h H → va_S (fun q => B0 ≤ q) s.heap H locs → lv_has ls 4 [] → W p l e (headSpec wsX3_fits ({ frames := 0, cells := 0, slots := 0, locals := 0 } : Room)).room s m ([.ref (ad (k)), .int (p0), .int (p1), .int (p2)] : List Value).toArray below meth c H locs 0 0 (MQ below (XQ B0 ad D T xei K) ([.ref (ad (k)), .int (p0), .int (p1), .int (p2)] : List Value).toArray s 0 0 (fun q => B0 ≤ q)) (F0 m 43 ls []) := by
    intro h H locs ls hw hP hS hl 
    unfold w_X3_fits_43 at hw
    refine lv_iconst (v := 1) hx hb dX3_fits_43 (by decide) ?_
    refine lv_goto (tgt := 48) hx hb dX3_fits_44 (by decide) ?_
    exact xg_irets hx hb hr rfl hlocks hB0 hP hK hN hS dX3_fits_48 (by decide) (by decide) hw
  unfold w_X3_fits at hw
  refine lv_aload_n hx hb dX3_fits_0 rfl (lv_at hl 0 rfl) ?_
  refine xg_get (C := RX3) (TC := TX3) (N := 5) hx hb hts iX3 hown hK hP (xsR hk) rfl 0 (by decide) f_9 (fun _ h9 => h9) rfl dX3_fits_1 ?_
  refine lv_if_eq (tgt := 47) hx hb dX3_fits_4 (by decide) (fun c1 => ?_) (fun c1 => ?_)
  · have hw := hw.1 c1
    refine lv_iconst (v := 0) hx hb dX3_fits_47 (by decide) ?_
    exact xg_irets hx hb hr rfl hlocks hB0 hP hK hN hS dX3_fits_48 (by decide) (by decide) hw
  · have hw := hw.2 c1
    refine lv_aload_n hx hb dX3_fits_7 rfl (lv_at hl 0 rfl) ?_
    refine xg_get (C := RX3) (TC := TX3) (N := 5) hx hb hts iX3 hown hK hP (xsR hk) rfl 1 (by decide) f_15 (fun _ h9 => h9) rfl dX3_fits_8 ?_
    refine lv_iload_n hx hb dX3_fits_11 rfl (lv_at hl 2 rfl) ?_
    refine lv_ishr hx hb dX3_fits_12 ?_
    refine lv_iconst (v := 1) hx hb dX3_fits_13 (by decide) ?_
    refine lv_iand hx hb dX3_fits_14 ?_
    refine lv_iconst (v := 1) hx hb dX3_fits_15 (by decide) ?_
    refine lv_icmp_ne (tgt := 47) hx hb dX3_fits_16 (by decide) (fun c2 => ?_) (fun c2 => ?_)
    · have hw := hw.2 c2
      refine lv_iconst (v := 0) hx hb dX3_fits_47 (by decide) ?_
      exact xg_irets hx hb hr rfl hlocks hB0 hP hK hN hS dX3_fits_48 (by decide) (by decide) hw
    · have hw := hw.1 c2
      refine lv_iload_n hx hb dX3_fits_19 rfl (lv_at hl 3 rfl) ?_
      refine lv_aload_n hx hb dX3_fits_20 rfl (lv_at hl 0 rfl) ?_
      refine xg_get (C := RX3) (TC := TX3) (N := 5) hx hb hts iX3 hown hK hP (xsR hk) rfl 2 (by decide) f_19 (fun _ h9 => h9) rfl dX3_fits_21 ?_
      refine lv_icmp_gt (tgt := 47) hx hb dX3_fits_24 (by decide) (fun c3 => ?_) (fun c3 => ?_)
      · have hw := hw.1 c3
        refine lv_iconst (v := 0) hx hb dX3_fits_47 (by decide) ?_
        exact xg_irets hx hb hr rfl hlocks hB0 hP hK hN hS dX3_fits_48 (by decide) (by decide) hw
      · have hw := hw.2 c3
        refine lv_aload_n hx hb dX3_fits_27 rfl (lv_at hl 0 rfl) ?_
        refine xg_get (C := RX3) (TC := TX3) (N := 5) hx hb hts iX3 hown hK hP (xsR hk) rfl 3 (by decide) f_22 (fun _ h9 => h9) rfl dX3_fits_28 ?_
        refine lv_iconst (v := (-1)) hx hb dX3_fits_31 (by decide) ?_
        refine lv_icmp_eq (tgt := 43) hx hb dX3_fits_32 (by decide) (fun c4 => ?_) (fun c4 => ?_)
        · have hw := hw.1 c4
          exact j_43  _ _ _ _ hw hP hS (lv_sub hl [] rfl)
        · have hw := hw.2 c4
          refine lv_aload_n hx hb dX3_fits_35 rfl (lv_at hl 0 rfl) ?_
          refine xg_get (C := RX3) (TC := TX3) (N := 5) hx hb hts iX3 hown hK hP (xsR hk) rfl 3 (by decide) f_22 (fun _ h9 => h9) rfl dX3_fits_36 ?_
          refine lv_iload_n hx hb dX3_fits_39 rfl (lv_at hl 1 rfl) ?_
          refine lv_icmp_ne (tgt := 47) hx hb dX3_fits_40 (by decide) (fun c5 => ?_) (fun c5 => ?_)
          · have hw := hw.2 c5
            refine lv_iconst (v := 0) hx hb dX3_fits_47 (by decide) ?_
            exact xg_irets hx hb hr rfl hlocks hB0 hP hK hN hS dX3_fits_48 (by decide) (by decide) hw
          · have hw := hw.1 c5
            exact j_43  _ _ _ _ hw hP hS (lv_sub hl [] rfl)
set_option maxHeartbeats 4000000 in
set_option maxRecDepth 100000 in
theorem c_X4_capTokens (l : Launch) (hl9 : l.stackTraces = false) {B0 : Nat} {ad : Nat → Nat} {D : va_G} {T : Nat → ClassId} (hA : XA B0 ad) (k : Nat) (hk : 10 ≤ k ∧ k < 16) (p0 : Int32) {h : xH} {K : Unit → xH → Prop} (hw : w_X4_capTokens k p0 h K) : XM l yX4_capTokens wsX4_capTokens ({ frames := 0, cells := 0, slots := 0, locals := 0 } : Room) B0 ad D T h [.ref (ad (k)), .int (p0)] xev K 0 0 := by
  unfold XM
  refine Met.ofW (cc := cX4_capTokens) (maxL := 2) (ret := none) (by decide) rfl ?_
  intro p e s m args below meth c s₁ B hml hv
  obtain ⟨rfl, hB0, hP, hK, hN⟩ := hv
  have hx := B.exec
  have hb := B.bytes
  have hr := B.returns
  have hts := atoms_spec (ws := wsX4_capTokens) B.pre
  have hown : s.vm.findClass RX4 = some m.cls := findClass_of_methodNamed B.named
  have hlocks := B.notSynchronized
  have iX4 : ∀ w ∈ u_ws RX4 TX4 9, w ∈ wsX4_capTokens := by decide +kernel
  have f_36 := hts (.fieldLink RX4 36 "LogSpooler$Sender" "tokensLeft" "I") (by decide +kernel)
  have hS : va_S (fun q => B0 ≤ q) s.heap s.heap [] := va_S.rf
  have hl := lv_entry ([.ref (ad (k)), .int (p0)]) (n := 2) (Nat.le_of_ble_eq_true rfl)
  rw [lg_entry_eq]
  generalize (lg_sl ([.ref (ad (k)), .int (p0)]) ++ List.replicate (2 - (lg_sl ([.ref (ad (k)), .int (p0)])).length) Slot.unset).toArray = ls at hl ⊢
  have hl : lv_has ls 2 [(0, .ref (ad (k))), (1, .int (p0))] := hl
  unfold w_X4_capTokens at hw
  refine lv_aload_n hx hb dX4_capTokens_0 rfl (lv_at hl 0 rfl) ?_
  refine xg_get (C := RX4) (TC := TX4) (N := 9) hx hb hts iX4 hown hK hP (xsS hk) rfl 1 (by decide) f_36 (fun _ h9 => h9) rfl dX4_capTokens_1 ?_
  refine lv_iload_n hx hb dX4_capTokens_4 rfl (lv_at hl 1 rfl) ?_
  refine lv_icmp_le (tgt := 13) hx hb dX4_capTokens_5 (by decide) (fun c1 => ?_) (fun c1 => ?_)
  · have hw := hw.1 c1
    exact xg_vrets hx hb hr hlocks hB0 hP hK hN hS dX4_capTokens_13 (by decide) (by decide) hw
  · have hw := hw.2 c1
    refine lv_aload_n hx hb dX4_capTokens_8 rfl (lv_at hl 0 rfl) ?_
    refine lv_iload_n hx hb dX4_capTokens_9 rfl (lv_at hl 1 rfl) ?_
    refine xg_put (C := RX4) (TC := TX4) (N := 9) hx hb hts iX4 tyX4 tyX4_ok nmX4 hown hK hP hA hS (xsS hk) rfl 1 (by decide) f_36 (fun _ h9 => h9) rfl rfl (ty := .int) (by decide +kernel) rfl rfl dX4_capTokens_10 (fun H locs h2 eh2 hP hS => ?_)
    have hw := hw h2 eh2
    exact xg_vrets hx hb hr hlocks hB0 hP hK hN hS dX4_capTokens_13 (by decide) (by decide) hw
set_option maxHeartbeats 4000000 in
set_option maxRecDepth 100000 in
theorem c_X4_gainToken (l : Launch) (hl9 : l.stackTraces = false) {B0 : Nat} {ad : Nat → Nat} {D : va_G} {T : Nat → ClassId} (hA : XA B0 ad) (k : Nat) (hk : 10 ≤ k ∧ k < 16) (p0 : Int32) {h : xH} {K : Unit → xH → Prop} (hw : w_X4_gainToken k p0 h K) : XM l yX4_gainToken wsX4_gainToken ({ frames := 0, cells := 0, slots := 0, locals := 0 } : Room) B0 ad D T h [.ref (ad (k)), .int (p0)] xev K 0 0 := by
  unfold XM
  refine Met.ofW (cc := cX4_gainToken) (maxL := 2) (ret := none) (by decide) rfl ?_
  intro p e s m args below meth c s₁ B hml hv
  obtain ⟨rfl, hB0, hP, hK, hN⟩ := hv
  have hx := B.exec
  have hb := B.bytes
  have hr := B.returns
  have hts := atoms_spec (ws := wsX4_gainToken) B.pre
  have hown : s.vm.findClass RX4 = some m.cls := findClass_of_methodNamed B.named
  have hlocks := B.notSynchronized
  have iX4 : ∀ w ∈ u_ws RX4 TX4 9, w ∈ wsX4_gainToken := by decide +kernel
  have f_36 := hts (.fieldLink RX4 36 "LogSpooler$Sender" "tokensLeft" "I") (by decide +kernel)
  have hS : va_S (fun q => B0 ≤ q) s.heap s.heap [] := va_S.rf
  have hl := lv_entry ([.ref (ad (k)), .int (p0)]) (n := 2) (Nat.le_of_ble_eq_true rfl)
  rw [lg_entry_eq]
  generalize (lg_sl ([.ref (ad (k)), .int (p0)]) ++ List.replicate (2 - (lg_sl ([.ref (ad (k)), .int (p0)])).length) Slot.unset).toArray = ls at hl ⊢
  have hl : lv_has ls 2 [(0, .ref (ad (k))), (1, .int (p0))] := hl
  unfold w_X4_gainToken at hw
  refine lv_aload_n hx hb dX4_gainToken_0 rfl (lv_at hl 0 rfl) ?_
  refine xg_get (C := RX4) (TC := TX4) (N := 9) hx hb hts iX4 hown hK hP (xsS hk) rfl 1 (by decide) f_36 (fun _ h9 => h9) rfl dX4_gainToken_1 ?_
  refine lv_iload_n hx hb dX4_gainToken_4 rfl (lv_at hl 1 rfl) ?_
  refine lv_icmp_ge (tgt := 18) hx hb dX4_gainToken_5 (by decide) (fun c1 => ?_) (fun c1 => ?_)
  · have hw := hw.1 c1
    exact xg_vrets hx hb hr hlocks hB0 hP hK hN hS dX4_gainToken_18 (by decide) (by decide) hw
  · have hw := hw.2 c1
    refine lv_aload_n hx hb dX4_gainToken_8 rfl (lv_at hl 0 rfl) ?_
    refine lv_dup hx hb dX4_gainToken_9 rfl ?_
    refine xg_get (C := RX4) (TC := TX4) (N := 9) hx hb hts iX4 hown hK hP (xsS hk) rfl 1 (by decide) f_36 (fun _ h9 => h9) rfl dX4_gainToken_10 ?_
    refine lv_iconst (v := 1) hx hb dX4_gainToken_13 (by decide) ?_
    refine lv_iadd hx hb dX4_gainToken_14 ?_
    refine xg_put (C := RX4) (TC := TX4) (N := 9) hx hb hts iX4 tyX4 tyX4_ok nmX4 hown hK hP hA hS (xsS hk) rfl 1 (by decide) f_36 (fun _ h9 => h9) rfl rfl (ty := .int) (by decide +kernel) rfl rfl dX4_gainToken_15 (fun H locs h2 eh2 hP hS => ?_)
    have hw := hw h2 eh2
    exact xg_vrets hx hb hr hlocks hB0 hP hK hN hS dX4_gainToken_18 (by decide) (by decide) hw
set_option maxHeartbeats 4000000 in
set_option maxRecDepth 100000 in
theorem c_X4_lastIs (l : Launch) (hl9 : l.stackTraces = false) {B0 : Nat} {ad : Nat → Nat} {D : va_G} {T : Nat → ClassId} (hA : XA B0 ad) (k : Nat) (hk : 10 ≤ k ∧ k < 16) (p0 : Int32) (p1 : Int32) (p2 : Int32) (p3 : Int32) {h : xH} {K : Int32 → xH → Prop} (hw : w_X4_lastIs k p0 p1 p2 p3 h K) : XM l yX4_lastIs wsX4_lastIs ({ frames := 0, cells := 0, slots := 0, locals := 0 } : Room) B0 ad D T h [.ref (ad (k)), .int (p0), .int (p1), .int (p2), .int (p3)] xei K 0 0 := by
  unfold XM
  refine Met.ofW (cc := cX4_lastIs) (maxL := 5) (ret := (some .boolean)) (by decide) rfl ?_
  intro p e s m args below meth c s₁ B hml hv
  obtain ⟨rfl, hB0, hP, hK, hN⟩ := hv
  have hx := B.exec
  have hb := B.bytes
  have hr := B.returns
  have hts := atoms_spec (ws := wsX4_lastIs) B.pre
  have hown : s.vm.findClass RX4 = some m.cls := findClass_of_methodNamed B.named
  have hlocks := B.notSynchronized
  have iX4 : ∀ w ∈ u_ws RX4 TX4 9, w ∈ wsX4_lastIs := by decide +kernel
  have f_21 := hts (.fieldLink RX4 21 "LogSpooler$Sender" "lastFacility" "I") (by decide +kernel)
  have f_24 := hts (.fieldLink RX4 24 "LogSpooler$Sender" "lastSeverity" "I") (by decide +kernel)
  have f_27 := hts (.fieldLink RX4 27 "LogSpooler$Sender" "lastText" "I") (by decide +kernel)
  have f_30 := hts (.fieldLink RX4 30 "LogSpooler$Sender" "lastLength" "I") (by decide +kernel)
  have hS : va_S (fun q => B0 ≤ q) s.heap s.heap [] := va_S.rf
  have hl := lv_entry ([.ref (ad (k)), .int (p0), .int (p1), .int (p2), .int (p3)]) (n := 5) (Nat.le_of_ble_eq_true rfl)
  rw [lg_entry_eq]
  generalize (lg_sl ([.ref (ad (k)), .int (p0), .int (p1), .int (p2), .int (p3)]) ++ List.replicate (5 - (lg_sl ([.ref (ad (k)), .int (p0), .int (p1), .int (p2), .int (p3)])).length) Slot.unset).toArray = ls at hl ⊢
  have hl : lv_has ls 5 [(0, .ref (ad (k))), (1, .int (p0)), (2, .int (p1)), (3, .int (p2)), (4, .int (p3))] := hl
  unfold w_X4_lastIs at hw
  refine lv_aload_n hx hb dX4_lastIs_0 rfl (lv_at hl 0 rfl) ?_
  refine xg_get (C := RX4) (TC := TX4) (N := 9) hx hb hts iX4 hown hK hP (xsS hk) rfl 5 (by decide) f_21 (fun _ h9 => h9) rfl dX4_lastIs_1 ?_
  refine lv_iload_n hx hb dX4_lastIs_4 rfl (lv_at hl 1 rfl) ?_
  refine lv_icmp_ne (tgt := 37) hx hb dX4_lastIs_5 (by decide) (fun c1 => ?_) (fun c1 => ?_)
  · have hw := hw.2 c1
    refine lv_iconst (v := 0) hx hb dX4_lastIs_37 (by decide) ?_
    exact xg_irets hx hb hr rfl hlocks hB0 hP hK hN hS dX4_lastIs_38 (by decide) (by decide) hw
  · have hw := hw.1 c1
    refine lv_aload_n hx hb dX4_lastIs_8 rfl (lv_at hl 0 rfl) ?_
    refine xg_get (C := RX4) (TC := TX4) (N := 9) hx hb hts iX4 hown hK hP (xsS hk) rfl 6 (by decide) f_24 (fun _ h9 => h9) rfl dX4_lastIs_9 ?_
    refine lv_iload_n hx hb dX4_lastIs_12 rfl (lv_at hl 2 rfl) ?_
    refine lv_icmp_ne (tgt := 37) hx hb dX4_lastIs_13 (by decide) (fun c2 => ?_) (fun c2 => ?_)
    · have hw := hw.2 c2
      refine lv_iconst (v := 0) hx hb dX4_lastIs_37 (by decide) ?_
      exact xg_irets hx hb hr rfl hlocks hB0 hP hK hN hS dX4_lastIs_38 (by decide) (by decide) hw
    · have hw := hw.1 c2
      refine lv_aload_n hx hb dX4_lastIs_16 rfl (lv_at hl 0 rfl) ?_
      refine xg_get (C := RX4) (TC := TX4) (N := 9) hx hb hts iX4 hown hK hP (xsS hk) rfl 7 (by decide) f_27 (fun _ h9 => h9) rfl dX4_lastIs_17 ?_
      refine lv_iload_n hx hb dX4_lastIs_20 rfl (lv_at hl 3 rfl) ?_
      refine lv_icmp_ne (tgt := 37) hx hb dX4_lastIs_21 (by decide) (fun c3 => ?_) (fun c3 => ?_)
      · have hw := hw.2 c3
        refine lv_iconst (v := 0) hx hb dX4_lastIs_37 (by decide) ?_
        exact xg_irets hx hb hr rfl hlocks hB0 hP hK hN hS dX4_lastIs_38 (by decide) (by decide) hw
      · have hw := hw.1 c3
        refine lv_aload_n hx hb dX4_lastIs_24 rfl (lv_at hl 0 rfl) ?_
        refine xg_get (C := RX4) (TC := TX4) (N := 9) hx hb hts iX4 hown hK hP (xsS hk) rfl 8 (by decide) f_30 (fun _ h9 => h9) rfl dX4_lastIs_25 ?_
        refine lv_iload hx hb dX4_lastIs_28 (lv_at hl 4 rfl) ?_
        refine lv_icmp_ne (tgt := 37) hx hb dX4_lastIs_30 (by decide) (fun c4 => ?_) (fun c4 => ?_)
        · have hw := hw.2 c4
          refine lv_iconst (v := 0) hx hb dX4_lastIs_37 (by decide) ?_
          exact xg_irets hx hb hr rfl hlocks hB0 hP hK hN hS dX4_lastIs_38 (by decide) (by decide) hw
        · have hw := hw.1 c4
          refine lv_iconst (v := 1) hx hb dX4_lastIs_33 (by decide) ?_
          refine lv_goto (tgt := 38) hx hb dX4_lastIs_34 (by decide) ?_
          exact xg_irets hx hb hr rfl hlocks hB0 hP hK hN hS dX4_lastIs_38 (by decide) (by decide) hw
set_option maxHeartbeats 4000000 in
set_option maxRecDepth 100000 in
theorem c_X4_setLast (l : Launch) (hl9 : l.stackTraces = false) {B0 : Nat} {ad : Nat → Nat} {D : va_G} {T : Nat → ClassId} (hA : XA B0 ad) (k : Nat) (hk : 10 ≤ k ∧ k < 16) (p0 : Int32) (p1 : Int32) (p2 : Int32) (p3 : Int32) {h : xH} {K : Unit → xH → Prop} (hw : w_X4_setLast k p0 p1 p2 p3 h K) : XM l yX4_setLast wsX4_setLast ({ frames := 0, cells := 0, slots := 0, locals := 0 } : Room) B0 ad D T h [.ref (ad (k)), .int (p0), .int (p1), .int (p2), .int (p3)] xev K 0 0 := by
  unfold XM
  refine Met.ofW (cc := cX4_setLast) (maxL := 5) (ret := none) (by decide) rfl ?_
  intro p e s m args below meth c s₁ B hml hv
  obtain ⟨rfl, hB0, hP, hK, hN⟩ := hv
  have hx := B.exec
  have hb := B.bytes
  have hr := B.returns
  have hts := atoms_spec (ws := wsX4_setLast) B.pre
  have hown : s.vm.findClass RX4 = some m.cls := findClass_of_methodNamed B.named
  have hlocks := B.notSynchronized
  have iX4 : ∀ w ∈ u_ws RX4 TX4 9, w ∈ wsX4_setLast := by decide +kernel
  have f_21 := hts (.fieldLink RX4 21 "LogSpooler$Sender" "lastFacility" "I") (by decide +kernel)
  have f_24 := hts (.fieldLink RX4 24 "LogSpooler$Sender" "lastSeverity" "I") (by decide +kernel)
  have f_27 := hts (.fieldLink RX4 27 "LogSpooler$Sender" "lastText" "I") (by decide +kernel)
  have f_30 := hts (.fieldLink RX4 30 "LogSpooler$Sender" "lastLength" "I") (by decide +kernel)
  have hS : va_S (fun q => B0 ≤ q) s.heap s.heap [] := va_S.rf
  have hl := lv_entry ([.ref (ad (k)), .int (p0), .int (p1), .int (p2), .int (p3)]) (n := 5) (Nat.le_of_ble_eq_true rfl)
  rw [lg_entry_eq]
  generalize (lg_sl ([.ref (ad (k)), .int (p0), .int (p1), .int (p2), .int (p3)]) ++ List.replicate (5 - (lg_sl ([.ref (ad (k)), .int (p0), .int (p1), .int (p2), .int (p3)])).length) Slot.unset).toArray = ls at hl ⊢
  have hl : lv_has ls 5 [(0, .ref (ad (k))), (1, .int (p0)), (2, .int (p1)), (3, .int (p2)), (4, .int (p3))] := hl
  unfold w_X4_setLast at hw
  refine lv_aload_n hx hb dX4_setLast_0 rfl (lv_at hl 0 rfl) ?_
  refine lv_iload_n hx hb dX4_setLast_1 rfl (lv_at hl 1 rfl) ?_
  refine xg_put (C := RX4) (TC := TX4) (N := 9) hx hb hts iX4 tyX4 tyX4_ok nmX4 hown hK hP hA hS (xsS hk) rfl 5 (by decide) f_21 (fun _ h9 => h9) rfl rfl (ty := .int) (by decide +kernel) rfl rfl dX4_setLast_2 (fun H locs h1 eh1 hP hS => ?_)
  have hw := hw h1 eh1
  refine lv_aload_n hx hb dX4_setLast_5 rfl (lv_at hl 0 rfl) ?_
  refine lv_iload_n hx hb dX4_setLast_6 rfl (lv_at hl 2 rfl) ?_
  refine xg_put (C := RX4) (TC := TX4) (N := 9) hx hb hts iX4 tyX4 tyX4_ok nmX4 hown hK hP hA hS (xsS hk) rfl 6 (by decide) f_24 (fun _ h9 => h9) rfl rfl (ty := .int) (by decide +kernel) rfl rfl dX4_setLast_7 (fun H locs h2 eh2 hP hS => ?_)
  have hw := hw h2 eh2
  refine lv_aload_n hx hb dX4_setLast_10 rfl (lv_at hl 0 rfl) ?_
  refine lv_iload_n hx hb dX4_setLast_11 rfl (lv_at hl 3 rfl) ?_
  refine xg_put (C := RX4) (TC := TX4) (N := 9) hx hb hts iX4 tyX4 tyX4_ok nmX4 hown hK hP hA hS (xsS hk) rfl 7 (by decide) f_27 (fun _ h9 => h9) rfl rfl (ty := .int) (by decide +kernel) rfl rfl dX4_setLast_12 (fun H locs h3 eh3 hP hS => ?_)
  have hw := hw h3 eh3
  refine lv_aload_n hx hb dX4_setLast_15 rfl (lv_at hl 0 rfl) ?_
  refine lv_iload hx hb dX4_setLast_16 (lv_at hl 4 rfl) ?_
  refine xg_put (C := RX4) (TC := TX4) (N := 9) hx hb hts iX4 tyX4 tyX4_ok nmX4 hown hK hP hA hS (xsS hk) rfl 8 (by decide) f_30 (fun _ h9 => h9) rfl rfl (ty := .int) (by decide +kernel) rfl rfl dX4_setLast_18 (fun H locs h4 eh4 hP hS => ?_)
  have hw := hw h4 eh4
  exact xg_vrets hx hb hr hlocks hB0 hP hK hN hS dX4_setLast_21 (by decide) (by decide) hw
set_option maxHeartbeats 4000000 in
set_option maxRecDepth 100000 in
theorem c_X4_countRepeat (l : Launch) (hl9 : l.stackTraces = false) {B0 : Nat} {ad : Nat → Nat} {D : va_G} {T : Nat → ClassId} (hA : XA B0 ad) (k : Nat) (hk : 10 ≤ k ∧ k < 16) (p0 : Int32) {h : xH} {K : Unit → xH → Prop} (hw : w_X4_countRepeat k p0 h K) : XM l yX4_countRepeat wsX4_countRepeat ({ frames := 0, cells := 0, slots := 0, locals := 0 } : Room) B0 ad D T h [.ref (ad (k)), .int (p0)] xev K 0 0 := by
  unfold XM
  refine Met.ofW (cc := cX4_countRepeat) (maxL := 2) (ret := none) (by decide) rfl ?_
  intro p e s m args below meth c s₁ B hml hv
  obtain ⟨rfl, hB0, hP, hK, hN⟩ := hv
  have hx := B.exec
  have hb := B.bytes
  have hr := B.returns
  have hts := atoms_spec (ws := wsX4_countRepeat) B.pre
  have hown : s.vm.findClass RX4 = some m.cls := findClass_of_methodNamed B.named
  have hlocks := B.notSynchronized
  have iX4 : ∀ w ∈ u_ws RX4 TX4 9, w ∈ wsX4_countRepeat := by decide +kernel
  have f_9 := hts (.fieldLink RX4 9 "LogSpooler$Sender" "untoldRepeats" "I") (by decide +kernel)
  have f_15 := hts (.fieldLink RX4 15 "LogSpooler$Sender" "firstRepeat" "I") (by decide +kernel)
  have hS : va_S (fun q => B0 ≤ q) s.heap s.heap [] := va_S.rf
  have hl := lv_entry ([.ref (ad (k)), .int (p0)]) (n := 2) (Nat.le_of_ble_eq_true rfl)
  rw [lg_entry_eq]
  generalize (lg_sl ([.ref (ad (k)), .int (p0)]) ++ List.replicate (2 - (lg_sl ([.ref (ad (k)), .int (p0)])).length) Slot.unset).toArray = ls at hl ⊢
  have hl : lv_has ls 2 [(0, .ref (ad (k))), (1, .int (p0))] := hl
  have j_12 : ∀ (h : xH) (H : Heap) (locs : List Loc) (ls : Array Slot), w_X4_countRepeat_12 k p0 K h → XP ad D T h H → va_S (fun q => B0 ≤ q) s.heap H locs → lv_has ls 2 [(0, .ref (ad (k)))] → W p l e (headSpec wsX4_countRepeat ({ frames := 0, cells := 0, slots := 0, locals := 0 } : Room)).room s m ([.ref (ad (k)), .int (p0)] : List Value).toArray below meth c H locs 0 0 (MQ below (XQ B0 ad D T xev K) ([.ref (ad (k)), .int (p0)] : List Value).toArray s 0 0 (fun q => B0 ≤ q)) (F0 m 12 ls []) := by
    intro h H locs ls hw hP hS hl 
    unfold w_X4_countRepeat_12 at hw
    refine lv_aload_n hx hb dX4_countRepeat_12 rfl (lv_at hl 0 rfl) ?_
    refine lv_dup hx hb dX4_countRepeat_13 rfl ?_
    refine xg_get (C := RX4) (TC := TX4) (N := 9) hx hb hts iX4 hown hK hP (xsS hk) rfl 2 (by decide) f_9 (fun _ h9 => h9) rfl dX4_countRepeat_14 ?_
    refine lv_iconst (v := 1) hx hb dX4_countRepeat_17 (by decide) ?_
    refine lv_iadd hx hb dX4_countRepeat_18 ?_
    refine xg_put (C := RX4) (TC := TX4) (N := 9) hx hb hts iX4 tyX4 tyX4_ok nmX4 hown hK hP hA hS (xsS hk) rfl 2 (by decide) f_9 (fun _ h9 => h9) rfl rfl (ty := .int) (by decide +kernel) rfl rfl dX4_countRepeat_19 (fun H locs h3 eh3 hP hS => ?_)
    have hw := hw h3 eh3
    exact xg_vrets hx hb hr hlocks hB0 hP hK hN hS dX4_countRepeat_22 (by decide) (by decide) hw
  unfold w_X4_countRepeat at hw
  refine lv_aload_n hx hb dX4_countRepeat_0 rfl (lv_at hl 0 rfl) ?_
  refine xg_get (C := RX4) (TC := TX4) (N := 9) hx hb hts iX4 hown hK hP (xsS hk) rfl 2 (by decide) f_9 (fun _ h9 => h9) rfl dX4_countRepeat_1 ?_
  refine lv_if_ne (tgt := 12) hx hb dX4_countRepeat_4 (by decide) (fun c1 => ?_) (fun c1 => ?_)
  · have hw := hw.2 c1
    exact j_12  _ _ _ _ hw hP hS (lv_sub hl [0] rfl)
  · have hw := hw.1 c1
    refine lv_aload_n hx hb dX4_countRepeat_7 rfl (lv_at hl 0 rfl) ?_
    refine lv_iload_n hx hb dX4_countRepeat_8 rfl (lv_at hl 1 rfl) ?_
    refine xg_put (C := RX4) (TC := TX4) (N := 9) hx hb hts iX4 tyX4 tyX4_ok nmX4 hown hK hP hA hS (xsS hk) rfl 3 (by decide) f_15 (fun _ h9 => h9) rfl rfl (ty := .int) (by decide +kernel) rfl rfl dX4_countRepeat_9 (fun H locs h2 eh2 hP hS => ?_)
    have hw := hw h2 eh2
    exact j_12  _ _ _ _ hw hP hS (lv_sub hl [0] rfl)
end
section
set_option maxRecDepth 20000 in
theorem ggX5_init_X0_init : GoodIn wsX5_init wsX0_init := goodIn_r _ [29, 30, 2, 3, 31, 32, 33, 34, 35, 36, 37, 87, 88, 89, 90, 91, 92] (by decide +kernel) (by decide +kernel)
set_option maxRecDepth 20000 in
theorem gX5_init_X0_init_n29 : GoodIn wsX5_init (wsX0_init) := ggX5_init_X0_init
set_option maxRecDepth 20000 in
theorem ggX5_init_X1_init : GoodIn wsX5_init wsX1_init := goodIn_r _ [39, 40, 2, 3, 31, 41, 42, 43, 93, 94, 95] (by decide +kernel) (by decide +kernel)
set_option maxRecDepth 20000 in
theorem gX5_init_X1_init_n36 : GoodIn wsX5_init (wsX1_init) := ggX5_init_X1_init
set_option maxRecDepth 20000 in
theorem ggX5_init_X4_init : GoodIn wsX5_init wsX4_init := goodIn_r _ [46, 47, 2, 3, 48, 49, 50, 51, 52, 53, 54, 55, 56, 96, 97, 98, 99, 100, 101, 102, 103, 104] (by decide +kernel) (by decide +kernel)
set_option maxRecDepth 20000 in
theorem gX5_init_X4_init : GoodIn wsX5_init (wsX4_init) := ggX5_init_X4_init
set_option maxRecDepth 20000 in
theorem ggX5_init_X3_init : GoodIn wsX5_init wsX3_init := goodIn_r _ [58, 59, 2, 3, 60, 61, 62, 63, 64, 105, 106, 107, 108, 109] (by decide +kernel) (by decide +kernel)
set_option maxRecDepth 20000 in
theorem gX5_init_X3_init_n57 : GoodIn wsX5_init (wsX3_init) := ggX5_init_X3_init
set_option maxRecDepth 20000 in
theorem ggX5_init_X2_init : GoodIn wsX5_init wsX2_init := goodIn_r _ [66, 67, 2, 3, 31, 68, 69, 70, 71, 72, 73, 74, 75, 76, 77, 110, 111, 112, 113, 114, 115, 116, 117, 118, 119] (by decide +kernel) (by decide +kernel)
set_option maxRecDepth 20000 in
theorem gX5_init_X2_init_n58 : GoodIn wsX5_init (wsX2_init) := ggX5_init_X2_init
theorem dX5_init_0 : decode cX5_init 0 = .ok (.aload_n 0, 1) := by decide +kernel
theorem dX5_init_1 : decode cX5_init 1 = .ok (.invokespecial 3, 3) := by decide +kernel
theorem dX5_init_4 : decode cX5_init 4 = .ok (.aload_n 0, 1) := by decide +kernel
theorem dX5_init_5 : decode cX5_init 5 = .ok (.bipush 6, 2) := by decide +kernel
theorem dX5_init_7 : decode cX5_init 7 = .ok (.anewarray 9, 3) := by decide +kernel
theorem dX5_init_10 : decode cX5_init 10 = .ok (.putfield 11, 3) := by decide +kernel
theorem dX5_init_13 : decode cX5_init 13 = .ok (.aload_n 0, 1) := by decide +kernel
theorem dX5_init_14 : decode cX5_init 14 = .ok (.bipush 6, 2) := by decide +kernel
theorem dX5_init_16 : decode cX5_init 16 = .ok (.anewarray 15, 3) := by decide +kernel
theorem dX5_init_19 : decode cX5_init 19 = .ok (.putfield 17, 3) := by decide +kernel
theorem dX5_init_22 : decode cX5_init 22 = .ok (.aload_n 0, 1) := by decide +kernel
theorem dX5_init_23 : decode cX5_init 23 = .ok (.iconst 4, 1) := by decide +kernel
theorem dX5_init_24 : decode cX5_init 24 = .ok (.anewarray 21, 3) := by decide +kernel
theorem dX5_init_27 : decode cX5_init 27 = .ok (.putfield 23, 3) := by decide +kernel
theorem dX5_init_30 : decode cX5_init 30 = .ok (.aload_n 0, 1) := by decide +kernel
theorem dX5_init_31 : decode cX5_init 31 = .ok (.new 27, 3) := by decide +kernel
theorem dX5_init_34 : decode cX5_init 34 = .ok (.dup, 1) := by decide +kernel
theorem dX5_init_35 : decode cX5_init 35 = .ok (.invokespecial 29, 3) := by decide +kernel
theorem dX5_init_38 : decode cX5_init 38 = .ok (.putfield 30, 3) := by decide +kernel
theorem dX5_init_41 : decode cX5_init 41 = .ok (.aload_n 0, 1) := by decide +kernel
theorem dX5_init_42 : decode cX5_init 42 = .ok (.new 34, 3) := by decide +kernel
theorem dX5_init_45 : decode cX5_init 45 = .ok (.dup, 1) := by decide +kernel
theorem dX5_init_46 : decode cX5_init 46 = .ok (.invokespecial 36, 3) := by decide +kernel
theorem dX5_init_49 : decode cX5_init 49 = .ok (.putfield 37, 3) := by decide +kernel
theorem dX5_init_52 : decode cX5_init 52 = .ok (.aload_n 0, 1) := by decide +kernel
theorem dX5_init_53 : decode cX5_init 53 = .ok (.iconst 0, 1) := by decide +kernel
theorem dX5_init_54 : decode cX5_init 54 = .ok (.putfield 41, 3) := by decide +kernel
theorem dX5_init_57 : decode cX5_init 57 = .ok (.aload_n 0, 1) := by decide +kernel
theorem dX5_init_58 : decode cX5_init 58 = .ok (.iconst 5, 1) := by decide +kernel
theorem dX5_init_59 : decode cX5_init 59 = .ok (.putfield 45, 3) := by decide +kernel
theorem dX5_init_62 : decode cX5_init 62 = .ok (.aload_n 0, 1) := by decide +kernel
theorem dX5_init_63 : decode cX5_init 63 = .ok (.bipush 10, 2) := by decide +kernel
theorem dX5_init_65 : decode cX5_init 65 = .ok (.putfield 48, 3) := by decide +kernel
theorem dX5_init_68 : decode cX5_init 68 = .ok (.aload_n 0, 1) := by decide +kernel
theorem dX5_init_69 : decode cX5_init 69 = .ok (.bipush 30, 2) := by decide +kernel
theorem dX5_init_71 : decode cX5_init 71 = .ok (.putfield 51, 3) := by decide +kernel
theorem dX5_init_74 : decode cX5_init 74 = .ok (.iconst 0, 1) := by decide +kernel
theorem dX5_init_75 : decode cX5_init 75 = .ok (.istore_n 1, 1) := by decide +kernel
theorem dX5_init_76 : decode cX5_init 76 = .ok (.iload_n 1, 1) := by decide +kernel
theorem dX5_init_77 : decode cX5_init 77 = .ok (.bipush 6, 2) := by decide +kernel
theorem dX5_init_79 : decode cX5_init 79 = .ok (.if_icmp .ge 27, 3) := by decide +kernel
theorem dX5_init_82 : decode cX5_init 82 = .ok (.aload_n 0, 1) := by decide +kernel
theorem dX5_init_83 : decode cX5_init 83 = .ok (.getfield 11, 3) := by decide +kernel
theorem dX5_init_86 : decode cX5_init 86 = .ok (.iload_n 1, 1) := by decide +kernel
theorem dX5_init_87 : decode cX5_init 87 = .ok (.new 9, 3) := by decide +kernel
theorem dX5_init_90 : decode cX5_init 90 = .ok (.dup, 1) := by decide +kernel
theorem dX5_init_91 : decode cX5_init 91 = .ok (.iload_n 1, 1) := by decide +kernel
theorem dX5_init_92 : decode cX5_init 92 = .ok (.aload_n 0, 1) := by decide +kernel
theorem dX5_init_93 : decode cX5_init 93 = .ok (.getfield 45, 3) := by decide +kernel
theorem dX5_init_96 : decode cX5_init 96 = .ok (.invokespecial 54, 3) := by decide +kernel
theorem dX5_init_99 : decode cX5_init 99 = .ok (.aastore, 1) := by decide +kernel
theorem dX5_init_100 : decode cX5_init 100 = .ok (.iinc 1 1, 3) := by decide +kernel
theorem dX5_init_103 : decode cX5_init 103 = .ok (.goto (-27), 3) := by decide +kernel
theorem dX5_init_106 : decode cX5_init 106 = .ok (.iconst 0, 1) := by decide +kernel
theorem dX5_init_107 : decode cX5_init 107 = .ok (.istore_n 1, 1) := by decide +kernel
theorem dX5_init_108 : decode cX5_init 108 = .ok (.iload_n 1, 1) := by decide +kernel
theorem dX5_init_109 : decode cX5_init 109 = .ok (.bipush 6, 2) := by decide +kernel
theorem dX5_init_111 : decode cX5_init 111 = .ok (.if_icmp .ge 22, 3) := by decide +kernel
theorem dX5_init_114 : decode cX5_init 114 = .ok (.aload_n 0, 1) := by decide +kernel
theorem dX5_init_115 : decode cX5_init 115 = .ok (.getfield 17, 3) := by decide +kernel
theorem dX5_init_118 : decode cX5_init 118 = .ok (.iload_n 1, 1) := by decide +kernel
theorem dX5_init_119 : decode cX5_init 119 = .ok (.new 15, 3) := by decide +kernel
theorem dX5_init_122 : decode cX5_init 122 = .ok (.dup, 1) := by decide +kernel
theorem dX5_init_123 : decode cX5_init 123 = .ok (.invokespecial 57, 3) := by decide +kernel
theorem dX5_init_126 : decode cX5_init 126 = .ok (.aastore, 1) := by decide +kernel
theorem dX5_init_127 : decode cX5_init 127 = .ok (.iinc 1 1, 3) := by decide +kernel
theorem dX5_init_130 : decode cX5_init 130 = .ok (.goto (-22), 3) := by decide +kernel
theorem dX5_init_133 : decode cX5_init 133 = .ok (.iconst 0, 1) := by decide +kernel
theorem dX5_init_134 : decode cX5_init 134 = .ok (.istore_n 1, 1) := by decide +kernel
theorem dX5_init_135 : decode cX5_init 135 = .ok (.iload_n 1, 1) := by decide +kernel
theorem dX5_init_136 : decode cX5_init 136 = .ok (.iconst 4, 1) := by decide +kernel
theorem dX5_init_137 : decode cX5_init 137 = .ok (.if_icmp .ge 22, 3) := by decide +kernel
theorem dX5_init_140 : decode cX5_init 140 = .ok (.aload_n 0, 1) := by decide +kernel
theorem dX5_init_141 : decode cX5_init 141 = .ok (.getfield 23, 3) := by decide +kernel
theorem dX5_init_144 : decode cX5_init 144 = .ok (.iload_n 1, 1) := by decide +kernel
theorem dX5_init_145 : decode cX5_init 145 = .ok (.new 21, 3) := by decide +kernel
theorem dX5_init_148 : decode cX5_init 148 = .ok (.dup, 1) := by decide +kernel
theorem dX5_init_149 : decode cX5_init 149 = .ok (.invokespecial 58, 3) := by decide +kernel
theorem dX5_init_152 : decode cX5_init 152 = .ok (.aastore, 1) := by decide +kernel
theorem dX5_init_153 : decode cX5_init 153 = .ok (.iinc 1 1, 3) := by decide +kernel
theorem dX5_init_156 : decode cX5_init 156 = .ok (.goto (-21), 3) := by decide +kernel
theorem dX5_init_159 : decode cX5_init 159 = .ok (.return_, 1) := by decide +kernel
set_option maxRecDepth 20000 in
theorem ggX5_setRate_X5_isWithin : GoodIn wsX5_setRate wsX5_isWithin := goodIn_r _ [9] (by decide +kernel) (by decide +kernel)
set_option maxRecDepth 20000 in
theorem gX5_setRate_X5_isWithin : GoodIn wsX5_setRate (va_wsS RX5 59 yX5_isWithin wsX5_isWithin) := goodIn_app (goodIn_of _ (by decide +kernel)) ggX5_setRate_X5_isWithin
set_option maxRecDepth 20000 in
theorem ggX5_setRate_X4_capTokens : GoodIn wsX5_setRate wsX4_capTokens := goodIn_r _ [14, 15, 25, 26, 27, 28, 29, 30, 31, 32, 33] (by decide +kernel) (by decide +kernel)
set_option maxRecDepth 20000 in
theorem gX5_setRate_X4_capTokens : GoodIn wsX5_setRate (wsV RX5 70 RX4 yX4_capTokens wsX4_capTokens) := goodIn_app (goodIn_of _ (by decide +kernel)) ggX5_setRate_X4_capTokens
theorem dX5_setRate_0 : decode cX5_setRate 0 = .ok (.iload_n 1, 1) := by decide +kernel
theorem dX5_setRate_1 : decode cX5_setRate 1 = .ok (.iconst 1, 1) := by decide +kernel
theorem dX5_setRate_2 : decode cX5_setRate 2 = .ok (.bipush 50, 2) := by decide +kernel
theorem dX5_setRate_4 : decode cX5_setRate 4 = .ok (.invokestatic 59, 3) := by decide +kernel
theorem dX5_setRate_7 : decode cX5_setRate 7 = .ok (.ifCond .eq 13, 3) := by decide +kernel
theorem dX5_setRate_10 : decode cX5_setRate 10 = .ok (.iload_n 2, 1) := by decide +kernel
theorem dX5_setRate_11 : decode cX5_setRate 11 = .ok (.iconst 1, 1) := by decide +kernel
theorem dX5_setRate_12 : decode cX5_setRate 12 = .ok (.bipush 60, 2) := by decide +kernel
theorem dX5_setRate_14 : decode cX5_setRate 14 = .ok (.invokestatic 59, 3) := by decide +kernel
theorem dX5_setRate_17 : decode cX5_setRate 17 = .ok (.ifCond .ne 13, 3) := by decide +kernel
theorem dX5_setRate_20 : decode cX5_setRate 20 = .ok (.new 63, 3) := by decide +kernel
theorem dX5_setRate_23 : decode cX5_setRate 23 = .ok (.dup, 1) := by decide +kernel
theorem dX5_setRate_24 : decode cX5_setRate 24 = .ok (.ldc 65, 2) := by decide +kernel
theorem dX5_setRate_26 : decode cX5_setRate 26 = .ok (.invokespecial 67, 3) := by decide +kernel
theorem dX5_setRate_29 : decode cX5_setRate 29 = .ok (.athrow, 1) := by decide +kernel
theorem dX5_setRate_30 : decode cX5_setRate 30 = .ok (.aload_n 0, 1) := by decide +kernel
theorem dX5_setRate_31 : decode cX5_setRate 31 = .ok (.getfield 45, 3) := by decide +kernel
theorem dX5_setRate_34 : decode cX5_setRate 34 = .ok (.istore_n 3, 1) := by decide +kernel
theorem dX5_setRate_35 : decode cX5_setRate 35 = .ok (.aload_n 0, 1) := by decide +kernel
theorem dX5_setRate_36 : decode cX5_setRate 36 = .ok (.iload_n 1, 1) := by decide +kernel
theorem dX5_setRate_37 : decode cX5_setRate 37 = .ok (.putfield 45, 3) := by decide +kernel
theorem dX5_setRate_40 : decode cX5_setRate 40 = .ok (.aload_n 0, 1) := by decide +kernel
theorem dX5_setRate_41 : decode cX5_setRate 41 = .ok (.iload_n 2, 1) := by decide +kernel
theorem dX5_setRate_42 : decode cX5_setRate 42 = .ok (.putfield 48, 3) := by decide +kernel
theorem dX5_setRate_45 : decode cX5_setRate 45 = .ok (.iconst 0, 1) := by decide +kernel
theorem dX5_setRate_46 : decode cX5_setRate 46 = .ok (.istore 4, 2) := by decide +kernel
theorem dX5_setRate_48 : decode cX5_setRate 48 = .ok (.iload 4, 2) := by decide +kernel
theorem dX5_setRate_50 : decode cX5_setRate 50 = .ok (.bipush 6, 2) := by decide +kernel
theorem dX5_setRate_52 : decode cX5_setRate 52 = .ok (.if_icmp .ge 20, 3) := by decide +kernel
theorem dX5_setRate_55 : decode cX5_setRate 55 = .ok (.aload_n 0, 1) := by decide +kernel
theorem dX5_setRate_56 : decode cX5_setRate 56 = .ok (.getfield 11, 3) := by decide +kernel
theorem dX5_setRate_59 : decode cX5_setRate 59 = .ok (.iload 4, 2) := by decide +kernel
theorem dX5_setRate_61 : decode cX5_setRate 61 = .ok (.aaload, 1) := by decide +kernel
theorem dX5_setRate_62 : decode cX5_setRate 62 = .ok (.iload_n 1, 1) := by decide +kernel
theorem dX5_setRate_63 : decode cX5_setRate 63 = .ok (.invokevirtual 70, 3) := by decide +kernel
theorem dX5_setRate_66 : decode cX5_setRate 66 = .ok (.iinc 4 1, 3) := by decide +kernel
theorem dX5_setRate_69 : decode cX5_setRate 69 = .ok (.goto (-21), 3) := by decide +kernel
theorem dX5_setRate_72 : decode cX5_setRate 72 = .ok (.iload_n 3, 1) := by decide +kernel
theorem dX5_setRate_73 : decode cX5_setRate 73 = .ok (.ireturn, 1) := by decide +kernel
set_option maxRecDepth 20000 in
theorem ggX5_setFold_X5_isWithin : GoodIn wsX5_setFold wsX5_isWithin := goodIn_r _ [7] (by decide +kernel) (by decide +kernel)
set_option maxRecDepth 20000 in
theorem gX5_setFold_X5_isWithin : GoodIn wsX5_setFold (va_wsS RX5 59 yX5_isWithin wsX5_isWithin) := goodIn_app (goodIn_of _ (by decide +kernel)) ggX5_setFold_X5_isWithin
theorem dX5_setFold_0 : decode cX5_setFold 0 = .ok (.iload_n 1, 1) := by decide +kernel
theorem dX5_setFold_1 : decode cX5_setFold 1 = .ok (.iconst 0, 1) := by decide +kernel
theorem dX5_setFold_2 : decode cX5_setFold 2 = .ok (.bipush 100, 2) := by decide +kernel
theorem dX5_setFold_4 : decode cX5_setFold 4 = .ok (.invokestatic 59, 3) := by decide +kernel
theorem dX5_setFold_7 : decode cX5_setFold 7 = .ok (.ifCond .ne 13, 3) := by decide +kernel
theorem dX5_setFold_10 : decode cX5_setFold 10 = .ok (.new 63, 3) := by decide +kernel
theorem dX5_setFold_13 : decode cX5_setFold 13 = .ok (.dup, 1) := by decide +kernel
theorem dX5_setFold_14 : decode cX5_setFold 14 = .ok (.ldc 74, 2) := by decide +kernel
theorem dX5_setFold_16 : decode cX5_setFold 16 = .ok (.invokespecial 67, 3) := by decide +kernel
theorem dX5_setFold_19 : decode cX5_setFold 19 = .ok (.athrow, 1) := by decide +kernel
theorem dX5_setFold_20 : decode cX5_setFold 20 = .ok (.aload_n 0, 1) := by decide +kernel
theorem dX5_setFold_21 : decode cX5_setFold 21 = .ok (.getfield 51, 3) := by decide +kernel
theorem dX5_setFold_24 : decode cX5_setFold 24 = .ok (.istore_n 2, 1) := by decide +kernel
theorem dX5_setFold_25 : decode cX5_setFold 25 = .ok (.aload_n 0, 1) := by decide +kernel
theorem dX5_setFold_26 : decode cX5_setFold 26 = .ok (.iload_n 1, 1) := by decide +kernel
theorem dX5_setFold_27 : decode cX5_setFold 27 = .ok (.putfield 51, 3) := by decide +kernel
theorem dX5_setFold_30 : decode cX5_setFold 30 = .ok (.iload_n 2, 1) := by decide +kernel
theorem dX5_setFold_31 : decode cX5_setFold 31 = .ok (.ireturn, 1) := by decide +kernel
set_option maxRecDepth 20000 in
theorem ggX5_setRule_X5_ruleAt : GoodIn wsX5_setRule wsX5_ruleAt := goodIn_ca (goodIn_r _ [9, 1, 2, 10, 29, 30, 31, 32, 33, 34, 35, 36, 37] (by decide +kernel) (by decide +kernel)) (goodIn_sub (fun _ h => List.mem_cons_of_mem _ (List.mem_append_left _ (List.mem_append_right _ h))) (by decide +kernel))
set_option maxRecDepth 20000 in
theorem gX5_setRule_X5_ruleAt : GoodIn wsX5_setRule (wsV RX5 76 RX5 yX5_ruleAt wsX5_ruleAt) := goodIn_app (goodIn_of _ (by decide +kernel)) ggX5_setRule_X5_ruleAt
set_option maxRecDepth 20000 in
theorem ggX5_setRule_X5_isWithin : GoodIn wsX5_setRule wsX5_isWithin := goodIn_r _ [13] (by decide +kernel) (by decide +kernel)
set_option maxRecDepth 20000 in
theorem gX5_setRule_X5_isWithin : GoodIn wsX5_setRule (va_wsS RX5 59 yX5_isWithin wsX5_isWithin) := goodIn_app (goodIn_of _ (by decide +kernel)) ggX5_setRule_X5_isWithin
set_option maxRecDepth 20000 in
theorem ggX5_setRule_X3_put : GoodIn wsX5_setRule wsX3_put := goodIn_r _ [18, 19, 20, 21, 22, 23, 38, 39, 40, 41, 42] (by decide +kernel) (by decide +kernel)
set_option maxRecDepth 20000 in
theorem gX5_setRule_X3_put : GoodIn wsX5_setRule (wsV RX5 87 RX3 yX3_put wsX3_put) := goodIn_app (goodIn_of _ (by decide +kernel)) ggX5_setRule_X3_put
set_option maxRecDepth 20000 in
theorem ggX5_setRule_X5_rulesThatAreSet : GoodIn wsX5_setRule wsX5_rulesThatAreSet := goodIn_r _ [27, 10, 28, 29, 30, 31, 32, 33, 34, 35, 36, 37, 38, 39, 40, 41, 42] (by decide +kernel) (by decide +kernel)
set_option maxRecDepth 20000 in
theorem gX5_setRule_X5_rulesThatAreSet : GoodIn wsX5_setRule (wsV RX5 91 RX5 yX5_rulesThatAreSet wsX5_rulesThatAreSet) := goodIn_app (goodIn_of _ (by decide +kernel)) ggX5_setRule_X5_rulesThatAreSet
theorem dX5_setRule_0 : decode cX5_setRule 0 = .ok (.aload_n 0, 1) := by decide +kernel
theorem dX5_setRule_1 : decode cX5_setRule 1 = .ok (.iload_n 1, 1) := by decide +kernel
theorem dX5_setRule_2 : decode cX5_setRule 2 = .ok (.invokevirtual 76, 3) := by decide +kernel
theorem dX5_setRule_5 : decode cX5_setRule 5 = .ok (.astore 6, 2) := by decide +kernel
theorem dX5_setRule_7 : decode cX5_setRule 7 = .ok (.iload 4, 2) := by decide +kernel
theorem dX5_setRule_9 : decode cX5_setRule 9 = .ok (.iconst (-1), 1) := by decide +kernel
theorem dX5_setRule_10 : decode cX5_setRule 10 = .ok (.iconst 5, 1) := by decide +kernel
theorem dX5_setRule_11 : decode cX5_setRule 11 = .ok (.invokestatic 59, 3) := by decide +kernel
theorem dX5_setRule_14 : decode cX5_setRule 14 = .ok (.ifCond .ne 13, 3) := by decide +kernel
theorem dX5_setRule_17 : decode cX5_setRule 17 = .ok (.new 80, 3) := by decide +kernel
theorem dX5_setRule_20 : decode cX5_setRule 20 = .ok (.dup, 1) := by decide +kernel
theorem dX5_setRule_21 : decode cX5_setRule 21 = .ok (.ldc 82, 2) := by decide +kernel
theorem dX5_setRule_23 : decode cX5_setRule 23 = .ok (.invokespecial 84, 3) := by decide +kernel
theorem dX5_setRule_26 : decode cX5_setRule 26 = .ok (.athrow, 1) := by decide +kernel
theorem dX5_setRule_27 : decode cX5_setRule 27 = .ok (.iload_n 2, 1) := by decide +kernel
theorem dX5_setRule_28 : decode cX5_setRule 28 = .ok (.iconst 0, 1) := by decide +kernel
theorem dX5_setRule_29 : decode cX5_setRule 29 = .ok (.sipush 255, 3) := by decide +kernel
theorem dX5_setRule_32 : decode cX5_setRule 32 = .ok (.invokestatic 59, 3) := by decide +kernel
theorem dX5_setRule_35 : decode cX5_setRule 35 = .ok (.ifCond .eq 23, 3) := by decide +kernel
theorem dX5_setRule_38 : decode cX5_setRule 38 = .ok (.iload_n 3, 1) := by decide +kernel
theorem dX5_setRule_39 : decode cX5_setRule 39 = .ok (.iconst 0, 1) := by decide +kernel
theorem dX5_setRule_40 : decode cX5_setRule 40 = .ok (.bipush 7, 2) := by decide +kernel
theorem dX5_setRule_42 : decode cX5_setRule 42 = .ok (.invokestatic 59, 3) := by decide +kernel
theorem dX5_setRule_45 : decode cX5_setRule 45 = .ok (.ifCond .eq 13, 3) := by decide +kernel
theorem dX5_setRule_48 : decode cX5_setRule 48 = .ok (.iload 5, 2) := by decide +kernel
theorem dX5_setRule_50 : decode cX5_setRule 50 = .ok (.iconst 0, 1) := by decide +kernel
theorem dX5_setRule_51 : decode cX5_setRule 51 = .ok (.iconst 4, 1) := by decide +kernel
theorem dX5_setRule_52 : decode cX5_setRule 52 = .ok (.invokestatic 59, 3) := by decide +kernel
theorem dX5_setRule_55 : decode cX5_setRule 55 = .ok (.ifCond .ne 13, 3) := by decide +kernel
theorem dX5_setRule_58 : decode cX5_setRule 58 = .ok (.new 63, 3) := by decide +kernel
theorem dX5_setRule_61 : decode cX5_setRule 61 = .ok (.dup, 1) := by decide +kernel
theorem dX5_setRule_62 : decode cX5_setRule 62 = .ok (.ldc 85, 2) := by decide +kernel
theorem dX5_setRule_64 : decode cX5_setRule 64 = .ok (.invokespecial 67, 3) := by decide +kernel
theorem dX5_setRule_67 : decode cX5_setRule 67 = .ok (.athrow, 1) := by decide +kernel
theorem dX5_setRule_68 : decode cX5_setRule 68 = .ok (.aload 6, 2) := by decide +kernel
theorem dX5_setRule_70 : decode cX5_setRule 70 = .ok (.iload_n 2, 1) := by decide +kernel
theorem dX5_setRule_71 : decode cX5_setRule 71 = .ok (.iload_n 3, 1) := by decide +kernel
theorem dX5_setRule_72 : decode cX5_setRule 72 = .ok (.iload 4, 2) := by decide +kernel
theorem dX5_setRule_74 : decode cX5_setRule 74 = .ok (.iload 5, 2) := by decide +kernel
theorem dX5_setRule_76 : decode cX5_setRule 76 = .ok (.invokevirtual 87, 3) := by decide +kernel
theorem dX5_setRule_79 : decode cX5_setRule 79 = .ok (.aload_n 0, 1) := by decide +kernel
theorem dX5_setRule_80 : decode cX5_setRule 80 = .ok (.invokevirtual 91, 3) := by decide +kernel
theorem dX5_setRule_83 : decode cX5_setRule 83 = .ok (.ireturn, 1) := by decide +kernel
set_option maxRecDepth 20000 in
theorem ggX5_removeRule_X5_ruleAt : GoodIn wsX5_removeRule wsX5_ruleAt := goodIn_ca (goodIn_r _ [6, 7, 8, 9, 15, 16, 17, 18, 19, 20, 21, 22, 23] (by decide +kernel) (by decide +kernel)) (goodIn_sub (fun _ h => List.mem_cons_of_mem _ (List.mem_append_right _ h)) (by decide +kernel))
set_option maxRecDepth 20000 in
theorem gX5_removeRule_X5_ruleAt : GoodIn wsX5_removeRule (wsV RX5 76 RX5 yX5_ruleAt wsX5_ruleAt) := goodIn_app (goodIn_of _ (by decide +kernel)) ggX5_removeRule_X5_ruleAt
theorem dX5_removeRule_0 : decode cX5_removeRule 0 = .ok (.aload_n 0, 1) := by decide +kernel
theorem dX5_removeRule_1 : decode cX5_removeRule 1 = .ok (.iload_n 1, 1) := by decide +kernel
theorem dX5_removeRule_2 : decode cX5_removeRule 2 = .ok (.invokevirtual 76, 3) := by decide +kernel
theorem dX5_removeRule_5 : decode cX5_removeRule 5 = .ok (.astore_n 2, 1) := by decide +kernel
theorem dX5_removeRule_6 : decode cX5_removeRule 6 = .ok (.aload_n 2, 1) := by decide +kernel
theorem dX5_removeRule_7 : decode cX5_removeRule 7 = .ok (.getfield 95, 3) := by decide +kernel
theorem dX5_removeRule_10 : decode cX5_removeRule 10 = .ok (.istore_n 3, 1) := by decide +kernel
theorem dX5_removeRule_11 : decode cX5_removeRule 11 = .ok (.aload_n 2, 1) := by decide +kernel
theorem dX5_removeRule_12 : decode cX5_removeRule 12 = .ok (.iconst 0, 1) := by decide +kernel
theorem dX5_removeRule_13 : decode cX5_removeRule 13 = .ok (.putfield 95, 3) := by decide +kernel
theorem dX5_removeRule_16 : decode cX5_removeRule 16 = .ok (.iload_n 3, 1) := by decide +kernel
theorem dX5_removeRule_17 : decode cX5_removeRule 17 = .ok (.ireturn, 1) := by decide +kernel
set_option maxRecDepth 20000 in
theorem ggX5_setFile_X5_fileAt : GoodIn wsX5_setFile wsX5_fileAt := goodIn_ca (goodIn_r _ [8, 9, 10, 11, 34, 35, 36, 37, 38, 39, 40, 41, 42] (by decide +kernel) (by decide +kernel)) (goodIn_sub (fun _ h => List.mem_cons_of_mem _ (List.mem_append_right _ h)) (by decide +kernel))
set_option maxRecDepth 20000 in
theorem gX5_setFile_X5_fileAt : GoodIn wsX5_setFile (wsV RX5 99 RX5 yX5_fileAt wsX5_fileAt) := goodIn_app (goodIn_of _ (by decide +kernel)) ggX5_setFile_X5_fileAt
set_option maxRecDepth 20000 in
theorem ggX5_setFile_X5_isWithin : GoodIn wsX5_setFile wsX5_isWithin := goodIn_r _ [14] (by decide +kernel) (by decide +kernel)
set_option maxRecDepth 20000 in
theorem gX5_setFile_X5_isWithin : GoodIn wsX5_setFile (va_wsS RX5 59 yX5_isWithin wsX5_isWithin) := goodIn_app (goodIn_of _ (by decide +kernel)) ggX5_setFile_X5_isWithin
set_option maxRecDepth 20000 in
theorem ggX5_setFile_X2_limit : GoodIn wsX5_setFile wsX2_limit := goodIn_r _ [19, 20, 21, 22, 23, 24, 25, 26, 27, 28, 29, 30, 31, 32, 33] (by decide +kernel) (by decide +kernel)
set_option maxRecDepth 20000 in
theorem gX5_setFile_X2_limit : GoodIn wsX5_setFile (wsV RX5 105 RX2 yX2_limit wsX2_limit) := goodIn_app (goodIn_of _ (by decide +kernel)) ggX5_setFile_X2_limit
theorem dX5_setFile_0 : decode cX5_setFile 0 = .ok (.aload_n 0, 1) := by decide +kernel
theorem dX5_setFile_1 : decode cX5_setFile 1 = .ok (.iload_n 1, 1) := by decide +kernel
theorem dX5_setFile_2 : decode cX5_setFile 2 = .ok (.invokevirtual 99, 3) := by decide +kernel
theorem dX5_setFile_5 : decode cX5_setFile 5 = .ok (.astore 5, 2) := by decide +kernel
theorem dX5_setFile_7 : decode cX5_setFile 7 = .ok (.iload_n 2, 1) := by decide +kernel
theorem dX5_setFile_8 : decode cX5_setFile 8 = .ok (.sipush 200, 3) := by decide +kernel
theorem dX5_setFile_11 : decode cX5_setFile 11 = .ok (.sipush 5000, 3) := by decide +kernel
theorem dX5_setFile_14 : decode cX5_setFile 14 = .ok (.invokestatic 59, 3) := by decide +kernel
theorem dX5_setFile_17 : decode cX5_setFile 17 = .ok (.ifCond .eq 24, 3) := by decide +kernel
theorem dX5_setFile_20 : decode cX5_setFile 20 = .ok (.iload_n 3, 1) := by decide +kernel
theorem dX5_setFile_21 : decode cX5_setFile 21 = .ok (.iconst 0, 1) := by decide +kernel
theorem dX5_setFile_22 : decode cX5_setFile 22 = .ok (.sipush 1000, 3) := by decide +kernel
theorem dX5_setFile_25 : decode cX5_setFile 25 = .ok (.invokestatic 59, 3) := by decide +kernel
theorem dX5_setFile_28 : decode cX5_setFile 28 = .ok (.ifCond .eq 13, 3) := by decide +kernel
theorem dX5_setFile_31 : decode cX5_setFile 31 = .ok (.iload 4, 2) := by decide +kernel
theorem dX5_setFile_33 : decode cX5_setFile 33 = .ok (.iconst 0, 1) := by decide +kernel
theorem dX5_setFile_34 : decode cX5_setFile 34 = .ok (.iconst 5, 1) := by decide +kernel
theorem dX5_setFile_35 : decode cX5_setFile 35 = .ok (.invokestatic 59, 3) := by decide +kernel
theorem dX5_setFile_38 : decode cX5_setFile 38 = .ok (.ifCond .ne 13, 3) := by decide +kernel
theorem dX5_setFile_41 : decode cX5_setFile 41 = .ok (.new 63, 3) := by decide +kernel
theorem dX5_setFile_44 : decode cX5_setFile 44 = .ok (.dup, 1) := by decide +kernel
theorem dX5_setFile_45 : decode cX5_setFile 45 = .ok (.ldc 103, 2) := by decide +kernel
theorem dX5_setFile_47 : decode cX5_setFile 47 = .ok (.invokespecial 67, 3) := by decide +kernel
theorem dX5_setFile_50 : decode cX5_setFile 50 = .ok (.athrow, 1) := by decide +kernel
theorem dX5_setFile_51 : decode cX5_setFile 51 = .ok (.aload 5, 2) := by decide +kernel
theorem dX5_setFile_53 : decode cX5_setFile 53 = .ok (.iload_n 2, 1) := by decide +kernel
theorem dX5_setFile_54 : decode cX5_setFile 54 = .ok (.iload_n 3, 1) := by decide +kernel
theorem dX5_setFile_55 : decode cX5_setFile 55 = .ok (.iload 4, 2) := by decide +kernel
theorem dX5_setFile_57 : decode cX5_setFile 57 = .ok (.invokevirtual 105, 3) := by decide +kernel
theorem dX5_setFile_60 : decode cX5_setFile 60 = .ok (.aload 5, 2) := by decide +kernel
theorem dX5_setFile_62 : decode cX5_setFile 62 = .ok (.getfield 109, 3) := by decide +kernel
theorem dX5_setFile_65 : decode cX5_setFile 65 = .ok (.ireturn, 1) := by decide +kernel
set_option maxRecDepth 20000 in
theorem ggX5_message_X5_senderAt : GoodIn wsX5_message wsX5_senderAt := goodIn_ca (goodIn_r _ [15, 16, 17, 18, 114, 115, 116, 117, 118, 119, 120, 121, 122] (by decide +kernel) (by decide +kernel)) (goodIn_sub (fun _ h => List.mem_cons_of_mem _ (List.mem_append_right _ h)) (by decide +kernel))
set_option maxRecDepth 20000 in
theorem gX5_message_X5_senderAt : GoodIn wsX5_message (wsV RX5 112 RX5 yX5_senderAt wsX5_senderAt) := goodIn_app (goodIn_of _ (by decide +kernel)) ggX5_message_X5_senderAt
set_option maxRecDepth 20000 in
theorem ggX5_message_X5_isWithin : GoodIn wsX5_message wsX5_isWithin := goodIn_r _ [21] (by decide +kernel) (by decide +kernel)
set_option maxRecDepth 20000 in
theorem gX5_message_X5_isWithin : GoodIn wsX5_message (va_wsS RX5 59 yX5_isWithin wsX5_isWithin) := goodIn_app (goodIn_of _ (by decide +kernel)) ggX5_message_X5_isWithin
set_option maxRecDepth 20000 in
theorem ggX5_message_X1_isFull : GoodIn wsX5_message wsX1_isFull := goodIn_r _ [26, 27, 132, 133, 134] (by decide +kernel) (by decide +kernel)
set_option maxRecDepth 20000 in
theorem gX5_message_X1_isFull : GoodIn wsX5_message (wsV RX5 118 RX1 yX1_isFull wsX1_isFull) := goodIn_app (goodIn_of _ (by decide +kernel)) ggX5_message_X1_isFull
set_option maxRecDepth 20000 in
theorem ggX5_message_X4_lastIs : GoodIn wsX5_message wsX4_lastIs := goodIn_r _ [32, 33, 34, 35, 36, 123, 124, 125, 126, 127, 128, 129, 130, 131] (by decide +kernel) (by decide +kernel)
set_option maxRecDepth 20000 in
theorem gX5_message_X4_lastIs : GoodIn wsX5_message (wsV RX5 127 RX4 yX4_lastIs wsX4_lastIs) := goodIn_app (goodIn_of _ (by decide +kernel)) ggX5_message_X4_lastIs
set_option maxRecDepth 20000 in
theorem ggX5_message_X4_countRepeat : GoodIn wsX5_message wsX4_countRepeat := goodIn_r _ [40, 41, 42, 123, 124, 125, 126, 127, 128, 129, 130, 131] (by decide +kernel) (by decide +kernel)
set_option maxRecDepth 20000 in
theorem gX5_message_X4_countRepeat : GoodIn wsX5_message (wsV RX5 131 RX4 yX4_countRepeat wsX4_countRepeat) := goodIn_app (goodIn_of _ (by decide +kernel)) ggX5_message_X4_countRepeat
set_option maxRecDepth 20000 in
theorem ggX5_message_X1_enter : GoodIn wsX5_message wsX1_enter := goodIn_r _ [46, 27, 47, 48, 132, 133, 134] (by decide +kernel) (by decide +kernel)
set_option maxRecDepth 20000 in
theorem gX5_message_X1_enter : GoodIn wsX5_message (wsV RX5 134 RX1 yX1_enter wsX1_enter) := goodIn_app (goodIn_of _ (by decide +kernel)) ggX5_message_X1_enter
set_option maxRecDepth 20000 in
theorem ggX5_message_X5_tellRepeats : GoodIn wsX5_message wsX5_tellRepeats := goodIn_r _ [52, 53, 54, 55, 56, 57, 58, 59, 14, 60, 61, 62, 63, 7, 64, 65, 66, 67, 68, 69, 70, 71, 72, 73, 74, 75, 76, 77, 78, 79, 80, 81, 82, 83, 84, 85, 86, 87, 88, 89, 90, 91, 92, 93, 94, 95, 96, 97, 98, 99, 100, 101, 102, 103, 104, 123, 124, 125, 126, 127, 128, 129, 130, 131, 114, 115, 116, 117, 118, 119, 120, 121, 122, 135, 136, 137, 138, 139, 140, 141, 142, 143, 144, 145, 146, 147, 148, 149, 150, 151, 152, 153, 154, 155] (by decide +kernel) (by decide +kernel)
set_option maxRecDepth 20000 in
theorem gX5_message_X5_tellRepeats : GoodIn wsX5_message (wsV RX5 138 RX5 yX5_tellRepeats wsX5_tellRepeats) := goodIn_app (goodIn_of _ (by decide +kernel)) ggX5_message_X5_tellRepeats
set_option maxRecDepth 20000 in
theorem ggX5_message_X5_tellDrops : GoodIn wsX5_message wsX5_tellDrops := goodIn_r _ [108, 9, 109, 54, 57, 58, 59, 14, 60, 61, 62, 63, 7, 64, 65, 66, 67, 68, 69, 70, 71, 72, 73, 74, 75, 76, 77, 78, 79, 80, 81, 82, 83, 84, 85, 86, 87, 88, 89, 90, 91, 92, 93, 94, 95, 96, 97, 98, 99, 100, 101, 102, 103, 104, 123, 124, 125, 126, 127, 128, 129, 130, 131, 114, 115, 116, 117, 118, 119, 120, 121, 122, 135, 136, 137, 138, 139, 140, 141, 142, 143, 144, 145, 146, 147, 148, 149, 150, 151, 152, 153, 154, 155] (by decide +kernel) (by decide +kernel)
set_option maxRecDepth 20000 in
theorem gX5_message_X5_tellDrops : GoodIn wsX5_message (wsV RX5 148 RX5 yX5_tellDrops wsX5_tellDrops) := goodIn_app (goodIn_of _ (by decide +kernel)) ggX5_message_X5_tellDrops
set_option maxRecDepth 20000 in
theorem ggX5_message_X4_setLast : GoodIn wsX5_message wsX4_setLast := goodIn_r _ [113, 33, 34, 35, 36, 123, 124, 125, 126, 127, 128, 129, 130, 131] (by decide +kernel) (by decide +kernel)
set_option maxRecDepth 20000 in
theorem gX5_message_X4_setLast : GoodIn wsX5_message (wsV RX5 151 RX4 yX4_setLast wsX4_setLast) := goodIn_app (goodIn_of _ (by decide +kernel)) ggX5_message_X4_setLast
set_option maxRecDepth 20000 in
theorem ggX5_message_X5_route : GoodIn wsX5_message wsX5_route := goodIn_r _ [60, 61, 62, 63, 7, 64, 65, 66, 67, 68, 69, 70, 71, 72, 73, 74, 75, 76, 77, 78, 79, 80, 81, 82, 83, 84, 85, 86, 87, 88, 89, 90, 91, 92, 93, 94, 95, 96, 97, 98, 99, 100, 101, 102, 103, 104, 114, 115, 116, 117, 118, 119, 120, 121, 122, 135, 136, 137, 138, 139, 140, 141, 142, 143, 144, 145, 146, 147, 148, 149, 150, 151, 152, 153, 154, 155] (by decide +kernel) (by decide +kernel)
set_option maxRecDepth 20000 in
theorem gX5_message_X5_route : GoodIn wsX5_message (wsV RX5 157 RX5 yX5_route wsX5_route) := goodIn_app (goodIn_of _ (by decide +kernel)) ggX5_message_X5_route
theorem dX5_message_0 : decode cX5_message 0 = .ok (.aload_n 0, 1) := by decide +kernel
theorem dX5_message_1 : decode cX5_message 1 = .ok (.iload_n 1, 1) := by decide +kernel
theorem dX5_message_2 : decode cX5_message 2 = .ok (.invokevirtual 112, 3) := by decide +kernel
theorem dX5_message_5 : decode cX5_message 5 = .ok (.astore 6, 2) := by decide +kernel
theorem dX5_message_7 : decode cX5_message 7 = .ok (.iload_n 2, 1) := by decide +kernel
theorem dX5_message_8 : decode cX5_message 8 = .ok (.iconst 0, 1) := by decide +kernel
theorem dX5_message_9 : decode cX5_message 9 = .ok (.bipush 7, 2) := by decide +kernel
theorem dX5_message_11 : decode cX5_message 11 = .ok (.invokestatic 59, 3) := by decide +kernel
theorem dX5_message_14 : decode cX5_message 14 = .ok (.ifCond .eq 36, 3) := by decide +kernel
theorem dX5_message_17 : decode cX5_message 17 = .ok (.iload_n 3, 1) := by decide +kernel
theorem dX5_message_18 : decode cX5_message 18 = .ok (.iconst 0, 1) := by decide +kernel
theorem dX5_message_19 : decode cX5_message 19 = .ok (.bipush 7, 2) := by decide +kernel
theorem dX5_message_21 : decode cX5_message 21 = .ok (.invokestatic 59, 3) := by decide +kernel
theorem dX5_message_24 : decode cX5_message 24 = .ok (.ifCond .eq 26, 3) := by decide +kernel
theorem dX5_message_27 : decode cX5_message 27 = .ok (.iload 4, 2) := by decide +kernel
theorem dX5_message_29 : decode cX5_message 29 = .ok (.iconst 0, 1) := by decide +kernel
theorem dX5_message_30 : decode cX5_message 30 = .ok (.bipush 99, 2) := by decide +kernel
theorem dX5_message_32 : decode cX5_message 32 = .ok (.invokestatic 59, 3) := by decide +kernel
theorem dX5_message_35 : decode cX5_message 35 = .ok (.ifCond .eq 15, 3) := by decide +kernel
theorem dX5_message_38 : decode cX5_message 38 = .ok (.iload 5, 2) := by decide +kernel
theorem dX5_message_40 : decode cX5_message 40 = .ok (.iconst 1, 1) := by decide +kernel
theorem dX5_message_41 : decode cX5_message 41 = .ok (.sipush 200, 3) := by decide +kernel
theorem dX5_message_44 : decode cX5_message 44 = .ok (.invokestatic 59, 3) := by decide +kernel
theorem dX5_message_47 : decode cX5_message 47 = .ok (.ifCond .ne 13, 3) := by decide +kernel
theorem dX5_message_50 : decode cX5_message 50 = .ok (.new 63, 3) := by decide +kernel
theorem dX5_message_53 : decode cX5_message 53 = .ok (.dup, 1) := by decide +kernel
theorem dX5_message_54 : decode cX5_message 54 = .ok (.ldc 116, 2) := by decide +kernel
theorem dX5_message_56 : decode cX5_message 56 = .ok (.invokespecial 67, 3) := by decide +kernel
theorem dX5_message_59 : decode cX5_message 59 = .ok (.athrow, 1) := by decide +kernel
theorem dX5_message_60 : decode cX5_message 60 = .ok (.aload_n 0, 1) := by decide +kernel
theorem dX5_message_61 : decode cX5_message 61 = .ok (.getfield 37, 3) := by decide +kernel
theorem dX5_message_64 : decode cX5_message 64 = .ok (.invokevirtual 118, 3) := by decide +kernel
theorem dX5_message_67 : decode cX5_message 67 = .ok (.ifCond .eq 13, 3) := by decide +kernel
theorem dX5_message_70 : decode cX5_message 70 = .ok (.new 122, 3) := by decide +kernel
theorem dX5_message_73 : decode cX5_message 73 = .ok (.dup, 1) := by decide +kernel
theorem dX5_message_74 : decode cX5_message 74 = .ok (.ldc 124, 2) := by decide +kernel
theorem dX5_message_76 : decode cX5_message 76 = .ok (.invokespecial 126, 3) := by decide +kernel
theorem dX5_message_79 : decode cX5_message 79 = .ok (.athrow, 1) := by decide +kernel
theorem dX5_message_80 : decode cX5_message 80 = .ok (.aload_n 0, 1) := by decide +kernel
theorem dX5_message_81 : decode cX5_message 81 = .ok (.getfield 51, 3) := by decide +kernel
theorem dX5_message_84 : decode cX5_message 84 = .ok (.ifCond .eq 36, 3) := by decide +kernel
theorem dX5_message_87 : decode cX5_message 87 = .ok (.aload 6, 2) := by decide +kernel
theorem dX5_message_89 : decode cX5_message 89 = .ok (.iload_n 2, 1) := by decide +kernel
theorem dX5_message_90 : decode cX5_message 90 = .ok (.iload_n 3, 1) := by decide +kernel
theorem dX5_message_91 : decode cX5_message 91 = .ok (.iload 4, 2) := by decide +kernel
theorem dX5_message_93 : decode cX5_message 93 = .ok (.iload 5, 2) := by decide +kernel
theorem dX5_message_95 : decode cX5_message 95 = .ok (.invokevirtual 127, 3) := by decide +kernel
theorem dX5_message_98 : decode cX5_message 98 = .ok (.ifCond .eq 22, 3) := by decide +kernel
theorem dX5_message_101 : decode cX5_message 101 = .ok (.aload 6, 2) := by decide +kernel
theorem dX5_message_103 : decode cX5_message 103 = .ok (.aload_n 0, 1) := by decide +kernel
theorem dX5_message_104 : decode cX5_message 104 = .ok (.getfield 41, 3) := by decide +kernel
theorem dX5_message_107 : decode cX5_message 107 = .ok (.invokevirtual 131, 3) := by decide +kernel
theorem dX5_message_110 : decode cX5_message 110 = .ok (.aload_n 0, 1) := by decide +kernel
theorem dX5_message_111 : decode cX5_message 111 = .ok (.getfield 37, 3) := by decide +kernel
theorem dX5_message_114 : decode cX5_message 114 = .ok (.iconst 0, 1) := by decide +kernel
theorem dX5_message_115 : decode cX5_message 115 = .ok (.iconst 0, 1) := by decide +kernel
theorem dX5_message_116 : decode cX5_message 116 = .ok (.invokevirtual 134, 3) := by decide +kernel
theorem dX5_message_119 : decode cX5_message 119 = .ok (.ireturn, 1) := by decide +kernel
theorem dX5_message_120 : decode cX5_message 120 = .ok (.aload_n 0, 1) := by decide +kernel
theorem dX5_message_121 : decode cX5_message 121 = .ok (.aload 6, 2) := by decide +kernel
theorem dX5_message_123 : decode cX5_message 123 = .ok (.invokevirtual 138, 3) := by decide +kernel
theorem dX5_message_126 : decode cX5_message 126 = .ok (.aload 6, 2) := by decide +kernel
theorem dX5_message_128 : decode cX5_message 128 = .ok (.getfield 142, 3) := by decide +kernel
theorem dX5_message_131 : decode cX5_message 131 = .ok (.ifCond .ne 24, 3) := by decide +kernel
theorem dX5_message_134 : decode cX5_message 134 = .ok (.aload 6, 2) := by decide +kernel
theorem dX5_message_136 : decode cX5_message 136 = .ok (.dup, 1) := by decide +kernel
theorem dX5_message_137 : decode cX5_message 137 = .ok (.getfield 145, 3) := by decide +kernel
theorem dX5_message_140 : decode cX5_message 140 = .ok (.iconst 1, 1) := by decide +kernel
theorem dX5_message_141 : decode cX5_message 141 = .ok (.iadd, 1) := by decide +kernel
theorem dX5_message_142 : decode cX5_message 142 = .ok (.putfield 145, 3) := by decide +kernel
theorem dX5_message_145 : decode cX5_message 145 = .ok (.aload_n 0, 1) := by decide +kernel
theorem dX5_message_146 : decode cX5_message 146 = .ok (.getfield 37, 3) := by decide +kernel
theorem dX5_message_149 : decode cX5_message 149 = .ok (.iconst 1, 1) := by decide +kernel
theorem dX5_message_150 : decode cX5_message 150 = .ok (.iconst 0, 1) := by decide +kernel
theorem dX5_message_151 : decode cX5_message 151 = .ok (.invokevirtual 134, 3) := by decide +kernel
theorem dX5_message_154 : decode cX5_message 154 = .ok (.ireturn, 1) := by decide +kernel
theorem dX5_message_155 : decode cX5_message 155 = .ok (.aload 6, 2) := by decide +kernel
theorem dX5_message_157 : decode cX5_message 157 = .ok (.dup, 1) := by decide +kernel
theorem dX5_message_158 : decode cX5_message 158 = .ok (.getfield 142, 3) := by decide +kernel
theorem dX5_message_161 : decode cX5_message 161 = .ok (.iconst 1, 1) := by decide +kernel
theorem dX5_message_162 : decode cX5_message 162 = .ok (.isub, 1) := by decide +kernel
theorem dX5_message_163 : decode cX5_message 163 = .ok (.putfield 142, 3) := by decide +kernel
theorem dX5_message_166 : decode cX5_message 166 = .ok (.aload_n 0, 1) := by decide +kernel
theorem dX5_message_167 : decode cX5_message 167 = .ok (.aload 6, 2) := by decide +kernel
theorem dX5_message_169 : decode cX5_message 169 = .ok (.invokevirtual 148, 3) := by decide +kernel
theorem dX5_message_172 : decode cX5_message 172 = .ok (.aload 6, 2) := by decide +kernel
theorem dX5_message_174 : decode cX5_message 174 = .ok (.iload_n 2, 1) := by decide +kernel
theorem dX5_message_175 : decode cX5_message 175 = .ok (.iload_n 3, 1) := by decide +kernel
theorem dX5_message_176 : decode cX5_message 176 = .ok (.iload 4, 2) := by decide +kernel
theorem dX5_message_178 : decode cX5_message 178 = .ok (.iload 5, 2) := by decide +kernel
theorem dX5_message_180 : decode cX5_message 180 = .ok (.invokevirtual 151, 3) := by decide +kernel
theorem dX5_message_183 : decode cX5_message 183 = .ok (.aload_n 0, 1) := by decide +kernel
theorem dX5_message_184 : decode cX5_message 184 = .ok (.aload_n 0, 1) := by decide +kernel
theorem dX5_message_185 : decode cX5_message 185 = .ok (.getfield 37, 3) := by decide +kernel
theorem dX5_message_188 : decode cX5_message 188 = .ok (.getfield 154, 3) := by decide +kernel
theorem dX5_message_191 : decode cX5_message 191 = .ok (.iload_n 1, 1) := by decide +kernel
theorem dX5_message_192 : decode cX5_message 192 = .ok (.iload_n 2, 1) := by decide +kernel
theorem dX5_message_193 : decode cX5_message 193 = .ok (.iload_n 3, 1) := by decide +kernel
theorem dX5_message_194 : decode cX5_message 194 = .ok (.iload 5, 2) := by decide +kernel
theorem dX5_message_196 : decode cX5_message 196 = .ok (.invokevirtual 157, 3) := by decide +kernel
theorem dX5_message_199 : decode cX5_message 199 = .ok (.istore 7, 2) := by decide +kernel
theorem dX5_message_201 : decode cX5_message 201 = .ok (.aload_n 0, 1) := by decide +kernel
theorem dX5_message_202 : decode cX5_message 202 = .ok (.getfield 37, 3) := by decide +kernel
theorem dX5_message_205 : decode cX5_message 205 = .ok (.iload 7, 2) := by decide +kernel
theorem dX5_message_207 : decode cX5_message 207 = .ok (.ifCond .ne 7, 3) := by decide +kernel
theorem dX5_message_210 : decode cX5_message 210 = .ok (.iconst 2, 1) := by decide +kernel
theorem dX5_message_211 : decode cX5_message 211 = .ok (.goto 4, 3) := by decide +kernel
theorem dX5_message_214 : decode cX5_message 214 = .ok (.iconst 3, 1) := by decide +kernel
theorem dX5_message_215 : decode cX5_message 215 = .ok (.iload 7, 2) := by decide +kernel
theorem dX5_message_217 : decode cX5_message 217 = .ok (.invokevirtual 134, 3) := by decide +kernel
theorem dX5_message_220 : decode cX5_message 220 = .ok (.ireturn, 1) := by decide +kernel
set_option maxRecDepth 20000 in
theorem ggX5_pass_X5_isWithin : GoodIn wsX5_pass wsX5_isWithin := goodIn_r _ [6] (by decide +kernel) (by decide +kernel)
set_option maxRecDepth 20000 in
theorem gX5_pass_X5_isWithin : GoodIn wsX5_pass (va_wsS RX5 59 yX5_isWithin wsX5_isWithin) := goodIn_app (goodIn_of _ (by decide +kernel)) ggX5_pass_X5_isWithin
set_option maxRecDepth 20000 in
theorem ggX5_pass_X5_rotationsOfAllFiles : GoodIn wsX5_pass wsX5_rotationsOfAllFiles := goodIn_r _ [10, 11, 12, 106, 107, 108, 109, 110, 111, 112, 113, 114, 115, 116, 117, 118, 119, 120, 121, 122, 123, 124] (by decide +kernel) (by decide +kernel)
set_option maxRecDepth 20000 in
theorem gX5_pass_X5_rotationsOfAllFiles : GoodIn wsX5_pass (wsV RX5 161 RX5 yX5_rotationsOfAllFiles wsX5_rotationsOfAllFiles) := goodIn_app (goodIn_of _ (by decide +kernel)) ggX5_pass_X5_rotationsOfAllFiles
set_option maxRecDepth 20000 in
theorem ggX5_pass_X5_passOneSecond : GoodIn wsX5_pass wsX5_passOneSecond := goodIn_r _ [16, 17, 18, 19, 20, 21, 5, 22, 23, 24, 25, 26, 27, 28, 29, 30, 31, 32, 33, 34, 35, 36, 37, 38, 39, 40, 41, 42, 43, 44, 45, 46, 47, 48, 49, 50, 51, 52, 53, 54, 11, 55, 56, 57, 58, 59, 60, 61, 62, 63, 64, 65, 66, 67, 68, 69, 70, 71, 72, 73, 74, 75, 76, 77, 78, 79, 80, 81, 82, 83, 84, 85, 86, 87, 88, 89, 90, 91, 92, 93, 94, 95, 96, 97, 98, 99, 100, 101, 102, 103, 104, 105, 106, 107, 108, 109, 110, 111, 112, 113, 114, 125, 126, 127, 128, 129, 130, 131, 132, 133, 134, 135, 136, 137, 138, 115, 116, 117, 118, 119, 120, 121, 122, 123, 124, 139, 140, 141, 142, 143, 144] (by decide +kernel) (by decide +kernel)
set_option maxRecDepth 20000 in
theorem gX5_pass_X5_passOneSecond : GoodIn wsX5_pass (wsV RX5 164 RX5 yX5_passOneSecond wsX5_passOneSecond) := goodIn_app (goodIn_of _ (by decide +kernel)) ggX5_pass_X5_passOneSecond
theorem dX5_pass_0 : decode cX5_pass 0 = .ok (.iload_n 1, 1) := by decide +kernel
theorem dX5_pass_1 : decode cX5_pass 1 = .ok (.iconst 1, 1) := by decide +kernel
theorem dX5_pass_2 : decode cX5_pass 2 = .ok (.bipush 100, 2) := by decide +kernel
theorem dX5_pass_4 : decode cX5_pass 4 = .ok (.invokestatic 59, 3) := by decide +kernel
theorem dX5_pass_7 : decode cX5_pass 7 = .ok (.ifCond .ne 13, 3) := by decide +kernel
theorem dX5_pass_10 : decode cX5_pass 10 = .ok (.new 63, 3) := by decide +kernel
theorem dX5_pass_13 : decode cX5_pass 13 = .ok (.dup, 1) := by decide +kernel
theorem dX5_pass_14 : decode cX5_pass 14 = .ok (.ldc 74, 2) := by decide +kernel
theorem dX5_pass_16 : decode cX5_pass 16 = .ok (.invokespecial 67, 3) := by decide +kernel
theorem dX5_pass_19 : decode cX5_pass 19 = .ok (.athrow, 1) := by decide +kernel
theorem dX5_pass_20 : decode cX5_pass 20 = .ok (.aload_n 0, 1) := by decide +kernel
theorem dX5_pass_21 : decode cX5_pass 21 = .ok (.invokevirtual 161, 3) := by decide +kernel
theorem dX5_pass_24 : decode cX5_pass 24 = .ok (.istore_n 2, 1) := by decide +kernel
theorem dX5_pass_25 : decode cX5_pass 25 = .ok (.iconst 0, 1) := by decide +kernel
theorem dX5_pass_26 : decode cX5_pass 26 = .ok (.istore_n 3, 1) := by decide +kernel
theorem dX5_pass_27 : decode cX5_pass 27 = .ok (.iload_n 3, 1) := by decide +kernel
theorem dX5_pass_28 : decode cX5_pass 28 = .ok (.iload_n 1, 1) := by decide +kernel
theorem dX5_pass_29 : decode cX5_pass 29 = .ok (.if_icmp .ge 13, 3) := by decide +kernel
theorem dX5_pass_32 : decode cX5_pass 32 = .ok (.aload_n 0, 1) := by decide +kernel
theorem dX5_pass_33 : decode cX5_pass 33 = .ok (.invokevirtual 164, 3) := by decide +kernel
theorem dX5_pass_36 : decode cX5_pass 36 = .ok (.iinc 3 1, 3) := by decide +kernel
theorem dX5_pass_39 : decode cX5_pass 39 = .ok (.goto (-12), 3) := by decide +kernel
theorem dX5_pass_42 : decode cX5_pass 42 = .ok (.aload_n 0, 1) := by decide +kernel
theorem dX5_pass_43 : decode cX5_pass 43 = .ok (.invokevirtual 161, 3) := by decide +kernel
theorem dX5_pass_46 : decode cX5_pass 46 = .ok (.iload_n 2, 1) := by decide +kernel
theorem dX5_pass_47 : decode cX5_pass 47 = .ok (.isub, 1) := by decide +kernel
theorem dX5_pass_48 : decode cX5_pass 48 = .ok (.ireturn, 1) := by decide +kernel
set_option maxRecDepth 20000 in
theorem ggX5_rotate_X5_fileAt : GoodIn wsX5_rotate wsX5_fileAt := goodIn_ca (goodIn_r _ [8, 9, 10, 11, 37, 38, 39, 40, 41, 42, 43, 44, 45] (by decide +kernel) (by decide +kernel)) (goodIn_sub (fun _ h => List.mem_cons_of_mem _ (List.mem_append_right _ h)) (by decide +kernel))
set_option maxRecDepth 20000 in
theorem gX5_rotate_X5_fileAt : GoodIn wsX5_rotate (wsV RX5 99 RX5 yX5_fileAt wsX5_fileAt) := goodIn_app (goodIn_of _ (by decide +kernel)) ggX5_rotate_X5_fileAt
set_option maxRecDepth 20000 in
theorem ggX5_rotate_X2_isEmpty : GoodIn wsX5_rotate wsX2_isEmpty := goodIn_r _ [16, 17, 18, 27, 28, 29, 30, 31, 32, 33, 34, 35, 36] (by decide +kernel) (by decide +kernel)
set_option maxRecDepth 20000 in
theorem gX5_rotate_X2_isEmpty : GoodIn wsX5_rotate (wsV RX5 167 RX2 yX2_isEmpty wsX2_isEmpty) := goodIn_app (goodIn_of _ (by decide +kernel)) ggX5_rotate_X2_isEmpty
set_option maxRecDepth 20000 in
theorem ggX5_rotate_X2_turnOver : GoodIn wsX5_rotate wsX2_turnOver := goodIn_r _ [22, 18, 17, 23, 24, 25, 26, 27, 28, 29, 30, 31, 32, 33, 34, 35, 36] (by decide +kernel) (by decide +kernel)
set_option maxRecDepth 20000 in
theorem gX5_rotate_X2_turnOver : GoodIn wsX5_rotate (wsV RX5 172 RX2 yX2_turnOver wsX2_turnOver) := goodIn_app (goodIn_of _ (by decide +kernel)) ggX5_rotate_X2_turnOver
theorem dX5_rotate_0 : decode cX5_rotate 0 = .ok (.aload_n 0, 1) := by decide +kernel
theorem dX5_rotate_1 : decode cX5_rotate 1 = .ok (.iload_n 1, 1) := by decide +kernel
theorem dX5_rotate_2 : decode cX5_rotate 2 = .ok (.invokevirtual 99, 3) := by decide +kernel
theorem dX5_rotate_5 : decode cX5_rotate 5 = .ok (.astore_n 2, 1) := by decide +kernel
theorem dX5_rotate_6 : decode cX5_rotate 6 = .ok (.aload_n 2, 1) := by decide +kernel
theorem dX5_rotate_7 : decode cX5_rotate 7 = .ok (.invokevirtual 167, 3) := by decide +kernel
theorem dX5_rotate_10 : decode cX5_rotate 10 = .ok (.ifCond .eq 13, 3) := by decide +kernel
theorem dX5_rotate_13 : decode cX5_rotate 13 = .ok (.new 122, 3) := by decide +kernel
theorem dX5_rotate_16 : decode cX5_rotate 16 = .ok (.dup, 1) := by decide +kernel
theorem dX5_rotate_17 : decode cX5_rotate 17 = .ok (.ldc 170, 2) := by decide +kernel
theorem dX5_rotate_19 : decode cX5_rotate 19 = .ok (.invokespecial 126, 3) := by decide +kernel
theorem dX5_rotate_22 : decode cX5_rotate 22 = .ok (.athrow, 1) := by decide +kernel
theorem dX5_rotate_23 : decode cX5_rotate 23 = .ok (.aload_n 2, 1) := by decide +kernel
theorem dX5_rotate_24 : decode cX5_rotate 24 = .ok (.invokevirtual 172, 3) := by decide +kernel
theorem dX5_rotate_27 : decode cX5_rotate 27 = .ok (.aload_n 2, 1) := by decide +kernel
theorem dX5_rotate_28 : decode cX5_rotate 28 = .ok (.getfield 175, 3) := by decide +kernel
theorem dX5_rotate_31 : decode cX5_rotate 31 = .ok (.ireturn, 1) := by decide +kernel
set_option maxRecDepth 20000 in
theorem ggX5_connect_X0_waiting : GoodIn wsX5_connect wsX0_waiting := goodIn_r _ [9, 10, 11, 21, 22, 23, 24, 25, 26] (by decide +kernel) (by decide +kernel)
set_option maxRecDepth 20000 in
theorem gX5_connect_X0_waiting : GoodIn wsX5_connect (wsV RX5 183 RX0 yX0_waiting wsX0_waiting) := goodIn_app (goodIn_of _ (by decide +kernel)) ggX5_connect_X0_waiting
theorem dX5_connect_0 : decode cX5_connect 0 = .ok (.aload_n 0, 1) := by decide +kernel
theorem dX5_connect_1 : decode cX5_connect 1 = .ok (.getfield 30, 3) := by decide +kernel
theorem dX5_connect_4 : decode cX5_connect 4 = .ok (.getfield 178, 3) := by decide +kernel
theorem dX5_connect_7 : decode cX5_connect 7 = .ok (.ifCond .eq 13, 3) := by decide +kernel
theorem dX5_connect_10 : decode cX5_connect 10 = .ok (.new 122, 3) := by decide +kernel
theorem dX5_connect_13 : decode cX5_connect 13 = .ok (.dup, 1) := by decide +kernel
theorem dX5_connect_14 : decode cX5_connect 14 = .ok (.ldc 181, 2) := by decide +kernel
theorem dX5_connect_16 : decode cX5_connect 16 = .ok (.invokespecial 126, 3) := by decide +kernel
theorem dX5_connect_19 : decode cX5_connect 19 = .ok (.athrow, 1) := by decide +kernel
theorem dX5_connect_20 : decode cX5_connect 20 = .ok (.aload_n 0, 1) := by decide +kernel
theorem dX5_connect_21 : decode cX5_connect 21 = .ok (.getfield 30, 3) := by decide +kernel
theorem dX5_connect_24 : decode cX5_connect 24 = .ok (.iconst 1, 1) := by decide +kernel
theorem dX5_connect_25 : decode cX5_connect 25 = .ok (.putfield 178, 3) := by decide +kernel
theorem dX5_connect_28 : decode cX5_connect 28 = .ok (.aload_n 0, 1) := by decide +kernel
theorem dX5_connect_29 : decode cX5_connect 29 = .ok (.getfield 30, 3) := by decide +kernel
theorem dX5_connect_32 : decode cX5_connect 32 = .ok (.invokevirtual 183, 3) := by decide +kernel
theorem dX5_connect_35 : decode cX5_connect 35 = .ok (.ireturn, 1) := by decide +kernel
set_option maxRecDepth 20000 in
theorem ggX5_disconnect_X0_flying : GoodIn wsX5_disconnect wsX0_flying := goodIn_r _ [9, 10, 11, 26, 27, 28, 29, 30, 31] (by decide +kernel) (by decide +kernel)
set_option maxRecDepth 20000 in
theorem gX5_disconnect_X0_flying : GoodIn wsX5_disconnect (wsV RX5 188 RX0 yX0_flying wsX0_flying) := goodIn_app (goodIn_of _ (by decide +kernel)) ggX5_disconnect_X0_flying
set_option maxRecDepth 20000 in
theorem ggX5_disconnect_X0_loseConnection : GoodIn wsX5_disconnect wsX0_loseConnection := goodIn_r _ [15, 16, 11, 10, 26, 27, 28, 29, 30, 31] (by decide +kernel) (by decide +kernel)
set_option maxRecDepth 20000 in
theorem gX5_disconnect_X0_loseConnection : GoodIn wsX5_disconnect (wsV RX5 191 RX0 yX0_loseConnection wsX0_loseConnection) := goodIn_app (goodIn_of _ (by decide +kernel)) ggX5_disconnect_X0_loseConnection
theorem dX5_disconnect_0 : decode cX5_disconnect 0 = .ok (.aload_n 0, 1) := by decide +kernel
theorem dX5_disconnect_1 : decode cX5_disconnect 1 = .ok (.getfield 30, 3) := by decide +kernel
theorem dX5_disconnect_4 : decode cX5_disconnect 4 = .ok (.getfield 178, 3) := by decide +kernel
theorem dX5_disconnect_7 : decode cX5_disconnect 7 = .ok (.ifCond .ne 13, 3) := by decide +kernel
theorem dX5_disconnect_10 : decode cX5_disconnect 10 = .ok (.new 122, 3) := by decide +kernel
theorem dX5_disconnect_13 : decode cX5_disconnect 13 = .ok (.dup, 1) := by decide +kernel
theorem dX5_disconnect_14 : decode cX5_disconnect 14 = .ok (.ldc 186, 2) := by decide +kernel
theorem dX5_disconnect_16 : decode cX5_disconnect 16 = .ok (.invokespecial 126, 3) := by decide +kernel
theorem dX5_disconnect_19 : decode cX5_disconnect 19 = .ok (.athrow, 1) := by decide +kernel
theorem dX5_disconnect_20 : decode cX5_disconnect 20 = .ok (.aload_n 0, 1) := by decide +kernel
theorem dX5_disconnect_21 : decode cX5_disconnect 21 = .ok (.getfield 30, 3) := by decide +kernel
theorem dX5_disconnect_24 : decode cX5_disconnect 24 = .ok (.invokevirtual 188, 3) := by decide +kernel
theorem dX5_disconnect_27 : decode cX5_disconnect 27 = .ok (.istore_n 1, 1) := by decide +kernel
theorem dX5_disconnect_28 : decode cX5_disconnect 28 = .ok (.aload_n 0, 1) := by decide +kernel
theorem dX5_disconnect_29 : decode cX5_disconnect 29 = .ok (.getfield 30, 3) := by decide +kernel
theorem dX5_disconnect_32 : decode cX5_disconnect 32 = .ok (.invokevirtual 191, 3) := by decide +kernel
theorem dX5_disconnect_35 : decode cX5_disconnect 35 = .ok (.iload_n 1, 1) := by decide +kernel
theorem dX5_disconnect_36 : decode cX5_disconnect 36 = .ok (.ireturn, 1) := by decide +kernel
set_option maxRecDepth 20000 in
theorem ggX5_send_X0_canSend : GoodIn wsX5_send wsX0_canSend := goodIn_r _ [8, 9, 10, 11, 12, 7, 13, 14, 15, 16, 17, 18, 19, 20, 39, 40, 41, 42, 43, 44] (by decide +kernel) (by decide +kernel)
set_option maxRecDepth 20000 in
theorem gX5_send_X0_canSend : GoodIn wsX5_send (wsV RX5 194 RX0 yX0_canSend wsX0_canSend) := goodIn_app (goodIn_of _ (by decide +kernel)) ggX5_send_X0_canSend
set_option maxRecDepth 20000 in
theorem ggX5_send_X0_sendFirst : GoodIn wsX5_send wsX0_sendFirst := goodIn_r _ [24, 15, 25, 26, 27, 7, 28, 29, 39, 40, 41, 42, 43, 44] (by decide +kernel) (by decide +kernel)
set_option maxRecDepth 20000 in
theorem gX5_send_X0_sendFirst : GoodIn wsX5_send (wsV RX5 199 RX0 yX0_sendFirst wsX0_sendFirst) := goodIn_app (goodIn_of _ (by decide +kernel)) ggX5_send_X0_sendFirst
theorem dX5_send_0 : decode cX5_send 0 = .ok (.aload_n 0, 1) := by decide +kernel
theorem dX5_send_1 : decode cX5_send 1 = .ok (.getfield 30, 3) := by decide +kernel
theorem dX5_send_4 : decode cX5_send 4 = .ok (.invokevirtual 194, 3) := by decide +kernel
theorem dX5_send_7 : decode cX5_send 7 = .ok (.ifCond .ne 13, 3) := by decide +kernel
theorem dX5_send_10 : decode cX5_send 10 = .ok (.new 122, 3) := by decide +kernel
theorem dX5_send_13 : decode cX5_send 13 = .ok (.dup, 1) := by decide +kernel
theorem dX5_send_14 : decode cX5_send 14 = .ok (.ldc 197, 2) := by decide +kernel
theorem dX5_send_16 : decode cX5_send 16 = .ok (.invokespecial 126, 3) := by decide +kernel
theorem dX5_send_19 : decode cX5_send 19 = .ok (.athrow, 1) := by decide +kernel
theorem dX5_send_20 : decode cX5_send 20 = .ok (.aload_n 0, 1) := by decide +kernel
theorem dX5_send_21 : decode cX5_send 21 = .ok (.getfield 30, 3) := by decide +kernel
theorem dX5_send_24 : decode cX5_send 24 = .ok (.invokevirtual 199, 3) := by decide +kernel
theorem dX5_send_27 : decode cX5_send 27 = .ok (.ireturn, 1) := by decide +kernel
set_option maxRecDepth 20000 in
theorem ggX5_acknowledge_X0_flying : GoodIn wsX5_acknowledge wsX0_flying := goodIn_r _ [8, 9, 10, 29, 30, 31, 32, 33, 34] (by decide +kernel) (by decide +kernel)
set_option maxRecDepth 20000 in
theorem gX5_acknowledge_X0_flying : GoodIn wsX5_acknowledge (wsV RX5 188 RX0 yX0_flying wsX0_flying) := goodIn_app (goodIn_of _ (by decide +kernel)) ggX5_acknowledge_X0_flying
set_option maxRecDepth 20000 in
theorem ggX5_acknowledge_X0_acknowledgeFirst : GoodIn wsX5_acknowledge wsX0_acknowledgeFirst := goodIn_r _ [14, 10, 15, 16, 17, 7, 18, 19, 29, 30, 31, 32, 33, 34] (by decide +kernel) (by decide +kernel)
set_option maxRecDepth 20000 in
theorem gX5_acknowledge_X0_acknowledgeFirst : GoodIn wsX5_acknowledge (wsV RX5 204 RX0 yX0_acknowledgeFirst wsX0_acknowledgeFirst) := goodIn_app (goodIn_of _ (by decide +kernel)) ggX5_acknowledge_X0_acknowledgeFirst
theorem dX5_acknowledge_0 : decode cX5_acknowledge 0 = .ok (.aload_n 0, 1) := by decide +kernel
theorem dX5_acknowledge_1 : decode cX5_acknowledge 1 = .ok (.getfield 30, 3) := by decide +kernel
theorem dX5_acknowledge_4 : decode cX5_acknowledge 4 = .ok (.invokevirtual 188, 3) := by decide +kernel
theorem dX5_acknowledge_7 : decode cX5_acknowledge 7 = .ok (.ifCond .ne 13, 3) := by decide +kernel
theorem dX5_acknowledge_10 : decode cX5_acknowledge 10 = .ok (.new 122, 3) := by decide +kernel
theorem dX5_acknowledge_13 : decode cX5_acknowledge 13 = .ok (.dup, 1) := by decide +kernel
theorem dX5_acknowledge_14 : decode cX5_acknowledge 14 = .ok (.ldc 202, 2) := by decide +kernel
theorem dX5_acknowledge_16 : decode cX5_acknowledge 16 = .ok (.invokespecial 126, 3) := by decide +kernel
theorem dX5_acknowledge_19 : decode cX5_acknowledge 19 = .ok (.athrow, 1) := by decide +kernel
theorem dX5_acknowledge_20 : decode cX5_acknowledge 20 = .ok (.aload_n 0, 1) := by decide +kernel
theorem dX5_acknowledge_21 : decode cX5_acknowledge 21 = .ok (.getfield 30, 3) := by decide +kernel
theorem dX5_acknowledge_24 : decode cX5_acknowledge 24 = .ok (.invokevirtual 204, 3) := by decide +kernel
theorem dX5_acknowledge_27 : decode cX5_acknowledge 27 = .ok (.ireturn, 1) := by decide +kernel
theorem dX5_time_0 : decode cX5_time 0 = .ok (.aload_n 0, 1) := by decide +kernel
theorem dX5_time_1 : decode cX5_time 1 = .ok (.getfield 41, 3) := by decide +kernel
theorem dX5_time_4 : decode cX5_time 4 = .ok (.ireturn, 1) := by decide +kernel
set_option maxRecDepth 20000 in
theorem ggX5_tokens_X5_senderAt : GoodIn wsX5_tokens wsX5_senderAt := goodIn_ca (goodIn_r _ [6, 7, 8, 9, 19, 20, 21, 22, 23, 24, 25, 26, 27] (by decide +kernel) (by decide +kernel)) (goodIn_sub (fun _ h => List.mem_cons_of_mem _ (List.mem_append_right _ h)) (by decide +kernel))
set_option maxRecDepth 20000 in
theorem gX5_tokens_X5_senderAt : GoodIn wsX5_tokens (wsV RX5 112 RX5 yX5_senderAt wsX5_senderAt) := goodIn_app (goodIn_of _ (by decide +kernel)) ggX5_tokens_X5_senderAt
theorem dX5_tokens_0 : decode cX5_tokens 0 = .ok (.aload_n 0, 1) := by decide +kernel
theorem dX5_tokens_1 : decode cX5_tokens 1 = .ok (.iload_n 1, 1) := by decide +kernel
theorem dX5_tokens_2 : decode cX5_tokens 2 = .ok (.invokevirtual 112, 3) := by decide +kernel
theorem dX5_tokens_5 : decode cX5_tokens 5 = .ok (.getfield 142, 3) := by decide +kernel
theorem dX5_tokens_8 : decode cX5_tokens 8 = .ok (.ireturn, 1) := by decide +kernel
set_option maxRecDepth 20000 in
theorem ggX5_repeats_X5_senderAt : GoodIn wsX5_repeats wsX5_senderAt := goodIn_ca (goodIn_r _ [6, 7, 8, 9, 19, 20, 21, 22, 23, 24, 25, 26, 27] (by decide +kernel) (by decide +kernel)) (goodIn_sub (fun _ h => List.mem_cons_of_mem _ (List.mem_append_right _ h)) (by decide +kernel))
set_option maxRecDepth 20000 in
theorem gX5_repeats_X5_senderAt : GoodIn wsX5_repeats (wsV RX5 112 RX5 yX5_senderAt wsX5_senderAt) := goodIn_app (goodIn_of _ (by decide +kernel)) ggX5_repeats_X5_senderAt
theorem dX5_repeats_0 : decode cX5_repeats 0 = .ok (.aload_n 0, 1) := by decide +kernel
theorem dX5_repeats_1 : decode cX5_repeats 1 = .ok (.iload_n 1, 1) := by decide +kernel
theorem dX5_repeats_2 : decode cX5_repeats 2 = .ok (.invokevirtual 112, 3) := by decide +kernel
theorem dX5_repeats_5 : decode cX5_repeats 5 = .ok (.getfield 207, 3) := by decide +kernel
theorem dX5_repeats_8 : decode cX5_repeats 8 = .ok (.ireturn, 1) := by decide +kernel
set_option maxRecDepth 20000 in
theorem ggX5_drops_X5_senderAt : GoodIn wsX5_drops wsX5_senderAt := goodIn_ca (goodIn_r _ [6, 7, 8, 9, 19, 20, 21, 22, 23, 24, 25, 26, 27] (by decide +kernel) (by decide +kernel)) (goodIn_sub (fun _ h => List.mem_cons_of_mem _ (List.mem_append_right _ h)) (by decide +kernel))
set_option maxRecDepth 20000 in
theorem gX5_drops_X5_senderAt : GoodIn wsX5_drops (wsV RX5 112 RX5 yX5_senderAt wsX5_senderAt) := goodIn_app (goodIn_of _ (by decide +kernel)) ggX5_drops_X5_senderAt
theorem dX5_drops_0 : decode cX5_drops 0 = .ok (.aload_n 0, 1) := by decide +kernel
theorem dX5_drops_1 : decode cX5_drops 1 = .ok (.iload_n 1, 1) := by decide +kernel
theorem dX5_drops_2 : decode cX5_drops 2 = .ok (.invokevirtual 112, 3) := by decide +kernel
theorem dX5_drops_5 : decode cX5_drops 5 = .ok (.getfield 145, 3) := by decide +kernel
theorem dX5_drops_8 : decode cX5_drops 8 = .ok (.ireturn, 1) := by decide +kernel
set_option maxRecDepth 20000 in
theorem ggX5_size_X5_fileAt : GoodIn wsX5_size wsX5_fileAt := goodIn_ca (goodIn_r _ [6, 7, 8, 9, 20, 21, 22, 23, 24, 25, 26, 27, 28] (by decide +kernel) (by decide +kernel)) (goodIn_sub (fun _ h => List.mem_cons_of_mem _ (List.mem_append_right _ h)) (by decide +kernel))
set_option maxRecDepth 20000 in
theorem gX5_size_X5_fileAt : GoodIn wsX5_size (wsV RX5 99 RX5 yX5_fileAt wsX5_fileAt) := goodIn_app (goodIn_of _ (by decide +kernel)) ggX5_size_X5_fileAt
theorem dX5_size_0 : decode cX5_size 0 = .ok (.aload_n 0, 1) := by decide +kernel
theorem dX5_size_1 : decode cX5_size 1 = .ok (.iload_n 1, 1) := by decide +kernel
theorem dX5_size_2 : decode cX5_size 2 = .ok (.invokevirtual 99, 3) := by decide +kernel
theorem dX5_size_5 : decode cX5_size 5 = .ok (.getfield 109, 3) := by decide +kernel
theorem dX5_size_8 : decode cX5_size 8 = .ok (.ireturn, 1) := by decide +kernel
set_option maxRecDepth 20000 in
theorem ggX5_lines_X5_fileAt : GoodIn wsX5_lines wsX5_fileAt := goodIn_ca (goodIn_r _ [7, 1, 2, 8, 25, 26, 27, 28, 29, 30, 31, 32, 33] (by decide +kernel) (by decide +kernel)) (goodIn_sub (fun _ h => List.mem_cons_of_mem _ (List.mem_append_right _ h)) (by decide +kernel))
set_option maxRecDepth 20000 in
theorem gX5_lines_X5_fileAt : GoodIn wsX5_lines (wsV RX5 99 RX5 yX5_fileAt wsX5_fileAt) := goodIn_app (goodIn_of _ (by decide +kernel)) ggX5_lines_X5_fileAt
set_option maxRecDepth 20000 in
theorem ggX5_lines_X2_has : GoodIn wsX5_lines wsX2_has := goodIn_r _ [13, 14, 34, 35, 36, 37, 38, 39, 40, 41, 42, 43] (by decide +kernel) (by decide +kernel)
set_option maxRecDepth 20000 in
theorem gX5_lines_X2_has : GoodIn wsX5_lines (wsV RX5 210 RX2 yX2_has wsX2_has) := goodIn_app (goodIn_of _ (by decide +kernel)) ggX5_lines_X2_has
set_option maxRecDepth 20000 in
theorem ggX5_lines_X2_linesOf : GoodIn wsX5_lines wsX2_linesOf := goodIn_r _ [18, 19, 20, 21, 22, 12, 23, 24, 34, 35, 36, 37, 38, 39, 40, 41, 42, 43] (by decide +kernel) (by decide +kernel)
set_option maxRecDepth 20000 in
theorem gX5_lines_X2_linesOf : GoodIn wsX5_lines (wsV RX5 216 RX2 yX2_linesOf wsX2_linesOf) := goodIn_app (goodIn_of _ (by decide +kernel)) ggX5_lines_X2_linesOf
theorem dX5_lines_0 : decode cX5_lines 0 = .ok (.aload_n 0, 1) := by decide +kernel
theorem dX5_lines_1 : decode cX5_lines 1 = .ok (.iload_n 1, 1) := by decide +kernel
theorem dX5_lines_2 : decode cX5_lines 2 = .ok (.invokevirtual 99, 3) := by decide +kernel
theorem dX5_lines_5 : decode cX5_lines 5 = .ok (.astore_n 3, 1) := by decide +kernel
theorem dX5_lines_6 : decode cX5_lines 6 = .ok (.aload_n 3, 1) := by decide +kernel
theorem dX5_lines_7 : decode cX5_lines 7 = .ok (.iload_n 2, 1) := by decide +kernel
theorem dX5_lines_8 : decode cX5_lines 8 = .ok (.invokevirtual 210, 3) := by decide +kernel
theorem dX5_lines_11 : decode cX5_lines 11 = .ok (.ifCond .ne 13, 3) := by decide +kernel
theorem dX5_lines_14 : decode cX5_lines 14 = .ok (.new 80, 3) := by decide +kernel
theorem dX5_lines_17 : decode cX5_lines 17 = .ok (.dup, 1) := by decide +kernel
theorem dX5_lines_18 : decode cX5_lines 18 = .ok (.ldc 214, 2) := by decide +kernel
theorem dX5_lines_20 : decode cX5_lines 20 = .ok (.invokespecial 84, 3) := by decide +kernel
theorem dX5_lines_23 : decode cX5_lines 23 = .ok (.athrow, 1) := by decide +kernel
theorem dX5_lines_24 : decode cX5_lines 24 = .ok (.aload_n 3, 1) := by decide +kernel
theorem dX5_lines_25 : decode cX5_lines 25 = .ok (.iload_n 2, 1) := by decide +kernel
theorem dX5_lines_26 : decode cX5_lines 26 = .ok (.invokevirtual 216, 3) := by decide +kernel
theorem dX5_lines_29 : decode cX5_lines 29 = .ok (.ireturn, 1) := by decide +kernel
set_option maxRecDepth 20000 in
theorem ggX5_line_X5_fileAt : GoodIn wsX5_line wsX5_fileAt := goodIn_ca (goodIn_r _ [7, 1, 2, 8, 33, 34, 35, 36, 37, 38, 39, 40, 41] (by decide +kernel) (by decide +kernel)) (goodIn_sub (fun _ h => List.mem_cons_of_mem _ (List.mem_append_right _ h)) (by decide +kernel))
set_option maxRecDepth 20000 in
theorem gX5_line_X5_fileAt : GoodIn wsX5_line (wsV RX5 99 RX5 yX5_fileAt wsX5_fileAt) := goodIn_app (goodIn_of _ (by decide +kernel)) ggX5_line_X5_fileAt
set_option maxRecDepth 20000 in
theorem ggX5_line_X2_has : GoodIn wsX5_line wsX2_has := goodIn_r _ [13, 14, 42, 43, 44, 45, 46, 47, 48, 49, 50, 51] (by decide +kernel) (by decide +kernel)
set_option maxRecDepth 20000 in
theorem gX5_line_X2_has : GoodIn wsX5_line (wsV RX5 210 RX2 yX2_has wsX2_has) := goodIn_app (goodIn_of _ (by decide +kernel)) ggX5_line_X2_has
set_option maxRecDepth 20000 in
theorem ggX5_line_X2_linesOf : GoodIn wsX5_line wsX2_linesOf := goodIn_r _ [18, 19, 20, 21, 22, 12, 23, 24, 42, 43, 44, 45, 46, 47, 48, 49, 50, 51] (by decide +kernel) (by decide +kernel)
set_option maxRecDepth 20000 in
theorem gX5_line_X2_linesOf : GoodIn wsX5_line (wsV RX5 216 RX2 yX2_linesOf wsX2_linesOf) := goodIn_app (goodIn_of _ (by decide +kernel)) ggX5_line_X2_linesOf
set_option maxRecDepth 20000 in
theorem ggX5_line_X5_isWithin : GoodIn wsX5_line wsX5_isWithin := goodIn_r _ [27] (by decide +kernel) (by decide +kernel)
set_option maxRecDepth 20000 in
theorem gX5_line_X5_isWithin : GoodIn wsX5_line (va_wsS RX5 59 yX5_isWithin wsX5_isWithin) := goodIn_app (goodIn_of _ (by decide +kernel)) ggX5_line_X5_isWithin
set_option maxRecDepth 20000 in
theorem ggX5_line_X2_lineAt : GoodIn wsX5_line wsX2_lineAt := goodIn_r _ [31, 32, 20, 21, 22, 12, 23, 24, 19, 42, 43, 44, 45, 46, 47, 48, 49, 50, 51] (by decide +kernel) (by decide +kernel)
set_option maxRecDepth 20000 in
theorem gX5_line_X2_lineAt : GoodIn wsX5_line (wsV RX5 222 RX2 yX2_lineAt wsX2_lineAt) := goodIn_app (goodIn_of _ (by decide +kernel)) ggX5_line_X2_lineAt
theorem dX5_line_0 : decode cX5_line 0 = .ok (.aload_n 0, 1) := by decide +kernel
theorem dX5_line_1 : decode cX5_line 1 = .ok (.iload_n 1, 1) := by decide +kernel
theorem dX5_line_2 : decode cX5_line 2 = .ok (.invokevirtual 99, 3) := by decide +kernel
theorem dX5_line_5 : decode cX5_line 5 = .ok (.astore 4, 2) := by decide +kernel
theorem dX5_line_7 : decode cX5_line 7 = .ok (.aload 4, 2) := by decide +kernel
theorem dX5_line_9 : decode cX5_line 9 = .ok (.iload_n 2, 1) := by decide +kernel
theorem dX5_line_10 : decode cX5_line 10 = .ok (.invokevirtual 210, 3) := by decide +kernel
theorem dX5_line_13 : decode cX5_line 13 = .ok (.ifCond .ne 13, 3) := by decide +kernel
theorem dX5_line_16 : decode cX5_line 16 = .ok (.new 80, 3) := by decide +kernel
theorem dX5_line_19 : decode cX5_line 19 = .ok (.dup, 1) := by decide +kernel
theorem dX5_line_20 : decode cX5_line 20 = .ok (.ldc 214, 2) := by decide +kernel
theorem dX5_line_22 : decode cX5_line 22 = .ok (.invokespecial 84, 3) := by decide +kernel
theorem dX5_line_25 : decode cX5_line 25 = .ok (.athrow, 1) := by decide +kernel
theorem dX5_line_26 : decode cX5_line 26 = .ok (.iload_n 3, 1) := by decide +kernel
theorem dX5_line_27 : decode cX5_line 27 = .ok (.iconst 0, 1) := by decide +kernel
theorem dX5_line_28 : decode cX5_line 28 = .ok (.aload 4, 2) := by decide +kernel
theorem dX5_line_30 : decode cX5_line 30 = .ok (.iload_n 2, 1) := by decide +kernel
theorem dX5_line_31 : decode cX5_line 31 = .ok (.invokevirtual 216, 3) := by decide +kernel
theorem dX5_line_34 : decode cX5_line 34 = .ok (.iconst 1, 1) := by decide +kernel
theorem dX5_line_35 : decode cX5_line 35 = .ok (.isub, 1) := by decide +kernel
theorem dX5_line_36 : decode cX5_line 36 = .ok (.invokestatic 59, 3) := by decide +kernel
theorem dX5_line_39 : decode cX5_line 39 = .ok (.ifCond .ne 13, 3) := by decide +kernel
theorem dX5_line_42 : decode cX5_line 42 = .ok (.new 80, 3) := by decide +kernel
theorem dX5_line_45 : decode cX5_line 45 = .ok (.dup, 1) := by decide +kernel
theorem dX5_line_46 : decode cX5_line 46 = .ok (.ldc 220, 2) := by decide +kernel
theorem dX5_line_48 : decode cX5_line 48 = .ok (.invokespecial 84, 3) := by decide +kernel
theorem dX5_line_51 : decode cX5_line 51 = .ok (.athrow, 1) := by decide +kernel
theorem dX5_line_52 : decode cX5_line 52 = .ok (.aload 4, 2) := by decide +kernel
theorem dX5_line_54 : decode cX5_line 54 = .ok (.iload_n 2, 1) := by decide +kernel
theorem dX5_line_55 : decode cX5_line 55 = .ok (.iload_n 3, 1) := by decide +kernel
theorem dX5_line_56 : decode cX5_line 56 = .ok (.invokevirtual 222, 3) := by decide +kernel
theorem dX5_line_59 : decode cX5_line 59 = .ok (.ireturn, 1) := by decide +kernel
set_option maxRecDepth 20000 in
theorem ggX5_generations_X5_fileAt : GoodIn wsX5_generations wsX5_fileAt := goodIn_ca (goodIn_r _ [6, 7, 8, 9, 20, 21, 22, 23, 24, 25, 26, 27, 28] (by decide +kernel) (by decide +kernel)) (goodIn_sub (fun _ h => List.mem_cons_of_mem _ (List.mem_append_right _ h)) (by decide +kernel))
set_option maxRecDepth 20000 in
theorem gX5_generations_X5_fileAt : GoodIn wsX5_generations (wsV RX5 99 RX5 yX5_fileAt wsX5_fileAt) := goodIn_app (goodIn_of _ (by decide +kernel)) ggX5_generations_X5_fileAt
theorem dX5_generations_0 : decode cX5_generations 0 = .ok (.aload_n 0, 1) := by decide +kernel
theorem dX5_generations_1 : decode cX5_generations 1 = .ok (.iload_n 1, 1) := by decide +kernel
theorem dX5_generations_2 : decode cX5_generations 2 = .ok (.invokevirtual 99, 3) := by decide +kernel
theorem dX5_generations_5 : decode cX5_generations 5 = .ok (.getfield 175, 3) := by decide +kernel
theorem dX5_generations_8 : decode cX5_generations 8 = .ok (.ireturn, 1) := by decide +kernel
set_option maxRecDepth 20000 in
theorem ggX5_queued_X0_waiting : GoodIn wsX5_queued wsX0_waiting := goodIn_r _ [6, 7, 8, 18, 19, 20, 21, 22, 23] (by decide +kernel) (by decide +kernel)
set_option maxRecDepth 20000 in
theorem gX5_queued_X0_waiting : GoodIn wsX5_queued (wsV RX5 183 RX0 yX0_waiting wsX0_waiting) := goodIn_app (goodIn_of _ (by decide +kernel)) ggX5_queued_X0_waiting
theorem dX5_queued_0 : decode cX5_queued 0 = .ok (.aload_n 0, 1) := by decide +kernel
theorem dX5_queued_1 : decode cX5_queued 1 = .ok (.getfield 30, 3) := by decide +kernel
theorem dX5_queued_4 : decode cX5_queued 4 = .ok (.invokevirtual 183, 3) := by decide +kernel
theorem dX5_queued_7 : decode cX5_queued 7 = .ok (.ireturn, 1) := by decide +kernel
set_option maxRecDepth 20000 in
theorem ggX5_inFlight_X0_flying : GoodIn wsX5_inFlight wsX0_flying := goodIn_r _ [6, 7, 8, 18, 19, 20, 21, 22, 23] (by decide +kernel) (by decide +kernel)
set_option maxRecDepth 20000 in
theorem gX5_inFlight_X0_flying : GoodIn wsX5_inFlight (wsV RX5 188 RX0 yX0_flying wsX0_flying) := goodIn_app (goodIn_of _ (by decide +kernel)) ggX5_inFlight_X0_flying
theorem dX5_inFlight_0 : decode cX5_inFlight 0 = .ok (.aload_n 0, 1) := by decide +kernel
theorem dX5_inFlight_1 : decode cX5_inFlight 1 = .ok (.getfield 30, 3) := by decide +kernel
theorem dX5_inFlight_4 : decode cX5_inFlight 4 = .ok (.invokevirtual 188, 3) := by decide +kernel
theorem dX5_inFlight_7 : decode cX5_inFlight 7 = .ok (.ireturn, 1) := by decide +kernel
theorem dX5_acknowledged_0 : decode cX5_acknowledged 0 = .ok (.aload_n 0, 1) := by decide +kernel
theorem dX5_acknowledged_1 : decode cX5_acknowledged 1 = .ok (.getfield 30, 3) := by decide +kernel
theorem dX5_acknowledged_4 : decode cX5_acknowledged 4 = .ok (.getfield 225, 3) := by decide +kernel
theorem dX5_acknowledged_7 : decode cX5_acknowledged 7 = .ok (.ireturn, 1) := by decide +kernel
theorem dX5_lost_0 : decode cX5_lost 0 = .ok (.aload_n 0, 1) := by decide +kernel
theorem dX5_lost_1 : decode cX5_lost 1 = .ok (.getfield 30, 3) := by decide +kernel
theorem dX5_lost_4 : decode cX5_lost 4 = .ok (.getfield 228, 3) := by decide +kernel
theorem dX5_lost_7 : decode cX5_lost 7 = .ok (.ireturn, 1) := by decide +kernel
theorem dX5_messages_0 : decode cX5_messages 0 = .ok (.aload_n 0, 1) := by decide +kernel
theorem dX5_messages_1 : decode cX5_messages 1 = .ok (.getfield 37, 3) := by decide +kernel
theorem dX5_messages_4 : decode cX5_messages 4 = .ok (.getfield 154, 3) := by decide +kernel
theorem dX5_messages_7 : decode cX5_messages 7 = .ok (.ireturn, 1) := by decide +kernel
set_option maxRecDepth 20000 in
theorem ggX5_fateOf_X1_has : GoodIn wsX5_fateOf wsX1_has := goodIn_r _ [8, 9, 24, 25, 26] (by decide +kernel) (by decide +kernel)
set_option maxRecDepth 20000 in
theorem gX5_fateOf_X1_has : GoodIn wsX5_fateOf (wsV RX5 231 RX1 yX1_has wsX1_has) := goodIn_app (goodIn_of _ (by decide +kernel)) ggX5_fateOf_X1_has
set_option maxRecDepth 20000 in
theorem ggX5_fateOf_X1_fateAt : GoodIn wsX5_fateOf wsX1_fateAt := goodIn_r _ [13, 14, 24, 25, 26] (by decide +kernel) (by decide +kernel)
set_option maxRecDepth 20000 in
theorem gX5_fateOf_X1_fateAt : GoodIn wsX5_fateOf (wsV RX5 234 RX1 yX1_fateAt wsX1_fateAt) := goodIn_app (goodIn_of _ (by decide +kernel)) ggX5_fateOf_X1_fateAt
theorem dX5_fateOf_0 : decode cX5_fateOf 0 = .ok (.aload_n 0, 1) := by decide +kernel
theorem dX5_fateOf_1 : decode cX5_fateOf 1 = .ok (.getfield 37, 3) := by decide +kernel
theorem dX5_fateOf_4 : decode cX5_fateOf 4 = .ok (.iload_n 1, 1) := by decide +kernel
theorem dX5_fateOf_5 : decode cX5_fateOf 5 = .ok (.invokevirtual 231, 3) := by decide +kernel
theorem dX5_fateOf_8 : decode cX5_fateOf 8 = .ok (.ifCond .ne 13, 3) := by decide +kernel
theorem dX5_fateOf_11 : decode cX5_fateOf 11 = .ok (.new 80, 3) := by decide +kernel
theorem dX5_fateOf_14 : decode cX5_fateOf 14 = .ok (.dup, 1) := by decide +kernel
theorem dX5_fateOf_15 : decode cX5_fateOf 15 = .ok (.ldc 232, 2) := by decide +kernel
theorem dX5_fateOf_17 : decode cX5_fateOf 17 = .ok (.invokespecial 84, 3) := by decide +kernel
theorem dX5_fateOf_20 : decode cX5_fateOf 20 = .ok (.athrow, 1) := by decide +kernel
theorem dX5_fateOf_21 : decode cX5_fateOf 21 = .ok (.aload_n 0, 1) := by decide +kernel
theorem dX5_fateOf_22 : decode cX5_fateOf 22 = .ok (.getfield 37, 3) := by decide +kernel
theorem dX5_fateOf_25 : decode cX5_fateOf 25 = .ok (.iload_n 1, 1) := by decide +kernel
theorem dX5_fateOf_26 : decode cX5_fateOf 26 = .ok (.invokevirtual 234, 3) := by decide +kernel
theorem dX5_fateOf_29 : decode cX5_fateOf 29 = .ok (.ireturn, 1) := by decide +kernel
set_option maxRecDepth 20000 in
theorem ggX5_count_X5_isWithin : GoodIn wsX5_count wsX5_isWithin := goodIn_r _ [7] (by decide +kernel) (by decide +kernel)
set_option maxRecDepth 20000 in
theorem gX5_count_X5_isWithin : GoodIn wsX5_count (va_wsS RX5 59 yX5_isWithin wsX5_isWithin) := goodIn_app (goodIn_of _ (by decide +kernel)) ggX5_count_X5_isWithin
set_option maxRecDepth 20000 in
theorem ggX5_count_X1_entriesWith : GoodIn wsX5_count wsX1_entriesWith := goodIn_r _ [12, 13, 14, 24, 25, 26] (by decide +kernel) (by decide +kernel)
set_option maxRecDepth 20000 in
theorem gX5_count_X1_entriesWith : GoodIn wsX5_count (wsV RX5 239 RX1 yX1_entriesWith wsX1_entriesWith) := goodIn_app (goodIn_of _ (by decide +kernel)) ggX5_count_X1_entriesWith
theorem dX5_count_0 : decode cX5_count 0 = .ok (.iload_n 1, 1) := by decide +kernel
theorem dX5_count_1 : decode cX5_count 1 = .ok (.iconst 0, 1) := by decide +kernel
theorem dX5_count_2 : decode cX5_count 2 = .ok (.iconst 3, 1) := by decide +kernel
theorem dX5_count_3 : decode cX5_count 3 = .ok (.invokestatic 59, 3) := by decide +kernel
theorem dX5_count_6 : decode cX5_count 6 = .ok (.ifCond .ne 13, 3) := by decide +kernel
theorem dX5_count_9 : decode cX5_count 9 = .ok (.new 80, 3) := by decide +kernel
theorem dX5_count_12 : decode cX5_count 12 = .ok (.dup, 1) := by decide +kernel
theorem dX5_count_13 : decode cX5_count 13 = .ok (.ldc 237, 2) := by decide +kernel
theorem dX5_count_15 : decode cX5_count 15 = .ok (.invokespecial 84, 3) := by decide +kernel
theorem dX5_count_18 : decode cX5_count 18 = .ok (.athrow, 1) := by decide +kernel
theorem dX5_count_19 : decode cX5_count 19 = .ok (.aload_n 0, 1) := by decide +kernel
theorem dX5_count_20 : decode cX5_count 20 = .ok (.getfield 37, 3) := by decide +kernel
theorem dX5_count_23 : decode cX5_count 23 = .ok (.iload_n 1, 1) := by decide +kernel
theorem dX5_count_24 : decode cX5_count 24 = .ok (.invokevirtual 239, 3) := by decide +kernel
theorem dX5_count_27 : decode cX5_count 27 = .ok (.ireturn, 1) := by decide +kernel
set_option maxRecDepth 20000 in
theorem ggX5_targetsOf_X1_has : GoodIn wsX5_targetsOf wsX1_has := goodIn_r _ [8, 9, 24, 25, 26] (by decide +kernel) (by decide +kernel)
set_option maxRecDepth 20000 in
theorem gX5_targetsOf_X1_has : GoodIn wsX5_targetsOf (wsV RX5 231 RX1 yX1_has wsX1_has) := goodIn_app (goodIn_of _ (by decide +kernel)) ggX5_targetsOf_X1_has
set_option maxRecDepth 20000 in
theorem ggX5_targetsOf_X1_targetsAt : GoodIn wsX5_targetsOf wsX1_targetsAt := goodIn_r _ [13, 14, 24, 25, 26] (by decide +kernel) (by decide +kernel)
set_option maxRecDepth 20000 in
theorem gX5_targetsOf_X1_targetsAt : GoodIn wsX5_targetsOf (wsV RX5 242 RX1 yX1_targetsAt wsX1_targetsAt) := goodIn_app (goodIn_of _ (by decide +kernel)) ggX5_targetsOf_X1_targetsAt
theorem dX5_targetsOf_0 : decode cX5_targetsOf 0 = .ok (.aload_n 0, 1) := by decide +kernel
theorem dX5_targetsOf_1 : decode cX5_targetsOf 1 = .ok (.getfield 37, 3) := by decide +kernel
theorem dX5_targetsOf_4 : decode cX5_targetsOf 4 = .ok (.iload_n 1, 1) := by decide +kernel
theorem dX5_targetsOf_5 : decode cX5_targetsOf 5 = .ok (.invokevirtual 231, 3) := by decide +kernel
theorem dX5_targetsOf_8 : decode cX5_targetsOf 8 = .ok (.ifCond .ne 13, 3) := by decide +kernel
theorem dX5_targetsOf_11 : decode cX5_targetsOf 11 = .ok (.new 80, 3) := by decide +kernel
theorem dX5_targetsOf_14 : decode cX5_targetsOf 14 = .ok (.dup, 1) := by decide +kernel
theorem dX5_targetsOf_15 : decode cX5_targetsOf 15 = .ok (.ldc 232, 2) := by decide +kernel
theorem dX5_targetsOf_17 : decode cX5_targetsOf 17 = .ok (.invokespecial 84, 3) := by decide +kernel
theorem dX5_targetsOf_20 : decode cX5_targetsOf 20 = .ok (.athrow, 1) := by decide +kernel
theorem dX5_targetsOf_21 : decode cX5_targetsOf 21 = .ok (.aload_n 0, 1) := by decide +kernel
theorem dX5_targetsOf_22 : decode cX5_targetsOf 22 = .ok (.getfield 37, 3) := by decide +kernel
theorem dX5_targetsOf_25 : decode cX5_targetsOf 25 = .ok (.iload_n 1, 1) := by decide +kernel
theorem dX5_targetsOf_26 : decode cX5_targetsOf 26 = .ok (.invokevirtual 242, 3) := by decide +kernel
theorem dX5_targetsOf_29 : decode cX5_targetsOf 29 = .ok (.ireturn, 1) := by decide +kernel
theorem dX5_isWithin_0 : decode cX5_isWithin 0 = .ok (.iload_n 0, 1) := by decide +kernel
theorem dX5_isWithin_1 : decode cX5_isWithin 1 = .ok (.iload_n 1, 1) := by decide +kernel
theorem dX5_isWithin_2 : decode cX5_isWithin 2 = .ok (.if_icmp .lt 12, 3) := by decide +kernel
theorem dX5_isWithin_5 : decode cX5_isWithin 5 = .ok (.iload_n 0, 1) := by decide +kernel
theorem dX5_isWithin_6 : decode cX5_isWithin 6 = .ok (.iload_n 2, 1) := by decide +kernel
theorem dX5_isWithin_7 : decode cX5_isWithin 7 = .ok (.if_icmp .gt 7, 3) := by decide +kernel
theorem dX5_isWithin_10 : decode cX5_isWithin 10 = .ok (.iconst 1, 1) := by decide +kernel
theorem dX5_isWithin_11 : decode cX5_isWithin 11 = .ok (.goto 4, 3) := by decide +kernel
theorem dX5_isWithin_14 : decode cX5_isWithin 14 = .ok (.iconst 0, 1) := by decide +kernel
theorem dX5_isWithin_15 : decode cX5_isWithin 15 = .ok (.ireturn, 1) := by decide +kernel
theorem dX5_senderAt_0 : decode cX5_senderAt 0 = .ok (.iload_n 1, 1) := by decide +kernel
theorem dX5_senderAt_1 : decode cX5_senderAt 1 = .ok (.ifCond .lt 9, 3) := by decide +kernel
theorem dX5_senderAt_4 : decode cX5_senderAt 4 = .ok (.iload_n 1, 1) := by decide +kernel
theorem dX5_senderAt_5 : decode cX5_senderAt 5 = .ok (.bipush 6, 2) := by decide +kernel
theorem dX5_senderAt_7 : decode cX5_senderAt 7 = .ok (.if_icmp .lt 13, 3) := by decide +kernel
theorem dX5_senderAt_10 : decode cX5_senderAt 10 = .ok (.new 80, 3) := by decide +kernel
theorem dX5_senderAt_13 : decode cX5_senderAt 13 = .ok (.dup, 1) := by decide +kernel
theorem dX5_senderAt_14 : decode cX5_senderAt 14 = .ok (.ldc 245, 2) := by decide +kernel
theorem dX5_senderAt_16 : decode cX5_senderAt 16 = .ok (.invokespecial 84, 3) := by decide +kernel
theorem dX5_senderAt_19 : decode cX5_senderAt 19 = .ok (.athrow, 1) := by decide +kernel
theorem dX5_senderAt_20 : decode cX5_senderAt 20 = .ok (.aload_n 0, 1) := by decide +kernel
theorem dX5_senderAt_21 : decode cX5_senderAt 21 = .ok (.getfield 11, 3) := by decide +kernel
theorem dX5_senderAt_24 : decode cX5_senderAt 24 = .ok (.iload_n 1, 1) := by decide +kernel
theorem dX5_senderAt_25 : decode cX5_senderAt 25 = .ok (.aaload, 1) := by decide +kernel
theorem dX5_senderAt_26 : decode cX5_senderAt 26 = .ok (.areturn, 1) := by decide +kernel
theorem dX5_ruleAt_0 : decode cX5_ruleAt 0 = .ok (.iload_n 1, 1) := by decide +kernel
theorem dX5_ruleAt_1 : decode cX5_ruleAt 1 = .ok (.ifCond .lt 9, 3) := by decide +kernel
theorem dX5_ruleAt_4 : decode cX5_ruleAt 4 = .ok (.iload_n 1, 1) := by decide +kernel
theorem dX5_ruleAt_5 : decode cX5_ruleAt 5 = .ok (.bipush 6, 2) := by decide +kernel
theorem dX5_ruleAt_7 : decode cX5_ruleAt 7 = .ok (.if_icmp .lt 13, 3) := by decide +kernel
theorem dX5_ruleAt_10 : decode cX5_ruleAt 10 = .ok (.new 80, 3) := by decide +kernel
theorem dX5_ruleAt_13 : decode cX5_ruleAt 13 = .ok (.dup, 1) := by decide +kernel
theorem dX5_ruleAt_14 : decode cX5_ruleAt 14 = .ok (.ldc 247, 2) := by decide +kernel
theorem dX5_ruleAt_16 : decode cX5_ruleAt 16 = .ok (.invokespecial 84, 3) := by decide +kernel
theorem dX5_ruleAt_19 : decode cX5_ruleAt 19 = .ok (.athrow, 1) := by decide +kernel
theorem dX5_ruleAt_20 : decode cX5_ruleAt 20 = .ok (.aload_n 0, 1) := by decide +kernel
theorem dX5_ruleAt_21 : decode cX5_ruleAt 21 = .ok (.getfield 17, 3) := by decide +kernel
theorem dX5_ruleAt_24 : decode cX5_ruleAt 24 = .ok (.iload_n 1, 1) := by decide +kernel
theorem dX5_ruleAt_25 : decode cX5_ruleAt 25 = .ok (.aaload, 1) := by decide +kernel
theorem dX5_ruleAt_26 : decode cX5_ruleAt 26 = .ok (.areturn, 1) := by decide +kernel
theorem dX5_fileAt_0 : decode cX5_fileAt 0 = .ok (.iload_n 1, 1) := by decide +kernel
theorem dX5_fileAt_1 : decode cX5_fileAt 1 = .ok (.ifCond .lt 8, 3) := by decide +kernel
theorem dX5_fileAt_4 : decode cX5_fileAt 4 = .ok (.iload_n 1, 1) := by decide +kernel
theorem dX5_fileAt_5 : decode cX5_fileAt 5 = .ok (.iconst 4, 1) := by decide +kernel
theorem dX5_fileAt_6 : decode cX5_fileAt 6 = .ok (.if_icmp .lt 13, 3) := by decide +kernel
theorem dX5_fileAt_9 : decode cX5_fileAt 9 = .ok (.new 80, 3) := by decide +kernel
theorem dX5_fileAt_12 : decode cX5_fileAt 12 = .ok (.dup, 1) := by decide +kernel
theorem dX5_fileAt_13 : decode cX5_fileAt 13 = .ok (.ldc 249, 2) := by decide +kernel
theorem dX5_fileAt_15 : decode cX5_fileAt 15 = .ok (.invokespecial 84, 3) := by decide +kernel
theorem dX5_fileAt_18 : decode cX5_fileAt 18 = .ok (.athrow, 1) := by decide +kernel
theorem dX5_fileAt_19 : decode cX5_fileAt 19 = .ok (.aload_n 0, 1) := by decide +kernel
theorem dX5_fileAt_20 : decode cX5_fileAt 20 = .ok (.getfield 23, 3) := by decide +kernel
theorem dX5_fileAt_23 : decode cX5_fileAt 23 = .ok (.iload_n 1, 1) := by decide +kernel
theorem dX5_fileAt_24 : decode cX5_fileAt 24 = .ok (.aaload, 1) := by decide +kernel
theorem dX5_fileAt_25 : decode cX5_fileAt 25 = .ok (.areturn, 1) := by decide +kernel
theorem dX5_rulesThatAreSet_0 : decode cX5_rulesThatAreSet 0 = .ok (.iconst 0, 1) := by decide +kernel
theorem dX5_rulesThatAreSet_1 : decode cX5_rulesThatAreSet 1 = .ok (.istore_n 1, 1) := by decide +kernel
theorem dX5_rulesThatAreSet_2 : decode cX5_rulesThatAreSet 2 = .ok (.iconst 0, 1) := by decide +kernel
theorem dX5_rulesThatAreSet_3 : decode cX5_rulesThatAreSet 3 = .ok (.istore_n 2, 1) := by decide +kernel
theorem dX5_rulesThatAreSet_4 : decode cX5_rulesThatAreSet 4 = .ok (.iload_n 2, 1) := by decide +kernel
theorem dX5_rulesThatAreSet_5 : decode cX5_rulesThatAreSet 5 = .ok (.bipush 6, 2) := by decide +kernel
theorem dX5_rulesThatAreSet_7 : decode cX5_rulesThatAreSet 7 = .ok (.if_icmp .ge 24, 3) := by decide +kernel
theorem dX5_rulesThatAreSet_10 : decode cX5_rulesThatAreSet 10 = .ok (.aload_n 0, 1) := by decide +kernel
theorem dX5_rulesThatAreSet_11 : decode cX5_rulesThatAreSet 11 = .ok (.getfield 17, 3) := by decide +kernel
theorem dX5_rulesThatAreSet_14 : decode cX5_rulesThatAreSet 14 = .ok (.iload_n 2, 1) := by decide +kernel
theorem dX5_rulesThatAreSet_15 : decode cX5_rulesThatAreSet 15 = .ok (.aaload, 1) := by decide +kernel
theorem dX5_rulesThatAreSet_16 : decode cX5_rulesThatAreSet 16 = .ok (.getfield 95, 3) := by decide +kernel
theorem dX5_rulesThatAreSet_19 : decode cX5_rulesThatAreSet 19 = .ok (.ifCond .eq 6, 3) := by decide +kernel
theorem dX5_rulesThatAreSet_22 : decode cX5_rulesThatAreSet 22 = .ok (.iinc 1 1, 3) := by decide +kernel
theorem dX5_rulesThatAreSet_25 : decode cX5_rulesThatAreSet 25 = .ok (.iinc 2 1, 3) := by decide +kernel
theorem dX5_rulesThatAreSet_28 : decode cX5_rulesThatAreSet 28 = .ok (.goto (-24), 3) := by decide +kernel
theorem dX5_rulesThatAreSet_31 : decode cX5_rulesThatAreSet 31 = .ok (.iload_n 1, 1) := by decide +kernel
theorem dX5_rulesThatAreSet_32 : decode cX5_rulesThatAreSet 32 = .ok (.ireturn, 1) := by decide +kernel
set_option maxRecDepth 20000 in
theorem ggX5_tellRepeats_X5_route : GoodIn wsX5_tellRepeats wsX5_route := goodIn_r _ [9, 10, 11, 12, 13, 14, 15, 16, 17, 18, 19, 20, 21, 22, 23, 24, 25, 26, 27, 28, 29, 30, 31, 32, 33, 34, 35, 36, 37, 38, 39, 40, 41, 42, 43, 44, 45, 46, 47, 48, 49, 50, 51, 52, 53, 54, 64, 65, 66, 67, 68, 69, 70, 71, 72, 73, 74, 75, 76, 77, 78, 79, 80, 81, 82, 83, 84, 85, 86, 87, 88, 89, 90, 91, 92, 93] (by decide +kernel) (by decide +kernel)
set_option maxRecDepth 20000 in
theorem gX5_tellRepeats_X5_route : GoodIn wsX5_tellRepeats (wsV RX5 157 RX5 yX5_route wsX5_route) := goodIn_app (goodIn_of _ (by decide +kernel)) ggX5_tellRepeats_X5_route
theorem dX5_tellRepeats_0 : decode cX5_tellRepeats 0 = .ok (.aload_n 1, 1) := by decide +kernel
theorem dX5_tellRepeats_1 : decode cX5_tellRepeats 1 = .ok (.getfield 207, 3) := by decide +kernel
theorem dX5_tellRepeats_4 : decode cX5_tellRepeats 4 = .ok (.ifCond .le 44, 3) := by decide +kernel
theorem dX5_tellRepeats_7 : decode cX5_tellRepeats 7 = .ok (.sipush 10000, 3) := by decide +kernel
theorem dX5_tellRepeats_10 : decode cX5_tellRepeats 10 = .ok (.aload_n 1, 1) := by decide +kernel
theorem dX5_tellRepeats_11 : decode cX5_tellRepeats 11 = .ok (.getfield 251, 3) := by decide +kernel
theorem dX5_tellRepeats_14 : decode cX5_tellRepeats 14 = .ok (.iconst 1, 1) := by decide +kernel
theorem dX5_tellRepeats_15 : decode cX5_tellRepeats 15 = .ok (.iadd, 1) := by decide +kernel
theorem dX5_tellRepeats_16 : decode cX5_tellRepeats 16 = .ok (.imul, 1) := by decide +kernel
theorem dX5_tellRepeats_17 : decode cX5_tellRepeats 17 = .ok (.aload_n 1, 1) := by decide +kernel
theorem dX5_tellRepeats_18 : decode cX5_tellRepeats 18 = .ok (.getfield 207, 3) := by decide +kernel
theorem dX5_tellRepeats_21 : decode cX5_tellRepeats 21 = .ok (.iadd, 1) := by decide +kernel
theorem dX5_tellRepeats_22 : decode cX5_tellRepeats 22 = .ok (.istore_n 2, 1) := by decide +kernel
theorem dX5_tellRepeats_23 : decode cX5_tellRepeats 23 = .ok (.aload_n 0, 1) := by decide +kernel
theorem dX5_tellRepeats_24 : decode cX5_tellRepeats 24 = .ok (.iload_n 2, 1) := by decide +kernel
theorem dX5_tellRepeats_25 : decode cX5_tellRepeats 25 = .ok (.aload_n 1, 1) := by decide +kernel
theorem dX5_tellRepeats_26 : decode cX5_tellRepeats 26 = .ok (.getfield 251, 3) := by decide +kernel
theorem dX5_tellRepeats_29 : decode cX5_tellRepeats 29 = .ok (.aload_n 1, 1) := by decide +kernel
theorem dX5_tellRepeats_30 : decode cX5_tellRepeats 30 = .ok (.getfield 254, 3) := by decide +kernel
theorem dX5_tellRepeats_33 : decode cX5_tellRepeats 33 = .ok (.aload_n 1, 1) := by decide +kernel
theorem dX5_tellRepeats_34 : decode cX5_tellRepeats 34 = .ok (.getfield 257, 3) := by decide +kernel
theorem dX5_tellRepeats_37 : decode cX5_tellRepeats 37 = .ok (.bipush 15, 2) := by decide +kernel
theorem dX5_tellRepeats_39 : decode cX5_tellRepeats 39 = .ok (.invokevirtual 157, 3) := by decide +kernel
theorem dX5_tellRepeats_42 : decode cX5_tellRepeats 42 = .ok (.pop, 1) := by decide +kernel
theorem dX5_tellRepeats_43 : decode cX5_tellRepeats 43 = .ok (.aload_n 1, 1) := by decide +kernel
theorem dX5_tellRepeats_44 : decode cX5_tellRepeats 44 = .ok (.iconst 0, 1) := by decide +kernel
theorem dX5_tellRepeats_45 : decode cX5_tellRepeats 45 = .ok (.putfield 207, 3) := by decide +kernel
theorem dX5_tellRepeats_48 : decode cX5_tellRepeats 48 = .ok (.return_, 1) := by decide +kernel
set_option maxRecDepth 20000 in
theorem ggX5_tellDrops_X5_route : GoodIn wsX5_tellDrops wsX5_route := goodIn_r _ [8, 9, 10, 11, 12, 13, 14, 15, 16, 17, 18, 19, 20, 21, 22, 23, 24, 25, 26, 27, 28, 29, 30, 31, 32, 33, 34, 35, 36, 37, 38, 39, 40, 41, 42, 43, 44, 45, 46, 47, 48, 49, 50, 51, 52, 53, 63, 64, 65, 66, 67, 68, 69, 70, 71, 72, 73, 74, 75, 76, 77, 78, 79, 80, 81, 82, 83, 84, 85, 86, 87, 88, 89, 90, 91, 92] (by decide +kernel) (by decide +kernel)
set_option maxRecDepth 20000 in
theorem gX5_tellDrops_X5_route : GoodIn wsX5_tellDrops (wsV RX5 157 RX5 yX5_route wsX5_route) := goodIn_app (goodIn_of _ (by decide +kernel)) ggX5_tellDrops_X5_route
theorem dX5_tellDrops_0 : decode cX5_tellDrops 0 = .ok (.aload_n 1, 1) := by decide +kernel
theorem dX5_tellDrops_1 : decode cX5_tellDrops 1 = .ok (.getfield 145, 3) := by decide +kernel
theorem dX5_tellDrops_4 : decode cX5_tellDrops 4 = .ok (.ifCond .le 38, 3) := by decide +kernel
theorem dX5_tellDrops_7 : decode cX5_tellDrops 7 = .ok (.ldc_w 260, 3) := by decide +kernel
theorem dX5_tellDrops_10 : decode cX5_tellDrops 10 = .ok (.aload_n 1, 1) := by decide +kernel
theorem dX5_tellDrops_11 : decode cX5_tellDrops 11 = .ok (.getfield 251, 3) := by decide +kernel
theorem dX5_tellDrops_14 : decode cX5_tellDrops 14 = .ok (.iconst 1, 1) := by decide +kernel
theorem dX5_tellDrops_15 : decode cX5_tellDrops 15 = .ok (.iadd, 1) := by decide +kernel
theorem dX5_tellDrops_16 : decode cX5_tellDrops 16 = .ok (.imul, 1) := by decide +kernel
theorem dX5_tellDrops_17 : decode cX5_tellDrops 17 = .ok (.aload_n 1, 1) := by decide +kernel
theorem dX5_tellDrops_18 : decode cX5_tellDrops 18 = .ok (.getfield 145, 3) := by decide +kernel
theorem dX5_tellDrops_21 : decode cX5_tellDrops 21 = .ok (.iadd, 1) := by decide +kernel
theorem dX5_tellDrops_22 : decode cX5_tellDrops 22 = .ok (.istore_n 2, 1) := by decide +kernel
theorem dX5_tellDrops_23 : decode cX5_tellDrops 23 = .ok (.aload_n 0, 1) := by decide +kernel
theorem dX5_tellDrops_24 : decode cX5_tellDrops 24 = .ok (.iload_n 2, 1) := by decide +kernel
theorem dX5_tellDrops_25 : decode cX5_tellDrops 25 = .ok (.aload_n 1, 1) := by decide +kernel
theorem dX5_tellDrops_26 : decode cX5_tellDrops 26 = .ok (.getfield 251, 3) := by decide +kernel
theorem dX5_tellDrops_29 : decode cX5_tellDrops 29 = .ok (.iconst 5, 1) := by decide +kernel
theorem dX5_tellDrops_30 : decode cX5_tellDrops 30 = .ok (.iconst 4, 1) := by decide +kernel
theorem dX5_tellDrops_31 : decode cX5_tellDrops 31 = .ok (.bipush 20, 2) := by decide +kernel
theorem dX5_tellDrops_33 : decode cX5_tellDrops 33 = .ok (.invokevirtual 157, 3) := by decide +kernel
theorem dX5_tellDrops_36 : decode cX5_tellDrops 36 = .ok (.pop, 1) := by decide +kernel
theorem dX5_tellDrops_37 : decode cX5_tellDrops 37 = .ok (.aload_n 1, 1) := by decide +kernel
theorem dX5_tellDrops_38 : decode cX5_tellDrops 38 = .ok (.iconst 0, 1) := by decide +kernel
theorem dX5_tellDrops_39 : decode cX5_tellDrops 39 = .ok (.putfield 145, 3) := by decide +kernel
theorem dX5_tellDrops_42 : decode cX5_tellDrops 42 = .ok (.return_, 1) := by decide +kernel
set_option maxRecDepth 20000 in
theorem ggX5_route_X3_fits : GoodIn wsX5_route wsX3_fits := goodIn_r _ [10, 11, 12, 13, 14, 55, 56, 57, 58, 59] (by decide +kernel) (by decide +kernel)
set_option maxRecDepth 20000 in
theorem gX5_route_X3_fits : GoodIn wsX5_route (wsV RX5 264 RX3 yX3_fits wsX3_fits) := goodIn_app (goodIn_of _ (by decide +kernel)) ggX5_route_X3_fits
set_option maxRecDepth 20000 in
theorem ggX5_route_X2_add : GoodIn wsX5_route wsX2_add := goodIn_r _ [19, 20, 21, 22, 23, 24, 25, 26, 27, 18, 28, 29, 30, 31, 32, 33, 34, 35, 36, 60, 61, 62, 63, 64, 65, 66, 67, 68, 69] (by decide +kernel) (by decide +kernel)
set_option maxRecDepth 20000 in
theorem gX5_route_X2_add : GoodIn wsX5_route (wsV RX5 267 RX2 yX2_add wsX2_add) := goodIn_app (goodIn_of _ (by decide +kernel)) ggX5_route_X2_add
set_option maxRecDepth 20000 in
theorem ggX5_route_X0_take : GoodIn wsX5_route wsX0_take := goodIn_r _ [41, 42, 43, 44, 45, 70, 71, 72, 73, 74, 75] (by decide +kernel) (by decide +kernel)
set_option maxRecDepth 20000 in
theorem gX5_route_X0_take : GoodIn wsX5_route (wsV RX5 270 RX0 yX0_take wsX0_take) := goodIn_app (goodIn_of _ (by decide +kernel)) ggX5_route_X0_take
theorem dX5_route_0 : decode cX5_route 0 = .ok (.iconst 0, 1) := by decide +kernel
theorem dX5_route_1 : decode cX5_route 1 = .ok (.istore 6, 2) := by decide +kernel
theorem dX5_route_3 : decode cX5_route 3 = .ok (.iconst 0, 1) := by decide +kernel
theorem dX5_route_4 : decode cX5_route 4 = .ok (.istore 7, 2) := by decide +kernel
theorem dX5_route_6 : decode cX5_route 6 = .ok (.iload 7, 2) := by decide +kernel
theorem dX5_route_8 : decode cX5_route 8 = .ok (.bipush 6, 2) := by decide +kernel
theorem dX5_route_10 : decode cX5_route 10 = .ok (.if_icmp .ge 112, 3) := by decide +kernel
theorem dX5_route_13 : decode cX5_route 13 = .ok (.aload_n 0, 1) := by decide +kernel
theorem dX5_route_14 : decode cX5_route 14 = .ok (.getfield 17, 3) := by decide +kernel
theorem dX5_route_17 : decode cX5_route 17 = .ok (.iload 7, 2) := by decide +kernel
theorem dX5_route_19 : decode cX5_route 19 = .ok (.aaload, 1) := by decide +kernel
theorem dX5_route_20 : decode cX5_route 20 = .ok (.getfield 261, 3) := by decide +kernel
theorem dX5_route_23 : decode cX5_route 23 = .ok (.istore 8, 2) := by decide +kernel
theorem dX5_route_25 : decode cX5_route 25 = .ok (.iload 6, 2) := by decide +kernel
theorem dX5_route_27 : decode cX5_route 27 = .ok (.iload 8, 2) := by decide +kernel
theorem dX5_route_29 : decode cX5_route 29 = .ok (.ishr, 1) := by decide +kernel
theorem dX5_route_30 : decode cX5_route 30 = .ok (.iconst 1, 1) := by decide +kernel
theorem dX5_route_31 : decode cX5_route 31 = .ok (.iand, 1) := by decide +kernel
theorem dX5_route_32 : decode cX5_route 32 = .ok (.iconst 1, 1) := by decide +kernel
theorem dX5_route_33 : decode cX5_route 33 = .ok (.if_icmp .ne 7, 3) := by decide +kernel
theorem dX5_route_36 : decode cX5_route 36 = .ok (.iconst 1, 1) := by decide +kernel
theorem dX5_route_37 : decode cX5_route 37 = .ok (.goto 4, 3) := by decide +kernel
theorem dX5_route_40 : decode cX5_route 40 = .ok (.iconst 0, 1) := by decide +kernel
theorem dX5_route_41 : decode cX5_route 41 = .ok (.istore 9, 2) := by decide +kernel
theorem dX5_route_43 : decode cX5_route 43 = .ok (.iload 9, 2) := by decide +kernel
theorem dX5_route_45 : decode cX5_route 45 = .ok (.ifCond .ne 71, 3) := by decide +kernel
theorem dX5_route_48 : decode cX5_route 48 = .ok (.aload_n 0, 1) := by decide +kernel
theorem dX5_route_49 : decode cX5_route 49 = .ok (.getfield 17, 3) := by decide +kernel
theorem dX5_route_52 : decode cX5_route 52 = .ok (.iload 7, 2) := by decide +kernel
theorem dX5_route_54 : decode cX5_route 54 = .ok (.aaload, 1) := by decide +kernel
theorem dX5_route_55 : decode cX5_route 55 = .ok (.iload_n 2, 1) := by decide +kernel
theorem dX5_route_56 : decode cX5_route 56 = .ok (.iload_n 3, 1) := by decide +kernel
theorem dX5_route_57 : decode cX5_route 57 = .ok (.iload 4, 2) := by decide +kernel
theorem dX5_route_59 : decode cX5_route 59 = .ok (.invokevirtual 264, 3) := by decide +kernel
theorem dX5_route_62 : decode cX5_route 62 = .ok (.ifCond .ne 6, 3) := by decide +kernel
theorem dX5_route_65 : decode cX5_route 65 = .ok (.goto 51, 3) := by decide +kernel
theorem dX5_route_68 : decode cX5_route 68 = .ok (.iload 6, 2) := by decide +kernel
theorem dX5_route_70 : decode cX5_route 70 = .ok (.iconst 1, 1) := by decide +kernel
theorem dX5_route_71 : decode cX5_route 71 = .ok (.iload 8, 2) := by decide +kernel
theorem dX5_route_73 : decode cX5_route 73 = .ok (.ishl, 1) := by decide +kernel
theorem dX5_route_74 : decode cX5_route 74 = .ok (.ior, 1) := by decide +kernel
theorem dX5_route_75 : decode cX5_route 75 = .ok (.istore 6, 2) := by decide +kernel
theorem dX5_route_77 : decode cX5_route 77 = .ok (.iload 8, 2) := by decide +kernel
theorem dX5_route_79 : decode cX5_route 79 = .ok (.ifCond .lt 29, 3) := by decide +kernel
theorem dX5_route_82 : decode cX5_route 82 = .ok (.iload 8, 2) := by decide +kernel
theorem dX5_route_84 : decode cX5_route 84 = .ok (.iconst 4, 1) := by decide +kernel
theorem dX5_route_85 : decode cX5_route 85 = .ok (.if_icmp .ge 23, 3) := by decide +kernel
theorem dX5_route_88 : decode cX5_route 88 = .ok (.aload_n 0, 1) := by decide +kernel
theorem dX5_route_89 : decode cX5_route 89 = .ok (.getfield 23, 3) := by decide +kernel
theorem dX5_route_92 : decode cX5_route 92 = .ok (.iload 8, 2) := by decide +kernel
theorem dX5_route_94 : decode cX5_route 94 = .ok (.aaload, 1) := by decide +kernel
theorem dX5_route_95 : decode cX5_route 95 = .ok (.iload_n 1, 1) := by decide +kernel
theorem dX5_route_96 : decode cX5_route 96 = .ok (.iload 5, 2) := by decide +kernel
theorem dX5_route_98 : decode cX5_route 98 = .ok (.aload_n 0, 1) := by decide +kernel
theorem dX5_route_99 : decode cX5_route 99 = .ok (.getfield 41, 3) := by decide +kernel
theorem dX5_route_102 : decode cX5_route 102 = .ok (.invokevirtual 267, 3) := by decide +kernel
theorem dX5_route_105 : decode cX5_route 105 = .ok (.goto 11, 3) := by decide +kernel
theorem dX5_route_108 : decode cX5_route 108 = .ok (.aload_n 0, 1) := by decide +kernel
theorem dX5_route_109 : decode cX5_route 109 = .ok (.getfield 30, 3) := by decide +kernel
theorem dX5_route_112 : decode cX5_route 112 = .ok (.iload_n 1, 1) := by decide +kernel
theorem dX5_route_113 : decode cX5_route 113 = .ok (.invokevirtual 270, 3) := by decide +kernel
theorem dX5_route_116 : decode cX5_route 116 = .ok (.iinc 7 1, 3) := by decide +kernel
theorem dX5_route_119 : decode cX5_route 119 = .ok (.goto (-113), 3) := by decide +kernel
theorem dX5_route_122 : decode cX5_route 122 = .ok (.iload 6, 2) := by decide +kernel
theorem dX5_route_124 : decode cX5_route 124 = .ok (.ireturn, 1) := by decide +kernel
set_option maxRecDepth 20000 in
theorem ggX5_passOneSecond_X5_giveTokens : GoodIn wsX5_passOneSecond wsX5_giveTokens := goodIn_r _ [7, 8, 9, 10, 11, 12, 13, 14, 15, 92, 93, 94, 95, 96, 97, 98, 99, 100, 101, 102, 103, 104, 105, 106, 107, 108, 109] (by decide +kernel) (by decide +kernel)
set_option maxRecDepth 20000 in
theorem gX5_passOneSecond_X5_giveTokens : GoodIn wsX5_passOneSecond (wsV RX5 273 RX5 yX5_giveTokens wsX5_giveTokens) := goodIn_app (goodIn_of _ (by decide +kernel)) ggX5_passOneSecond_X5_giveTokens
set_option maxRecDepth 20000 in
theorem ggX5_passOneSecond_X5_tellDueRepeats : GoodIn wsX5_passOneSecond wsX5_tellDueRepeats := goodIn_r _ [19, 20, 21, 22, 6, 23, 8, 24, 1, 25, 26, 27, 28, 29, 30, 31, 32, 33, 34, 35, 36, 37, 38, 39, 40, 41, 42, 43, 44, 45, 46, 47, 48, 49, 50, 51, 52, 53, 54, 55, 56, 57, 58, 59, 60, 61, 62, 63, 64, 65, 66, 67, 68, 69, 70, 71, 72, 73, 74, 75, 76, 77, 78, 79, 80, 81, 92, 93, 94, 95, 96, 97, 98, 99, 100, 101, 102, 103, 104, 105, 106, 107, 108, 109, 110, 111, 112, 113, 114, 115, 116, 117, 118, 119, 120, 121, 122, 123, 124, 125, 126, 127, 128, 129, 130] (by decide +kernel) (by decide +kernel)
set_option maxRecDepth 20000 in
theorem gX5_passOneSecond_X5_tellDueRepeats : GoodIn wsX5_passOneSecond (wsV RX5 276 RX5 yX5_tellDueRepeats wsX5_tellDueRepeats) := goodIn_app (goodIn_of _ (by decide +kernel)) ggX5_passOneSecond_X5_tellDueRepeats
set_option maxRecDepth 20000 in
theorem ggX5_passOneSecond_X5_rotateAgedFiles : GoodIn wsX5_passOneSecond wsX5_rotateAgedFiles := goodIn_r _ [85, 40, 1, 86, 87, 88, 54, 89, 90, 58, 61, 62, 63, 64, 59, 65, 91, 67, 68, 69, 56, 70, 71, 72, 92, 93, 94, 95, 96, 97, 98, 99, 100, 115, 116, 117, 118, 119, 120, 121, 122, 123, 124] (by decide +kernel) (by decide +kernel)
set_option maxRecDepth 20000 in
theorem gX5_passOneSecond_X5_rotateAgedFiles : GoodIn wsX5_passOneSecond (wsV RX5 279 RX5 yX5_rotateAgedFiles wsX5_rotateAgedFiles) := goodIn_app (goodIn_of _ (by decide +kernel)) ggX5_passOneSecond_X5_rotateAgedFiles
theorem dX5_passOneSecond_0 : decode cX5_passOneSecond 0 = .ok (.aload_n 0, 1) := by decide +kernel
theorem dX5_passOneSecond_1 : decode cX5_passOneSecond 1 = .ok (.dup, 1) := by decide +kernel
theorem dX5_passOneSecond_2 : decode cX5_passOneSecond 2 = .ok (.getfield 41, 3) := by decide +kernel
theorem dX5_passOneSecond_5 : decode cX5_passOneSecond 5 = .ok (.iconst 1, 1) := by decide +kernel
theorem dX5_passOneSecond_6 : decode cX5_passOneSecond 6 = .ok (.iadd, 1) := by decide +kernel
theorem dX5_passOneSecond_7 : decode cX5_passOneSecond 7 = .ok (.putfield 41, 3) := by decide +kernel
theorem dX5_passOneSecond_10 : decode cX5_passOneSecond 10 = .ok (.aload_n 0, 1) := by decide +kernel
theorem dX5_passOneSecond_11 : decode cX5_passOneSecond 11 = .ok (.getfield 48, 3) := by decide +kernel
theorem dX5_passOneSecond_14 : decode cX5_passOneSecond 14 = .ok (.ifCond .le 19, 3) := by decide +kernel
theorem dX5_passOneSecond_17 : decode cX5_passOneSecond 17 = .ok (.aload_n 0, 1) := by decide +kernel
theorem dX5_passOneSecond_18 : decode cX5_passOneSecond 18 = .ok (.getfield 41, 3) := by decide +kernel
theorem dX5_passOneSecond_21 : decode cX5_passOneSecond 21 = .ok (.aload_n 0, 1) := by decide +kernel
theorem dX5_passOneSecond_22 : decode cX5_passOneSecond 22 = .ok (.getfield 48, 3) := by decide +kernel
theorem dX5_passOneSecond_25 : decode cX5_passOneSecond 25 = .ok (.irem, 1) := by decide +kernel
theorem dX5_passOneSecond_26 : decode cX5_passOneSecond 26 = .ok (.ifCond .ne 7, 3) := by decide +kernel
theorem dX5_passOneSecond_29 : decode cX5_passOneSecond 29 = .ok (.aload_n 0, 1) := by decide +kernel
theorem dX5_passOneSecond_30 : decode cX5_passOneSecond 30 = .ok (.invokevirtual 273, 3) := by decide +kernel
theorem dX5_passOneSecond_33 : decode cX5_passOneSecond 33 = .ok (.aload_n 0, 1) := by decide +kernel
theorem dX5_passOneSecond_34 : decode cX5_passOneSecond 34 = .ok (.invokevirtual 276, 3) := by decide +kernel
theorem dX5_passOneSecond_37 : decode cX5_passOneSecond 37 = .ok (.aload_n 0, 1) := by decide +kernel
theorem dX5_passOneSecond_38 : decode cX5_passOneSecond 38 = .ok (.invokevirtual 279, 3) := by decide +kernel
theorem dX5_passOneSecond_41 : decode cX5_passOneSecond 41 = .ok (.return_, 1) := by decide +kernel
set_option maxRecDepth 20000 in
theorem ggX5_giveTokens_X4_gainToken : GoodIn wsX5_giveTokens wsX4_gainToken := goodIn_r _ [7, 8, 18, 19, 20, 21, 22, 23, 24, 25, 26] (by decide +kernel) (by decide +kernel)
set_option maxRecDepth 20000 in
theorem gX5_giveTokens_X4_gainToken : GoodIn wsX5_giveTokens (wsV RX5 282 RX4 yX4_gainToken wsX4_gainToken) := goodIn_app (goodIn_of _ (by decide +kernel)) ggX5_giveTokens_X4_gainToken
theorem dX5_giveTokens_0 : decode cX5_giveTokens 0 = .ok (.iconst 0, 1) := by decide +kernel
theorem dX5_giveTokens_1 : decode cX5_giveTokens 1 = .ok (.istore_n 1, 1) := by decide +kernel
theorem dX5_giveTokens_2 : decode cX5_giveTokens 2 = .ok (.iload_n 1, 1) := by decide +kernel
theorem dX5_giveTokens_3 : decode cX5_giveTokens 3 = .ok (.bipush 6, 2) := by decide +kernel
theorem dX5_giveTokens_5 : decode cX5_giveTokens 5 = .ok (.if_icmp .ge 22, 3) := by decide +kernel
theorem dX5_giveTokens_8 : decode cX5_giveTokens 8 = .ok (.aload_n 0, 1) := by decide +kernel
theorem dX5_giveTokens_9 : decode cX5_giveTokens 9 = .ok (.getfield 11, 3) := by decide +kernel
theorem dX5_giveTokens_12 : decode cX5_giveTokens 12 = .ok (.iload_n 1, 1) := by decide +kernel
theorem dX5_giveTokens_13 : decode cX5_giveTokens 13 = .ok (.aaload, 1) := by decide +kernel
theorem dX5_giveTokens_14 : decode cX5_giveTokens 14 = .ok (.aload_n 0, 1) := by decide +kernel
theorem dX5_giveTokens_15 : decode cX5_giveTokens 15 = .ok (.getfield 45, 3) := by decide +kernel
theorem dX5_giveTokens_18 : decode cX5_giveTokens 18 = .ok (.invokevirtual 282, 3) := by decide +kernel
theorem dX5_giveTokens_21 : decode cX5_giveTokens 21 = .ok (.iinc 1 1, 3) := by decide +kernel
theorem dX5_giveTokens_24 : decode cX5_giveTokens 24 = .ok (.goto (-22), 3) := by decide +kernel
theorem dX5_giveTokens_27 : decode cX5_giveTokens 27 = .ok (.return_, 1) := by decide +kernel
set_option maxRecDepth 20000 in
theorem ggX5_tellDueRepeats_X5_firstWithDueRepeats : GoodIn wsX5_tellDueRepeats wsX5_firstWithDueRepeats := goodIn_r _ [5, 6, 7, 8, 9, 10, 66, 67, 68, 69, 70, 71, 72, 73, 74, 75, 76, 77, 78, 79, 80, 81, 82, 83] (by decide +kernel) (by decide +kernel)
set_option maxRecDepth 20000 in
theorem gX5_tellDueRepeats_X5_firstWithDueRepeats : GoodIn wsX5_tellDueRepeats (wsV RX5 285 RX5 yX5_firstWithDueRepeats wsX5_firstWithDueRepeats) := goodIn_app (goodIn_of _ (by decide +kernel)) ggX5_tellDueRepeats_X5_firstWithDueRepeats
set_option maxRecDepth 20000 in
theorem ggX5_tellDueRepeats_X5_tellRepeats : GoodIn wsX5_tellDueRepeats wsX5_tellRepeats := goodIn_r _ [14, 7, 15, 16, 17, 18, 19, 20, 4, 21, 22, 23, 24, 8, 25, 26, 27, 28, 29, 30, 31, 32, 33, 34, 35, 36, 37, 38, 39, 40, 41, 42, 43, 44, 45, 46, 47, 48, 49, 50, 51, 52, 53, 54, 55, 56, 57, 58, 59, 60, 61, 62, 63, 64, 65, 75, 76, 77, 78, 79, 80, 81, 82, 83, 66, 67, 68, 69, 70, 71, 72, 73, 74, 84, 85, 86, 87, 88, 89, 90, 91, 92, 93, 94, 95, 96, 97, 98, 99, 100, 101, 102, 103, 104] (by decide +kernel) (by decide +kernel)
set_option maxRecDepth 20000 in
theorem gX5_tellDueRepeats_X5_tellRepeats : GoodIn wsX5_tellDueRepeats (wsV RX5 138 RX5 yX5_tellRepeats wsX5_tellRepeats) := goodIn_app (goodIn_of _ (by decide +kernel)) ggX5_tellDueRepeats_X5_tellRepeats
theorem dX5_tellDueRepeats_0 : decode cX5_tellDueRepeats 0 = .ok (.iconst 0, 1) := by decide +kernel
theorem dX5_tellDueRepeats_1 : decode cX5_tellDueRepeats 1 = .ok (.istore_n 1, 1) := by decide +kernel
theorem dX5_tellDueRepeats_2 : decode cX5_tellDueRepeats 2 = .ok (.iload_n 1, 1) := by decide +kernel
theorem dX5_tellDueRepeats_3 : decode cX5_tellDueRepeats 3 = .ok (.bipush 6, 2) := by decide +kernel
theorem dX5_tellDueRepeats_5 : decode cX5_tellDueRepeats 5 = .ok (.if_icmp .ge 24, 3) := by decide +kernel
theorem dX5_tellDueRepeats_8 : decode cX5_tellDueRepeats 8 = .ok (.aload_n 0, 1) := by decide +kernel
theorem dX5_tellDueRepeats_9 : decode cX5_tellDueRepeats 9 = .ok (.invokevirtual 285, 3) := by decide +kernel
theorem dX5_tellDueRepeats_12 : decode cX5_tellDueRepeats 12 = .ok (.astore_n 2, 1) := by decide +kernel
theorem dX5_tellDueRepeats_13 : decode cX5_tellDueRepeats 13 = .ok (.aload_n 2, 1) := by decide +kernel
theorem dX5_tellDueRepeats_14 : decode cX5_tellDueRepeats 14 = .ok (.ifnonnull 4, 3) := by decide +kernel
theorem dX5_tellDueRepeats_17 : decode cX5_tellDueRepeats 17 = .ok (.return_, 1) := by decide +kernel
theorem dX5_tellDueRepeats_18 : decode cX5_tellDueRepeats 18 = .ok (.aload_n 0, 1) := by decide +kernel
theorem dX5_tellDueRepeats_19 : decode cX5_tellDueRepeats 19 = .ok (.aload_n 2, 1) := by decide +kernel
theorem dX5_tellDueRepeats_20 : decode cX5_tellDueRepeats 20 = .ok (.invokevirtual 138, 3) := by decide +kernel
theorem dX5_tellDueRepeats_23 : decode cX5_tellDueRepeats 23 = .ok (.iinc 1 1, 3) := by decide +kernel
theorem dX5_tellDueRepeats_26 : decode cX5_tellDueRepeats 26 = .ok (.goto (-24), 3) := by decide +kernel
theorem dX5_tellDueRepeats_29 : decode cX5_tellDueRepeats 29 = .ok (.return_, 1) := by decide +kernel
theorem dX5_firstWithDueRepeats_0 : decode cX5_firstWithDueRepeats 0 = .ok (.aconst_null, 1) := by decide +kernel
theorem dX5_firstWithDueRepeats_1 : decode cX5_firstWithDueRepeats 1 = .ok (.astore_n 1, 1) := by decide +kernel
theorem dX5_firstWithDueRepeats_2 : decode cX5_firstWithDueRepeats 2 = .ok (.iconst 0, 1) := by decide +kernel
theorem dX5_firstWithDueRepeats_3 : decode cX5_firstWithDueRepeats 3 = .ok (.istore_n 2, 1) := by decide +kernel
theorem dX5_firstWithDueRepeats_4 : decode cX5_firstWithDueRepeats 4 = .ok (.iload_n 2, 1) := by decide +kernel
theorem dX5_firstWithDueRepeats_5 : decode cX5_firstWithDueRepeats 5 = .ok (.bipush 6, 2) := by decide +kernel
theorem dX5_firstWithDueRepeats_7 : decode cX5_firstWithDueRepeats 7 = .ok (.if_icmp .ge 68, 3) := by decide +kernel
theorem dX5_firstWithDueRepeats_10 : decode cX5_firstWithDueRepeats 10 = .ok (.aload_n 0, 1) := by decide +kernel
theorem dX5_firstWithDueRepeats_11 : decode cX5_firstWithDueRepeats 11 = .ok (.getfield 11, 3) := by decide +kernel
theorem dX5_firstWithDueRepeats_14 : decode cX5_firstWithDueRepeats 14 = .ok (.iload_n 2, 1) := by decide +kernel
theorem dX5_firstWithDueRepeats_15 : decode cX5_firstWithDueRepeats 15 = .ok (.aaload, 1) := by decide +kernel
theorem dX5_firstWithDueRepeats_16 : decode cX5_firstWithDueRepeats 16 = .ok (.astore_n 3, 1) := by decide +kernel
theorem dX5_firstWithDueRepeats_17 : decode cX5_firstWithDueRepeats 17 = .ok (.aload_n 3, 1) := by decide +kernel
theorem dX5_firstWithDueRepeats_18 : decode cX5_firstWithDueRepeats 18 = .ok (.getfield 207, 3) := by decide +kernel
theorem dX5_firstWithDueRepeats_21 : decode cX5_firstWithDueRepeats 21 = .ok (.ifCond .le 23, 3) := by decide +kernel
theorem dX5_firstWithDueRepeats_24 : decode cX5_firstWithDueRepeats 24 = .ok (.aload_n 0, 1) := by decide +kernel
theorem dX5_firstWithDueRepeats_25 : decode cX5_firstWithDueRepeats 25 = .ok (.getfield 41, 3) := by decide +kernel
theorem dX5_firstWithDueRepeats_28 : decode cX5_firstWithDueRepeats 28 = .ok (.aload_n 3, 1) := by decide +kernel
theorem dX5_firstWithDueRepeats_29 : decode cX5_firstWithDueRepeats 29 = .ok (.getfield 289, 3) := by decide +kernel
theorem dX5_firstWithDueRepeats_32 : decode cX5_firstWithDueRepeats 32 = .ok (.isub, 1) := by decide +kernel
theorem dX5_firstWithDueRepeats_33 : decode cX5_firstWithDueRepeats 33 = .ok (.aload_n 0, 1) := by decide +kernel
theorem dX5_firstWithDueRepeats_34 : decode cX5_firstWithDueRepeats 34 = .ok (.getfield 51, 3) := by decide +kernel
theorem dX5_firstWithDueRepeats_37 : decode cX5_firstWithDueRepeats 37 = .ok (.if_icmp .lt 7, 3) := by decide +kernel
theorem dX5_firstWithDueRepeats_40 : decode cX5_firstWithDueRepeats 40 = .ok (.iconst 1, 1) := by decide +kernel
theorem dX5_firstWithDueRepeats_41 : decode cX5_firstWithDueRepeats 41 = .ok (.goto 4, 3) := by decide +kernel
theorem dX5_firstWithDueRepeats_44 : decode cX5_firstWithDueRepeats 44 = .ok (.iconst 0, 1) := by decide +kernel
theorem dX5_firstWithDueRepeats_45 : decode cX5_firstWithDueRepeats 45 = .ok (.istore 4, 2) := by decide +kernel
theorem dX5_firstWithDueRepeats_47 : decode cX5_firstWithDueRepeats 47 = .ok (.iload 4, 2) := by decide +kernel
theorem dX5_firstWithDueRepeats_49 : decode cX5_firstWithDueRepeats 49 = .ok (.ifCond .eq 20, 3) := by decide +kernel
theorem dX5_firstWithDueRepeats_52 : decode cX5_firstWithDueRepeats 52 = .ok (.aload_n 1, 1) := by decide +kernel
theorem dX5_firstWithDueRepeats_53 : decode cX5_firstWithDueRepeats 53 = .ok (.ifnull 14, 3) := by decide +kernel
theorem dX5_firstWithDueRepeats_56 : decode cX5_firstWithDueRepeats 56 = .ok (.aload_n 3, 1) := by decide +kernel
theorem dX5_firstWithDueRepeats_57 : decode cX5_firstWithDueRepeats 57 = .ok (.getfield 289, 3) := by decide +kernel
theorem dX5_firstWithDueRepeats_60 : decode cX5_firstWithDueRepeats 60 = .ok (.aload_n 1, 1) := by decide +kernel
theorem dX5_firstWithDueRepeats_61 : decode cX5_firstWithDueRepeats 61 = .ok (.getfield 289, 3) := by decide +kernel
theorem dX5_firstWithDueRepeats_64 : decode cX5_firstWithDueRepeats 64 = .ok (.if_icmp .ge 5, 3) := by decide +kernel
theorem dX5_firstWithDueRepeats_67 : decode cX5_firstWithDueRepeats 67 = .ok (.aload_n 3, 1) := by decide +kernel
theorem dX5_firstWithDueRepeats_68 : decode cX5_firstWithDueRepeats 68 = .ok (.astore_n 1, 1) := by decide +kernel
theorem dX5_firstWithDueRepeats_69 : decode cX5_firstWithDueRepeats 69 = .ok (.iinc 2 1, 3) := by decide +kernel
theorem dX5_firstWithDueRepeats_72 : decode cX5_firstWithDueRepeats 72 = .ok (.goto (-68), 3) := by decide +kernel
theorem dX5_firstWithDueRepeats_75 : decode cX5_firstWithDueRepeats 75 = .ok (.aload_n 1, 1) := by decide +kernel
theorem dX5_firstWithDueRepeats_76 : decode cX5_firstWithDueRepeats 76 = .ok (.areturn, 1) := by decide +kernel
set_option maxRecDepth 20000 in
theorem ggX5_rotateAgedFiles_X2_isAged : GoodIn wsX5_rotateAgedFiles wsX2_isAged := goodIn_r _ [7, 8, 9, 10, 11, 12, 6, 13, 14, 15, 33, 34, 35, 36, 37, 38, 39, 40, 41, 42] (by decide +kernel) (by decide +kernel)
set_option maxRecDepth 20000 in
theorem gX5_rotateAgedFiles_X2_isAged : GoodIn wsX5_rotateAgedFiles (wsV RX5 292 RX2 yX2_isAged wsX2_isAged) := goodIn_app (goodIn_of _ (by decide +kernel)) ggX5_rotateAgedFiles_X2_isAged
set_option maxRecDepth 20000 in
theorem ggX5_rotateAgedFiles_X2_turnOver : GoodIn wsX5_rotateAgedFiles wsX2_turnOver := goodIn_r _ [19, 15, 14, 20, 21, 22, 23, 33, 34, 35, 36, 37, 38, 39, 40, 41, 42] (by decide +kernel) (by decide +kernel)
set_option maxRecDepth 20000 in
theorem gX5_rotateAgedFiles_X2_turnOver : GoodIn wsX5_rotateAgedFiles (wsV RX5 172 RX2 yX2_turnOver wsX2_turnOver) := goodIn_app (goodIn_of _ (by decide +kernel)) ggX5_rotateAgedFiles_X2_turnOver
theorem dX5_rotateAgedFiles_0 : decode cX5_rotateAgedFiles 0 = .ok (.iconst 0, 1) := by decide +kernel
theorem dX5_rotateAgedFiles_1 : decode cX5_rotateAgedFiles 1 = .ok (.istore_n 1, 1) := by decide +kernel
theorem dX5_rotateAgedFiles_2 : decode cX5_rotateAgedFiles 2 = .ok (.iload_n 1, 1) := by decide +kernel
theorem dX5_rotateAgedFiles_3 : decode cX5_rotateAgedFiles 3 = .ok (.iconst 4, 1) := by decide +kernel
theorem dX5_rotateAgedFiles_4 : decode cX5_rotateAgedFiles 4 = .ok (.if_icmp .ge 34, 3) := by decide +kernel
theorem dX5_rotateAgedFiles_7 : decode cX5_rotateAgedFiles 7 = .ok (.aload_n 0, 1) := by decide +kernel
theorem dX5_rotateAgedFiles_8 : decode cX5_rotateAgedFiles 8 = .ok (.getfield 23, 3) := by decide +kernel
theorem dX5_rotateAgedFiles_11 : decode cX5_rotateAgedFiles 11 = .ok (.iload_n 1, 1) := by decide +kernel
theorem dX5_rotateAgedFiles_12 : decode cX5_rotateAgedFiles 12 = .ok (.aaload, 1) := by decide +kernel
theorem dX5_rotateAgedFiles_13 : decode cX5_rotateAgedFiles 13 = .ok (.aload_n 0, 1) := by decide +kernel
theorem dX5_rotateAgedFiles_14 : decode cX5_rotateAgedFiles 14 = .ok (.getfield 41, 3) := by decide +kernel
theorem dX5_rotateAgedFiles_17 : decode cX5_rotateAgedFiles 17 = .ok (.invokevirtual 292, 3) := by decide +kernel
theorem dX5_rotateAgedFiles_20 : decode cX5_rotateAgedFiles 20 = .ok (.ifCond .eq 12, 3) := by decide +kernel
theorem dX5_rotateAgedFiles_23 : decode cX5_rotateAgedFiles 23 = .ok (.aload_n 0, 1) := by decide +kernel
theorem dX5_rotateAgedFiles_24 : decode cX5_rotateAgedFiles 24 = .ok (.getfield 23, 3) := by decide +kernel
theorem dX5_rotateAgedFiles_27 : decode cX5_rotateAgedFiles 27 = .ok (.iload_n 1, 1) := by decide +kernel
theorem dX5_rotateAgedFiles_28 : decode cX5_rotateAgedFiles 28 = .ok (.aaload, 1) := by decide +kernel
theorem dX5_rotateAgedFiles_29 : decode cX5_rotateAgedFiles 29 = .ok (.invokevirtual 172, 3) := by decide +kernel
theorem dX5_rotateAgedFiles_32 : decode cX5_rotateAgedFiles 32 = .ok (.iinc 1 1, 3) := by decide +kernel
theorem dX5_rotateAgedFiles_35 : decode cX5_rotateAgedFiles 35 = .ok (.goto (-33), 3) := by decide +kernel
theorem dX5_rotateAgedFiles_38 : decode cX5_rotateAgedFiles 38 = .ok (.return_, 1) := by decide +kernel
theorem dX5_rotationsOfAllFiles_0 : decode cX5_rotationsOfAllFiles 0 = .ok (.iconst 0, 1) := by decide +kernel
theorem dX5_rotationsOfAllFiles_1 : decode cX5_rotationsOfAllFiles 1 = .ok (.istore_n 1, 1) := by decide +kernel
theorem dX5_rotationsOfAllFiles_2 : decode cX5_rotationsOfAllFiles 2 = .ok (.iconst 0, 1) := by decide +kernel
theorem dX5_rotationsOfAllFiles_3 : decode cX5_rotationsOfAllFiles 3 = .ok (.istore_n 2, 1) := by decide +kernel
theorem dX5_rotationsOfAllFiles_4 : decode cX5_rotationsOfAllFiles 4 = .ok (.iload_n 2, 1) := by decide +kernel
theorem dX5_rotationsOfAllFiles_5 : decode cX5_rotationsOfAllFiles 5 = .ok (.iconst 4, 1) := by decide +kernel
theorem dX5_rotationsOfAllFiles_6 : decode cX5_rotationsOfAllFiles 6 = .ok (.if_icmp .ge 21, 3) := by decide +kernel
theorem dX5_rotationsOfAllFiles_9 : decode cX5_rotationsOfAllFiles 9 = .ok (.iload_n 1, 1) := by decide +kernel
theorem dX5_rotationsOfAllFiles_10 : decode cX5_rotationsOfAllFiles 10 = .ok (.aload_n 0, 1) := by decide +kernel
theorem dX5_rotationsOfAllFiles_11 : decode cX5_rotationsOfAllFiles 11 = .ok (.getfield 23, 3) := by decide +kernel
theorem dX5_rotationsOfAllFiles_14 : decode cX5_rotationsOfAllFiles 14 = .ok (.iload_n 2, 1) := by decide +kernel
theorem dX5_rotationsOfAllFiles_15 : decode cX5_rotationsOfAllFiles 15 = .ok (.aaload, 1) := by decide +kernel
theorem dX5_rotationsOfAllFiles_16 : decode cX5_rotationsOfAllFiles 16 = .ok (.getfield 295, 3) := by decide +kernel
theorem dX5_rotationsOfAllFiles_19 : decode cX5_rotationsOfAllFiles 19 = .ok (.iadd, 1) := by decide +kernel
theorem dX5_rotationsOfAllFiles_20 : decode cX5_rotationsOfAllFiles 20 = .ok (.istore_n 1, 1) := by decide +kernel
theorem dX5_rotationsOfAllFiles_21 : decode cX5_rotationsOfAllFiles 21 = .ok (.iinc 2 1, 3) := by decide +kernel
theorem dX5_rotationsOfAllFiles_24 : decode cX5_rotationsOfAllFiles 24 = .ok (.goto (-20), 3) := by decide +kernel
theorem dX5_rotationsOfAllFiles_27 : decode cX5_rotationsOfAllFiles 27 = .ok (.iload_n 1, 1) := by decide +kernel
theorem dX5_rotationsOfAllFiles_28 : decode cX5_rotationsOfAllFiles 28 = .ok (.ireturn, 1) := by decide +kernel
end
section
set_option maxHeartbeats 4000000 in
set_option maxRecDepth 100000 in
theorem c_X5_isWithin (l : Launch) (hl9 : l.stackTraces = false) {B0 : Nat} {ad : Nat → Nat} {D : va_G} {T : Nat → ClassId} (hA : XA B0 ad) (p0 : Int32) (p1 : Int32) (p2 : Int32) {h : xH} {K : Int32 → xH → Prop} (hw : w_X5_isWithin p0 p1 p2 h K) : XM l yX5_isWithin wsX5_isWithin ({ frames := 0, cells := 0, slots := 0, locals := 0 } : Room) B0 ad D T h [.int (p0), .int (p1), .int (p2)] xei K 0 0 := by
  unfold XM
  refine Met.ofW (cc := cX5_isWithin) (maxL := 3) (ret := (some .boolean)) (by decide) rfl ?_
  intro p e s m args below meth c s₁ B hml hv
  obtain ⟨rfl, hB0, hP, hK, hN⟩ := hv
  have hx := B.exec
  have hb := B.bytes
  have hr := B.returns
  have hts := atoms_spec (ws := wsX5_isWithin) B.pre
  have hown : s.vm.findClass RX5 = some m.cls := findClass_of_methodNamed B.named
  have hlocks := B.notSynchronized
  have hS : va_S (fun q => B0 ≤ q) s.heap s.heap [] := va_S.rf
  have hl := lv_entry ([.int (p0), .int (p1), .int (p2)]) (n := 3) (Nat.le_of_ble_eq_true rfl)
  rw [lg_entry_eq]
  generalize (lg_sl ([.int (p0), .int (p1), .int (p2)]) ++ List.replicate (3 - (lg_sl ([.int (p0), .int (p1), .int (p2)])).length) Slot.unset).toArray = ls at hl ⊢
  have hl : lv_has ls 3 [(0, .int (p0)), (1, .int (p1)), (2, .int (p2))] := hl
  unfold w_X5_isWithin at hw
  refine lv_iload_n hx hb dX5_isWithin_0 rfl (lv_at hl 0 rfl) ?_
  refine lv_iload_n hx hb dX5_isWithin_1 rfl (lv_at hl 1 rfl) ?_
  refine lv_icmp_lt (tgt := 14) hx hb dX5_isWithin_2 (by decide) (fun c1 => ?_) (fun c1 => ?_)
  · have hw := hw.1 c1
    refine lv_iconst (v := 0) hx hb dX5_isWithin_14 (by decide) ?_
    exact xg_irets hx hb hr rfl hlocks hB0 hP hK hN hS dX5_isWithin_15 (by decide) (by decide) hw
  · have hw := hw.2 c1
    refine lv_iload_n hx hb dX5_isWithin_5 rfl (lv_at hl 0 rfl) ?_
    refine lv_iload_n hx hb dX5_isWithin_6 rfl (lv_at hl 2 rfl) ?_
    refine lv_icmp_gt (tgt := 14) hx hb dX5_isWithin_7 (by decide) (fun c2 => ?_) (fun c2 => ?_)
    · have hw := hw.1 c2
      refine lv_iconst (v := 0) hx hb dX5_isWithin_14 (by decide) ?_
      exact xg_irets hx hb hr rfl hlocks hB0 hP hK hN hS dX5_isWithin_15 (by decide) (by decide) hw
    · have hw := hw.2 c2
      refine lv_iconst (v := 1) hx hb dX5_isWithin_10 (by decide) ?_
      refine lv_goto (tgt := 15) hx hb dX5_isWithin_11 (by decide) ?_
      exact xg_irets hx hb hr rfl hlocks hB0 hP hK hN hS dX5_isWithin_15 (by decide) (by decide) hw
set_option maxHeartbeats 4000000 in
set_option maxRecDepth 100000 in
theorem c_X5_setRate (l : Launch) (hl9 : l.stackTraces = false) {B0 : Nat} {ad : Nat → Nat} {D : va_G} {T : Nat → ClassId} (hA : XA B0 ad) (p0 : Int32) (p1 : Int32) {h : xH} {K : Int32 → xH → Prop} {KX : String → xH → Prop} (hw : w_X5_setRate p0 p1 h K KX) : XT l yX5_setRate wsX5_setRate ({ frames := 6, cells := 1, slots := 6, locals := 100 } : Room) B0 ad D T h [.ref (ad (0)), .int (p0), .int (p1)] xei K KX 1 6 := by
  unfold XT
  refine vx_ofW (cc := cX5_setRate) (maxL := 5) (ret := (some .int)) (by decide) rfl ?_
  intro p e s m args below meth c s₁ B hml ht hv
  obtain ⟨rfl, hB0, hP, hK, hN⟩ := hv
  have hx := B.exec
  have hb := B.bytes
  have hr := B.returns
  have hts := atoms_spec (ws := wsX5_setRate) B.pre
  have hown : s.vm.findClass RX5 = some m.cls := findClass_of_methodNamed B.named
  have hlocks := B.notSynchronized
  have iX5 : ∀ w ∈ u_ws RX5 TX5 9, w ∈ wsX5_setRate := by decide +kernel
  have f_11 := hts (.fieldLink RX5 11 "LogSpooler" "senders" "[LLogSpooler$Sender;") (by decide +kernel)
  have f_45 := hts (.fieldLink RX5 45 "LogSpooler" "burst" "I") (by decide +kernel)
  have f_48 := hts (.fieldLink RX5 48 "LogSpooler" "tokenTime" "I") (by decide +kernel)
  have hS : va_S (fun q => B0 ≤ q) s.heap s.heap [] := va_S.rf
  have hl := lv_entry ([.ref (ad (0)), .int (p0), .int (p1)]) (n := 5) (Nat.le_of_ble_eq_true rfl)
  rw [lg_entry_eq]
  generalize (lg_sl ([.ref (ad (0)), .int (p0), .int (p1)]) ++ List.replicate (5 - (lg_sl ([.ref (ad (0)), .int (p0), .int (p1)])).length) Slot.unset).toArray = ls at hl ⊢
  have hl : lv_has ls 5 [(0, .ref (ad (0))), (1, .int (p0)), (2, .int (p1))] := hl
  have j_48 : ∀ (n : Nat) (v3 : Int32) (v4 : Int32) (h : xH) (H : Heap) (locs : List Loc) (ls : Array Slot), w_X5_setRate_48 p0 p1 K KX n v3 v4 h → XP ad D T h H → va_S (fun q => B0 ≤ q) s.heap H locs → lv_has ls 5 [(0, .ref (ad (0))), (1, .int (p0)), (3, .int (v3)), (4, .int (v4))] → W p l e (headSpec wsX5_setRate ({ frames := 6, cells := 1, slots := 6, locals := 100 } : Room)).room s m ([.ref (ad (0)), .int (p0), .int (p1)] : List Value).toArray below meth c H locs 0 0 (vx_MQ below (XQ B0 ad D T xei K) (XX B0 ad D T KX) ([.ref (ad (0)), .int (p0), .int (p1)] : List Value).toArray s 1 6 (fun q => B0 ≤ q)) (F0 m 48 ls []) := by
    intro n
    induction n with
    | zero => intro v3 v4 h H locs ls hw; exact hw.elim
    | succ n9 ih =>
      intro v3 v4 h H locs ls hw hP hS hl 
      rw [w_X5_setRate_48_s] at hw
      refine lv_iload hx hb dX5_setRate_48 (lv_at hl 3 rfl) ?_
      refine lv_bipush (v := 6) hx hb dX5_setRate_50 (by decide) ?_
      refine lv_icmp_ge (tgt := 72) hx hb dX5_setRate_52 (by decide) (fun c10 => ?_) (fun c10 => ?_)
      · have hw := hw.1 c10
        refine lv_iload_n hx hb dX5_setRate_72 rfl (lv_at hl 2 rfl) ?_
        refine vx_ret ?_
        exact xg_irets hx hb hr rfl hlocks hB0 hP hK hN hS dX5_setRate_73 (by decide) (by decide) hw
      · have hw := hw.2 c10
        refine lv_aload_n hx hb dX5_setRate_55 rfl (lv_at hl 0 rfl) ?_
        refine xg_getr (C := RX5) (TC := TX5) (N := 9) hx hb hts iX5 hown hK hP xs0 rfl 0 (by decide) f_11 (fun _ h9 => h9) rfl dX5_setRate_56 ?_
        refine lv_iload hx hb dX5_setRate_59 (lv_at hl 3 rfl) ?_
        obtain ⟨hi11, hw⟩ := hw
        refine xg_aald (t := 3) (C := RX4) hx hb hK hP xs1 rfl hi11 dX5_setRate_61 (fun hb12 => ?_)
        have hk13 : 10 ≤ (10 + v4.toNatClampNeg) ∧ (10 + v4.toNatClampNeg) < 16 := by omega
        refine lv_iload_n hx hb dX5_setRate_62 rfl (lv_at hl 1 rfl) ?_
        refine xg_callv (va_runV (As := [.int (p0)]) (rest := []) ⟨hx, hb, hml, hown, hts⟩ (c_X4_capTokens l hl9 hA (10 + v4.toNatClampNeg) hk13 p0 hw) (cwV 1 hts gX5_setRate_X4_capTokens rfl rfl rfl (by decide +kernel) ⟨Nat.le_of_ble_eq_true rfl, Nat.le_of_ble_eq_true rfl⟩) (xg_preV hB0 hP hK hN hS (xsS hk13) rfl) rfl rfl hl.1 rfl (lv_room (Nat.le_of_ble_eq_true rfl)) dX5_setRate_63 ⟨Nat.le_of_ble_eq_true rfl, Nat.le_of_ble_eq_true rfl⟩) hS (fun _ h15 H locs hw hP hS => ?_)
        obtain ⟨x16, ex16⟩ : ∃ z : Int32, z = v4 + 1 := ⟨_, rfl⟩
        have hw := hw x16 ex16
        refine lv_iinc (v := x16) (lv' := [(4, .int (x16)), (0, .ref (ad (0))), (1, .int (p0)), (3, .int (v3))]) hx hb dX5_setRate_66 hl (k := 3) rfl (by rw [ex16]; rfl) (by decide) rfl (fun ls hl => ?_)
        refine lv_goto (tgt := 48) hx hb dX5_setRate_69 (by decide) ?_
        exact ih (v3) (x16) _ _ _ _ hw hP hS (lv_sub hl [1, 2, 3, 0] rfl)
  unfold w_X5_setRate at hw
  refine lv_iload_n hx hb dX5_setRate_0 rfl (lv_at hl 1 rfl) ?_
  refine lv_iconst (v := 1) hx hb dX5_setRate_1 (by decide) ?_
  refine lv_bipush (v := 50) hx hb dX5_setRate_2 (by decide) ?_
  refine xg_calli (va_runS (As := [.int (p0), .int (1), .int (50)]) (rest := []) ⟨hx, hb, hml, hown, hts⟩ (c_X5_isWithin l hl9 hA p0 (1 : Int32) (50 : Int32) hw) (va_cwS 3 hts gX5_setRate_X5_isWithin rfl rfl rfl (by decide +kernel) ⟨Nat.le_of_ble_eq_true rfl, Nat.le_of_ble_eq_true rfl⟩) (xg_preS hB0 hP hK hN hS) rfl rfl hl.1 rfl (lv_room (Nat.le_of_ble_eq_true rfl)) dX5_setRate_4 ⟨Nat.le_of_ble_eq_true rfl, Nat.le_of_ble_eq_true rfl⟩) hS (fun r1 h2 H locs hw hP hS => ?_)
  refine lv_if_eq (tgt := 20) hx hb dX5_setRate_7 (by decide) (fun c3 => ?_) (fun c3 => ?_)
  · have hw := hw.1 c3
    exact xg_throw (cls := "java/lang/IllegalArgumentException") (text := "burst or seconds is out of range") (ik := 63) (is := 65) (ic := 67) hx hb hl9 hown (by decide +kernel) (hts (.classLink RX5 63 "java/lang/IllegalArgumentException") (by decide +kernel)) (hts (.initialized "java/lang/IllegalArgumentException") (by decide +kernel)) (fun w hw9 => hts w (by revert w hw9; decide +kernel)) (by decide +kernel) (by decide +kernel) (by decide +kernel) hB0 hP hK hN hS (by rw [hml]; exact hl.1) dX5_setRate_20 dX5_setRate_23 dX5_setRate_24 dX5_setRate_26 dX5_setRate_29 ht (Nat.le_of_ble_eq_true rfl) (Nat.le_of_ble_eq_true rfl) (Nat.le_of_ble_eq_true rfl) (Nat.le_of_ble_eq_true rfl) hlocks (by decide) (by decide) hw
  · have hw := hw.2 c3
    refine lv_iload_n hx hb dX5_setRate_10 rfl (lv_at hl 2 rfl) ?_
    refine lv_iconst (v := 1) hx hb dX5_setRate_11 (by decide) ?_
    refine lv_bipush (v := 60) hx hb dX5_setRate_12 (by decide) ?_
    refine xg_calli (va_runS (As := [.int (p1), .int (1), .int (60)]) (rest := []) ⟨hx, hb, hml, hown, hts⟩ (c_X5_isWithin l hl9 hA p1 (1 : Int32) (60 : Int32) hw) (va_cwS 3 hts gX5_setRate_X5_isWithin rfl rfl rfl (by decide +kernel) ⟨Nat.le_of_ble_eq_true rfl, Nat.le_of_ble_eq_true rfl⟩) (xg_preS hB0 hP hK hN hS) rfl rfl hl.1 rfl (lv_room (Nat.le_of_ble_eq_true rfl)) dX5_setRate_14 ⟨Nat.le_of_ble_eq_true rfl, Nat.le_of_ble_eq_true rfl⟩) hS (fun r4 h5 H locs hw hP hS => ?_)
    refine lv_if_ne (tgt := 30) hx hb dX5_setRate_17 (by decide) (fun c6 => ?_) (fun c6 => ?_)
    · have hw := hw.2 c6
      refine lv_aload_n hx hb dX5_setRate_30 rfl (lv_at hl 0 rfl) ?_
      refine xg_get (C := RX5) (TC := TX5) (N := 9) hx hb hts iX5 hown hK hP xs0 rfl 6 (by decide) f_45 (fun _ h9 => h9) rfl dX5_setRate_31 ?_
      refine lv_topi (fun x7 ex7 => ?_)
      have hw := hw x7 ex7
      refine lv_istore_n (lv' := [(3, .int (x7)), (0, .ref (ad (0))), (1, .int (p0)), (2, .int (p1))]) hx hb dX5_setRate_34 rfl hl (by decide) rfl (fun ls hl => ?_)
      refine lv_aload_n hx hb dX5_setRate_35 rfl (lv_at hl 1 rfl) ?_
      refine lv_iload_n hx hb dX5_setRate_36 rfl (lv_at hl 2 rfl) ?_
      refine xg_put (C := RX5) (TC := TX5) (N := 9) hx hb hts iX5 tyX5 tyX5_ok nmX5 hown hK hP hA hS xs0 rfl 6 (by decide) f_45 (fun _ h9 => h9) rfl rfl (ty := .int) (by decide +kernel) rfl rfl dX5_setRate_37 (fun H locs h8 eh8 hP hS => ?_)
      have hw := hw h8 eh8
      refine lv_aload_n hx hb dX5_setRate_40 rfl (lv_at hl 1 rfl) ?_
      refine lv_iload_n hx hb dX5_setRate_41 rfl (lv_at hl 3 rfl) ?_
      refine xg_put (C := RX5) (TC := TX5) (N := 9) hx hb hts iX5 tyX5 tyX5_ok nmX5 hown hK hP hA hS xs0 rfl 7 (by decide) f_48 (fun _ h9 => h9) rfl rfl (ty := .int) (by decide +kernel) rfl rfl dX5_setRate_42 (fun H locs h9 eh9 hP hS => ?_)
      have hw := hw h9 eh9
      refine lv_iconst (v := 0) hx hb dX5_setRate_45 (by decide) ?_
      refine lv_istore (lv' := [(4, .int (0)), (3, .int (x7)), (0, .ref (ad (0))), (1, .int (p0)), (2, .int (p1))]) hx hb dX5_setRate_46 hl (by decide) rfl (fun ls hl => ?_)
      obtain ⟨n9, hw⟩ := hw
      exact j_48 n9 (x7) (0) _ _ _ _ hw hP hS (lv_sub hl [2, 3, 1, 0] rfl)
    · have hw := hw.1 c6
      exact xg_throw (cls := "java/lang/IllegalArgumentException") (text := "burst or seconds is out of range") (ik := 63) (is := 65) (ic := 67) hx hb hl9 hown (by decide +kernel) (hts (.classLink RX5 63 "java/lang/IllegalArgumentException") (by decide +kernel)) (hts (.initialized "java/lang/IllegalArgumentException") (by decide +kernel)) (fun w hw9 => hts w (by revert w hw9; decide +kernel)) (by decide +kernel) (by decide +kernel) (by decide +kernel) hB0 hP hK hN hS (by rw [hml]; exact hl.1) dX5_setRate_20 dX5_setRate_23 dX5_setRate_24 dX5_setRate_26 dX5_setRate_29 ht (Nat.le_of_ble_eq_true rfl) (Nat.le_of_ble_eq_true rfl) (Nat.le_of_ble_eq_true rfl) (Nat.le_of_ble_eq_true rfl) hlocks (by decide) (by decide) hw
set_option maxHeartbeats 4000000 in
set_option maxRecDepth 100000 in
theorem c_X5_setFold (l : Launch) (hl9 : l.stackTraces = false) {B0 : Nat} {ad : Nat → Nat} {D : va_G} {T : Nat → ClassId} (hA : XA B0 ad) (p0 : Int32) {h : xH} {K : Int32 → xH → Prop} {KX : String → xH → Prop} (hw : w_X5_setFold p0 h K KX) : XT l yX5_setFold wsX5_setFold ({ frames := 6, cells := 1, slots := 6, locals := 100 } : Room) B0 ad D T h [.ref (ad (0)), .int (p0)] xei K KX 1 6 := by
  unfold XT
  refine vx_ofW (cc := cX5_setFold) (maxL := 3) (ret := (some .int)) (by decide) rfl ?_
  intro p e s m args below meth c s₁ B hml ht hv
  obtain ⟨rfl, hB0, hP, hK, hN⟩ := hv
  have hx := B.exec
  have hb := B.bytes
  have hr := B.returns
  have hts := atoms_spec (ws := wsX5_setFold) B.pre
  have hown : s.vm.findClass RX5 = some m.cls := findClass_of_methodNamed B.named
  have hlocks := B.notSynchronized
  have iX5 : ∀ w ∈ u_ws RX5 TX5 9, w ∈ wsX5_setFold := by decide +kernel
  have f_51 := hts (.fieldLink RX5 51 "LogSpooler" "foldTime" "I") (by decide +kernel)
  have hS : va_S (fun q => B0 ≤ q) s.heap s.heap [] := va_S.rf
  have hl := lv_entry ([.ref (ad (0)), .int (p0)]) (n := 3) (Nat.le_of_ble_eq_true rfl)
  rw [lg_entry_eq]
  generalize (lg_sl ([.ref (ad (0)), .int (p0)]) ++ List.replicate (3 - (lg_sl ([.ref (ad (0)), .int (p0)])).length) Slot.unset).toArray = ls at hl ⊢
  have hl : lv_has ls 3 [(0, .ref (ad (0))), (1, .int (p0))] := hl
  unfold w_X5_setFold at hw
  refine lv_iload_n hx hb dX5_setFold_0 rfl (lv_at hl 1 rfl) ?_
  refine lv_iconst (v := 0) hx hb dX5_setFold_1 (by decide) ?_
  refine lv_bipush (v := 100) hx hb dX5_setFold_2 (by decide) ?_
  refine xg_calli (va_runS (As := [.int (p0), .int (0), .int (100)]) (rest := []) ⟨hx, hb, hml, hown, hts⟩ (c_X5_isWithin l hl9 hA p0 (0 : Int32) (100 : Int32) hw) (va_cwS 3 hts gX5_setFold_X5_isWithin rfl rfl rfl (by decide +kernel) ⟨Nat.le_of_ble_eq_true rfl, Nat.le_of_ble_eq_true rfl⟩) (xg_preS hB0 hP hK hN hS) rfl rfl hl.1 rfl (lv_room (Nat.le_of_ble_eq_true rfl)) dX5_setFold_4 ⟨Nat.le_of_ble_eq_true rfl, Nat.le_of_ble_eq_true rfl⟩) hS (fun r1 h2 H locs hw hP hS => ?_)
  refine lv_if_ne (tgt := 20) hx hb dX5_setFold_7 (by decide) (fun c3 => ?_) (fun c3 => ?_)
  · have hw := hw.2 c3
    refine lv_aload_n hx hb dX5_setFold_20 rfl (lv_at hl 0 rfl) ?_
    refine xg_get (C := RX5) (TC := TX5) (N := 9) hx hb hts iX5 hown hK hP xs0 rfl 8 (by decide) f_51 (fun _ h9 => h9) rfl dX5_setFold_21 ?_
    refine lv_topi (fun x4 ex4 => ?_)
    have hw := hw x4 ex4
    refine lv_istore_n (lv' := [(2, .int (x4)), (0, .ref (ad (0))), (1, .int (p0))]) hx hb dX5_setFold_24 rfl hl (by decide) rfl (fun ls hl => ?_)
    refine lv_aload_n hx hb dX5_setFold_25 rfl (lv_at hl 1 rfl) ?_
    refine lv_iload_n hx hb dX5_setFold_26 rfl (lv_at hl 2 rfl) ?_
    refine xg_put (C := RX5) (TC := TX5) (N := 9) hx hb hts iX5 tyX5 tyX5_ok nmX5 hown hK hP hA hS xs0 rfl 8 (by decide) f_51 (fun _ h9 => h9) rfl rfl (ty := .int) (by decide +kernel) rfl rfl dX5_setFold_27 (fun H locs h5 eh5 hP hS => ?_)
    have hw := hw h5 eh5
    refine lv_iload_n hx hb dX5_setFold_30 rfl (lv_at hl 0 rfl) ?_
    refine vx_ret ?_
    exact xg_irets hx hb hr rfl hlocks hB0 hP hK hN hS dX5_setFold_31 (by decide) (by decide) hw
  · have hw := hw.1 c3
    exact xg_throw (cls := "java/lang/IllegalArgumentException") (text := "seconds is out of range") (ik := 63) (is := 74) (ic := 67) hx hb hl9 hown (by decide +kernel) (hts (.classLink RX5 63 "java/lang/IllegalArgumentException") (by decide +kernel)) (hts (.initialized "java/lang/IllegalArgumentException") (by decide +kernel)) (fun w hw9 => hts w (by revert w hw9; decide +kernel)) (by decide +kernel) (by decide +kernel) (by decide +kernel) hB0 hP hK hN hS (by rw [hml]; exact hl.1) dX5_setFold_10 dX5_setFold_13 dX5_setFold_14 dX5_setFold_16 dX5_setFold_19 ht (Nat.le_of_ble_eq_true rfl) (Nat.le_of_ble_eq_true rfl) (Nat.le_of_ble_eq_true rfl) (Nat.le_of_ble_eq_true rfl) hlocks (by decide) (by decide) hw
set_option maxHeartbeats 4000000 in
set_option maxRecDepth 100000 in
theorem c_X5_ruleAt (l : Launch) (hl9 : l.stackTraces = false) {B0 : Nat} {ad : Nat → Nat} {D : va_G} {T : Nat → ClassId} (hA : XA B0 ad) (p0 : Int32) {h : xH} {K : Nat → xH → Prop} {KX : String → xH → Prop} (hw : w_X5_ruleAt p0 h K KX) : XT l yX5_ruleAt wsX5_ruleAt ({ frames := 6, cells := 1, slots := 6, locals := 100 } : Room) B0 ad D T h [.ref (ad (0)), .int (p0)] (xer ad) K KX 1 6 := by
  unfold XT
  refine vx_ofW (cc := cX5_ruleAt) (maxL := 2) (ret := (some (.object "LogSpooler$Rule"))) (by decide) rfl ?_
  intro p e s m args below meth c s₁ B hml ht hv
  obtain ⟨rfl, hB0, hP, hK, hN⟩ := hv
  have hx := B.exec
  have hb := B.bytes
  have hr := B.returns
  have hts := atoms_spec (ws := wsX5_ruleAt) B.pre
  have hown : s.vm.findClass RX5 = some m.cls := findClass_of_methodNamed B.named
  have hlocks := B.notSynchronized
  have iX5 : ∀ w ∈ u_ws RX5 TX5 9, w ∈ wsX5_ruleAt := by decide +kernel
  have f_17 := hts (.fieldLink RX5 17 "LogSpooler" "rules" "[LLogSpooler$Rule;") (by decide +kernel)
  have hS : va_S (fun q => B0 ≤ q) s.heap s.heap [] := va_S.rf
  have hl := lv_entry ([.ref (ad (0)), .int (p0)]) (n := 2) (Nat.le_of_ble_eq_true rfl)
  rw [lg_entry_eq]
  generalize (lg_sl ([.ref (ad (0)), .int (p0)]) ++ List.replicate (2 - (lg_sl ([.ref (ad (0)), .int (p0)])).length) Slot.unset).toArray = ls at hl ⊢
  have hl : lv_has ls 2 [(0, .ref (ad (0))), (1, .int (p0))] := hl
  unfold w_X5_ruleAt at hw
  refine lv_iload_n hx hb dX5_ruleAt_0 rfl (lv_at hl 1 rfl) ?_
  refine lv_if_lt (tgt := 10) hx hb dX5_ruleAt_1 (by decide) (fun c1 => ?_) (fun c1 => ?_)
  · have hw := hw.1 c1
    exact xg_throw (cls := "java/lang/IndexOutOfBoundsException") (text := "no such rule") (ik := 80) (is := 247) (ic := 84) hx hb hl9 hown (by decide +kernel) (hts (.classLink RX5 80 "java/lang/IndexOutOfBoundsException") (by decide +kernel)) (hts (.initialized "java/lang/IndexOutOfBoundsException") (by decide +kernel)) (fun w hw9 => hts w (by revert w hw9; decide +kernel)) (by decide +kernel) (by decide +kernel) (by decide +kernel) hB0 hP hK hN hS (by rw [hml]; exact hl.1) dX5_ruleAt_10 dX5_ruleAt_13 dX5_ruleAt_14 dX5_ruleAt_16 dX5_ruleAt_19 ht (Nat.le_of_ble_eq_true rfl) (Nat.le_of_ble_eq_true rfl) (Nat.le_of_ble_eq_true rfl) (Nat.le_of_ble_eq_true rfl) hlocks (by decide) (by decide) hw
  · have hw := hw.2 c1
    refine lv_iload_n hx hb dX5_ruleAt_4 rfl (lv_at hl 1 rfl) ?_
    refine lv_bipush (v := 6) hx hb dX5_ruleAt_5 (by decide) ?_
    refine lv_icmp_lt (tgt := 20) hx hb dX5_ruleAt_7 (by decide) (fun c2 => ?_) (fun c2 => ?_)
    · have hw := hw.1 c2
      refine lv_aload_n hx hb dX5_ruleAt_20 rfl (lv_at hl 0 rfl) ?_
      refine xg_getr (C := RX5) (TC := TX5) (N := 9) hx hb hts iX5 hown hK hP xs0 rfl 1 (by decide) f_17 (fun _ h9 => h9) rfl dX5_ruleAt_21 ?_
      refine lv_iload_n hx hb dX5_ruleAt_24 rfl (lv_at hl 1 rfl) ?_
      obtain ⟨hi3, hw⟩ := hw
      refine xg_aald (t := 4) (C := RX3) hx hb hK hP xs2 rfl hi3 dX5_ruleAt_25 (fun hb4 => ?_)
      have hk5 : 20 ≤ (20 + p0.toNatClampNeg) ∧ (20 + p0.toNatClampNeg) < 26 := by omega
      refine vx_ret ?_
      exact xg_arets (r := (20 + p0.toNatClampNeg)) hx hb hr (Or.inl ⟨_, rfl⟩) (Or.inr ⟨_, rfl⟩) rfl hlocks hB0 hP hK hN hS dX5_ruleAt_26 (by decide) (by decide) hw
    · have hw := hw.2 c2
      exact xg_throw (cls := "java/lang/IndexOutOfBoundsException") (text := "no such rule") (ik := 80) (is := 247) (ic := 84) hx hb hl9 hown (by decide +kernel) (hts (.classLink RX5 80 "java/lang/IndexOutOfBoundsException") (by decide +kernel)) (hts (.initialized "java/lang/IndexOutOfBoundsException") (by decide +kernel)) (fun w hw9 => hts w (by revert w hw9; decide +kernel)) (by decide +kernel) (by decide +kernel) (by decide +kernel) hB0 hP hK hN hS (by rw [hml]; exact hl.1) dX5_ruleAt_10 dX5_ruleAt_13 dX5_ruleAt_14 dX5_ruleAt_16 dX5_ruleAt_19 ht (Nat.le_of_ble_eq_true rfl) (Nat.le_of_ble_eq_true rfl) (Nat.le_of_ble_eq_true rfl) (Nat.le_of_ble_eq_true rfl) hlocks (by decide) (by decide) hw
set_option maxHeartbeats 4000000 in
set_option maxRecDepth 100000 in
theorem c_X5_rulesThatAreSet (l : Launch) (hl9 : l.stackTraces = false) {B0 : Nat} {ad : Nat → Nat} {D : va_G} {T : Nat → ClassId} (hA : XA B0 ad) {h : xH} {K : Int32 → xH → Prop} (hw : w_X5_rulesThatAreSet h K) : XM l yX5_rulesThatAreSet wsX5_rulesThatAreSet ({ frames := 0, cells := 0, slots := 0, locals := 0 } : Room) B0 ad D T h [.ref (ad (0))] xei K 0 0 := by
  unfold XM
  refine Met.ofW (cc := cX5_rulesThatAreSet) (maxL := 3) (ret := (some .int)) (by decide) rfl ?_
  intro p e s m args below meth c s₁ B hml hv
  obtain ⟨rfl, hB0, hP, hK, hN⟩ := hv
  have hx := B.exec
  have hb := B.bytes
  have hr := B.returns
  have hts := atoms_spec (ws := wsX5_rulesThatAreSet) B.pre
  have hown : s.vm.findClass RX5 = some m.cls := findClass_of_methodNamed B.named
  have hlocks := B.notSynchronized
  have iX3 : ∀ w ∈ u_ws RX3 TX3 5, w ∈ wsX5_rulesThatAreSet := by decide +kernel
  have iX5 : ∀ w ∈ u_ws RX5 TX5 9, w ∈ wsX5_rulesThatAreSet := by decide +kernel
  have f_17 := hts (.fieldLink RX5 17 "LogSpooler" "rules" "[LLogSpooler$Rule;") (by decide +kernel)
  have f_95 := hts (.fieldLink RX5 95 "LogSpooler$Rule" "isSet" "Z") (by decide +kernel)
  have hS : va_S (fun q => B0 ≤ q) s.heap s.heap [] := va_S.rf
  have hl := lv_entry ([.ref (ad (0))]) (n := 3) (Nat.le_of_ble_eq_true rfl)
  rw [lg_entry_eq]
  generalize (lg_sl ([.ref (ad (0))]) ++ List.replicate (3 - (lg_sl ([.ref (ad (0))])).length) Slot.unset).toArray = ls at hl ⊢
  have hl : lv_has ls 3 [(0, .ref (ad (0)))] := hl
  have j_25 : ∀ (R9 : Int32 → Int32 → xH → Prop) (hR9 : ∀ (v1 : Int32) (v2 : Int32) (h : xH) (H : Heap) (locs : List Loc) (ls : Array Slot), R9 v1 v2 h → XP ad D T h H → va_S (fun q => B0 ≤ q) s.heap H locs → lv_has ls 3 [(0, .ref (ad (0))), (1, .int (v1)), (2, .int (v2))] → W p l e (headSpec wsX5_rulesThatAreSet ({ frames := 0, cells := 0, slots := 0, locals := 0 } : Room)).room s m ([.ref (ad (0))] : List Value).toArray below meth c H locs 0 0 (MQ below (XQ B0 ad D T xei K) ([.ref (ad (0))] : List Value).toArray s 0 0 (fun q => B0 ≤ q)) (F0 m 4 ls [])) (v1 : Int32) (v2 : Int32) (h : xH) (H : Heap) (locs : List Loc) (ls : Array Slot), w_X5_rulesThatAreSet_25 K R9 v1 v2 h → XP ad D T h H → va_S (fun q => B0 ≤ q) s.heap H locs → lv_has ls 3 [(0, .ref (ad (0))), (1, .int (v1)), (2, .int (v2))] → W p l e (headSpec wsX5_rulesThatAreSet ({ frames := 0, cells := 0, slots := 0, locals := 0 } : Room)).room s m ([.ref (ad (0))] : List Value).toArray below meth c H locs 0 0 (MQ below (XQ B0 ad D T xei K) ([.ref (ad (0))] : List Value).toArray s 0 0 (fun q => B0 ≤ q)) (F0 m 25 ls []) := by
    intro R9 hR9 v1 v2 h H locs ls hw hP hS hl 
    unfold w_X5_rulesThatAreSet_25 at hw
    obtain ⟨x7, ex7⟩ : ∃ z : Int32, z = v2 + 1 := ⟨_, rfl⟩
    have hw := hw x7 ex7
    refine lv_iinc (v := x7) (lv' := [(2, .int (x7)), (0, .ref (ad (0))), (1, .int (v1))]) hx hb dX5_rulesThatAreSet_25 hl (k := 2) rfl (by rw [ex7]; rfl) (by decide) rfl (fun ls hl => ?_)
    refine lv_goto (tgt := 4) hx hb dX5_rulesThatAreSet_28 (by decide) ?_
    exact hR9 (v1) (x7) _ _ _ _ hw hP hS (lv_sub hl [1, 2, 0] rfl)
  have j_4 : ∀ (n : Nat) (v1 : Int32) (v2 : Int32) (h : xH) (H : Heap) (locs : List Loc) (ls : Array Slot), w_X5_rulesThatAreSet_4 K n v1 v2 h → XP ad D T h H → va_S (fun q => B0 ≤ q) s.heap H locs → lv_has ls 3 [(0, .ref (ad (0))), (1, .int (v1)), (2, .int (v2))] → W p l e (headSpec wsX5_rulesThatAreSet ({ frames := 0, cells := 0, slots := 0, locals := 0 } : Room)).room s m ([.ref (ad (0))] : List Value).toArray below meth c H locs 0 0 (MQ below (XQ B0 ad D T xei K) ([.ref (ad (0))] : List Value).toArray s 0 0 (fun q => B0 ≤ q)) (F0 m 4 ls []) := by
    intro n
    induction n with
    | zero => intro v1 v2 h H locs ls hw; exact hw.elim
    | succ n9 ih =>
      intro v1 v2 h H locs ls hw hP hS hl 
      rw [w_X5_rulesThatAreSet_4_s] at hw
      refine lv_iload_n hx hb dX5_rulesThatAreSet_4 rfl (lv_at hl 2 rfl) ?_
      refine lv_bipush (v := 6) hx hb dX5_rulesThatAreSet_5 (by decide) ?_
      refine lv_icmp_ge (tgt := 31) hx hb dX5_rulesThatAreSet_7 (by decide) (fun c1 => ?_) (fun c1 => ?_)
      · have hw := hw.1 c1
        refine lv_iload_n hx hb dX5_rulesThatAreSet_31 rfl (lv_at hl 1 rfl) ?_
        exact xg_irets hx hb hr rfl hlocks hB0 hP hK hN hS dX5_rulesThatAreSet_32 (by decide) (by decide) hw
      · have hw := hw.2 c1
        refine lv_aload_n hx hb dX5_rulesThatAreSet_10 rfl (lv_at hl 0 rfl) ?_
        refine xg_getr (C := RX5) (TC := TX5) (N := 9) hx hb hts iX5 hown hK hP xs0 rfl 1 (by decide) f_17 (fun _ h9 => h9) rfl dX5_rulesThatAreSet_11 ?_
        refine lv_iload_n hx hb dX5_rulesThatAreSet_14 rfl (lv_at hl 2 rfl) ?_
        obtain ⟨hi2, hw⟩ := hw
        refine xg_aald (t := 4) (C := RX3) hx hb hK hP xs2 rfl hi2 dX5_rulesThatAreSet_15 (fun hb3 => ?_)
        have hk4 : 20 ≤ (20 + v2.toNatClampNeg) ∧ (20 + v2.toNatClampNeg) < 26 := by omega
        refine xg_get (C := RX3) (TC := TX3) (N := 5) hx hb hts iX3 hown hK hP (xsR hk4) rfl 0 (by decide) f_95 (fun _ h9 => h9) rfl dX5_rulesThatAreSet_16 ?_
        refine lv_if_eq (tgt := 25) hx hb dX5_rulesThatAreSet_19 (by decide) (fun c5 => ?_) (fun c5 => ?_)
        · have hw := hw.1 c5
          exact j_25 _ (ih) (v1) (v2) _ _ _ _ hw hP hS (lv_sub hl [0, 1, 2] rfl)
        · have hw := hw.2 c5
          obtain ⟨x6, ex6⟩ : ∃ z : Int32, z = v1 + 1 := ⟨_, rfl⟩
          have hw := hw x6 ex6
          refine lv_iinc (v := x6) (lv' := [(1, .int (x6)), (0, .ref (ad (0))), (2, .int (v2))]) hx hb dX5_rulesThatAreSet_22 hl (k := 1) rfl (by rw [ex6]; rfl) (by decide) rfl (fun ls hl => ?_)
          exact j_25 _ (ih) (x6) (v2) _ _ _ _ hw hP hS (lv_sub hl [1, 0, 2] rfl)
  unfold w_X5_rulesThatAreSet at hw
  refine lv_iconst (v := 0) hx hb dX5_rulesThatAreSet_0 (by decide) ?_
  refine lv_istore_n (lv' := [(1, .int (0)), (0, .ref (ad (0)))]) hx hb dX5_rulesThatAreSet_1 rfl hl (by decide) rfl (fun ls hl => ?_)
  refine lv_iconst (v := 0) hx hb dX5_rulesThatAreSet_2 (by decide) ?_
  refine lv_istore_n (lv' := [(2, .int (0)), (1, .int (0)), (0, .ref (ad (0)))]) hx hb dX5_rulesThatAreSet_3 rfl hl (by decide) rfl (fun ls hl => ?_)
  obtain ⟨n9, hw⟩ := hw
  exact j_4 n9 (0) (0) _ _ _ _ hw hP hS (lv_sub hl [2, 1, 0] rfl)
set_option maxHeartbeats 4000000 in
set_option maxRecDepth 100000 in
theorem c_X5_setRule (l : Launch) (hl9 : l.stackTraces = false) {B0 : Nat} {ad : Nat → Nat} {D : va_G} {T : Nat → ClassId} (hA : XA B0 ad) (p0 : Int32) (p1 : Int32) (p2 : Int32) (p3 : Int32) (p4 : Int32) {h : xH} {K : Int32 → xH → Prop} {KX : String → xH → Prop} (hw : w_X5_setRule p0 p1 p2 p3 p4 h K KX) : XT l yX5_setRule wsX5_setRule ({ frames := 7, cells := 2, slots := 12, locals := 121 } : Room) B0 ad D T h [.ref (ad (0)), .int (p0), .int (p1), .int (p2), .int (p3), .int (p4)] xei K KX 2 12 := by
  unfold XT
  refine vx_ofW (cc := cX5_setRule) (maxL := 7) (ret := (some .int)) (by decide) rfl ?_
  intro p e s m args below meth c s₁ B hml ht hv
  obtain ⟨rfl, hB0, hP, hK, hN⟩ := hv
  have hx := B.exec
  have hb := B.bytes
  have hr := B.returns
  have hts := atoms_spec (ws := wsX5_setRule) B.pre
  have hown : s.vm.findClass RX5 = some m.cls := findClass_of_methodNamed B.named
  have hlocks := B.notSynchronized
  have hS : va_S (fun q => B0 ≤ q) s.heap s.heap [] := va_S.rf
  have hl := lv_entry ([.ref (ad (0)), .int (p0), .int (p1), .int (p2), .int (p3), .int (p4)]) (n := 7) (Nat.le_of_ble_eq_true rfl)
  rw [lg_entry_eq]
  generalize (lg_sl ([.ref (ad (0)), .int (p0), .int (p1), .int (p2), .int (p3), .int (p4)]) ++ List.replicate (7 - (lg_sl ([.ref (ad (0)), .int (p0), .int (p1), .int (p2), .int (p3), .int (p4)])).length) Slot.unset).toArray = ls at hl ⊢
  have hl : lv_has ls 7 [(0, .ref (ad (0))), (1, .int (p0)), (2, .int (p1)), (3, .int (p2)), (4, .int (p3)), (5, .int (p4))] := hl
  unfold w_X5_setRule at hw
  refine lv_aload_n hx hb dX5_setRule_0 rfl (lv_at hl 0 rfl) ?_
  refine lv_iload_n hx hb dX5_setRule_1 rfl (lv_at hl 1 rfl) ?_
  refine xg_callXr (vx_runV (As := [.int (p0)]) (rest := []) ⟨hx, hb, hml, hown, hts⟩ (c_X5_ruleAt l hl9 hA p0 hw) (cwV 1 hts gX5_setRule_X5_ruleAt rfl rfl rfl (by decide +kernel) ⟨Nat.le_of_ble_eq_true rfl, Nat.le_of_ble_eq_true rfl⟩) (xg_preV hB0 hP hK hN hS xs0 rfl) rfl rfl hl.1 rfl (lv_room (Nat.le_of_ble_eq_true rfl)) dX5_setRule_2 ⟨Nat.le_of_ble_eq_true rfl, Nat.le_of_ble_eq_true rfl⟩) hS (fun E8 ce9 q9 h8 H locs hw hP hS hce hcv hcl => ?_) (fun r1 h2 H locs hw hP hS => ?_)
  · exact xg_out ht hlocks hP hS hce hcv hcl (by decide) (by decide) hw
  · obtain ⟨hk3, hw⟩ := hw
    refine lv_astore (lv' := [(6, .ref (ad (r1))), (0, .ref (ad (0))), (1, .int (p0)), (2, .int (p1)), (3, .int (p2)), (4, .int (p3)), (5, .int (p4))]) hx hb dX5_setRule_5 hl (by decide) rfl (fun ls hl => ?_)
    refine lv_iload hx hb dX5_setRule_7 (lv_at hl 5 rfl) ?_
    refine lv_iconst (v := (-1)) hx hb dX5_setRule_9 (by decide) ?_
    refine lv_iconst (v := 5) hx hb dX5_setRule_10 (by decide) ?_
    refine xg_calli (va_runS (As := [.int (p3), .int ((-1)), .int (5)]) (rest := []) ⟨hx, hb, hml, hown, hts⟩ (c_X5_isWithin l hl9 hA p3 ((-1) : Int32) (5 : Int32) hw) (va_cwS 3 hts gX5_setRule_X5_isWithin rfl rfl rfl (by decide +kernel) ⟨Nat.le_of_ble_eq_true rfl, Nat.le_of_ble_eq_true rfl⟩) (xg_preS hB0 hP hK hN hS) rfl rfl hl.1 rfl (lv_room (Nat.le_of_ble_eq_true rfl)) dX5_setRule_11 ⟨Nat.le_of_ble_eq_true rfl, Nat.le_of_ble_eq_true rfl⟩) hS (fun r4 h5 H locs hw hP hS => ?_)
    refine lv_if_ne (tgt := 27) hx hb dX5_setRule_14 (by decide) (fun c6 => ?_) (fun c6 => ?_)
    · have hw := hw.2 c6
      refine lv_iload_n hx hb dX5_setRule_27 rfl (lv_at hl 3 rfl) ?_
      refine lv_iconst (v := 0) hx hb dX5_setRule_28 (by decide) ?_
      refine lv_sipush (v := 255) hx hb dX5_setRule_29 (by decide) ?_
      refine xg_calli (va_runS (As := [.int (p1), .int (0), .int (255)]) (rest := []) ⟨hx, hb, hml, hown, hts⟩ (c_X5_isWithin l hl9 hA p1 (0 : Int32) (255 : Int32) hw) (va_cwS 3 hts gX5_setRule_X5_isWithin rfl rfl rfl (by decide +kernel) ⟨Nat.le_of_ble_eq_true rfl, Nat.le_of_ble_eq_true rfl⟩) (xg_preS hB0 hP hK hN hS) rfl rfl hl.1 rfl (lv_room (Nat.le_of_ble_eq_true rfl)) dX5_setRule_32 ⟨Nat.le_of_ble_eq_true rfl, Nat.le_of_ble_eq_true rfl⟩) hS (fun r7 h8 H locs hw hP hS => ?_)
      refine lv_if_eq (tgt := 58) hx hb dX5_setRule_35 (by decide) (fun c9 => ?_) (fun c9 => ?_)
      · have hw := hw.1 c9
        exact xg_throw (cls := "java/lang/IllegalArgumentException") (text := "facilities, severity or target is out of range") (ik := 63) (is := 85) (ic := 67) hx hb hl9 hown (by decide +kernel) (hts (.classLink RX5 63 "java/lang/IllegalArgumentException") (by decide +kernel)) (hts (.initialized "java/lang/IllegalArgumentException") (by decide +kernel)) (fun w hw9 => hts w (by revert w hw9; decide +kernel)) (by decide +kernel) (by decide +kernel) (by decide +kernel) hB0 hP hK hN hS (by rw [hml]; exact hl.1) dX5_setRule_58 dX5_setRule_61 dX5_setRule_62 dX5_setRule_64 dX5_setRule_67 ht (Nat.le_of_ble_eq_true rfl) (Nat.le_of_ble_eq_true rfl) (Nat.le_of_ble_eq_true rfl) (Nat.le_of_ble_eq_true rfl) hlocks (by decide) (by decide) hw
      · have hw := hw.2 c9
        refine lv_iload_n hx hb dX5_setRule_38 rfl (lv_at hl 4 rfl) ?_
        refine lv_iconst (v := 0) hx hb dX5_setRule_39 (by decide) ?_
        refine lv_bipush (v := 7) hx hb dX5_setRule_40 (by decide) ?_
        refine xg_calli (va_runS (As := [.int (p2), .int (0), .int (7)]) (rest := []) ⟨hx, hb, hml, hown, hts⟩ (c_X5_isWithin l hl9 hA p2 (0 : Int32) (7 : Int32) hw) (va_cwS 3 hts gX5_setRule_X5_isWithin rfl rfl rfl (by decide +kernel) ⟨Nat.le_of_ble_eq_true rfl, Nat.le_of_ble_eq_true rfl⟩) (xg_preS hB0 hP hK hN hS) rfl rfl hl.1 rfl (lv_room (Nat.le_of_ble_eq_true rfl)) dX5_setRule_42 ⟨Nat.le_of_ble_eq_true rfl, Nat.le_of_ble_eq_true rfl⟩) hS (fun r10 h11 H locs hw hP hS => ?_)
        refine lv_if_eq (tgt := 58) hx hb dX5_setRule_45 (by decide) (fun c12 => ?_) (fun c12 => ?_)
        · have hw := hw.1 c12
          exact xg_throw (cls := "java/lang/IllegalArgumentException") (text := "facilities, severity or target is out of range") (ik := 63) (is := 85) (ic := 67) hx hb hl9 hown (by decide +kernel) (hts (.classLink RX5 63 "java/lang/IllegalArgumentException") (by decide +kernel)) (hts (.initialized "java/lang/IllegalArgumentException") (by decide +kernel)) (fun w hw9 => hts w (by revert w hw9; decide +kernel)) (by decide +kernel) (by decide +kernel) (by decide +kernel) hB0 hP hK hN hS (by rw [hml]; exact hl.1) dX5_setRule_58 dX5_setRule_61 dX5_setRule_62 dX5_setRule_64 dX5_setRule_67 ht (Nat.le_of_ble_eq_true rfl) (Nat.le_of_ble_eq_true rfl) (Nat.le_of_ble_eq_true rfl) (Nat.le_of_ble_eq_true rfl) hlocks (by decide) (by decide) hw
        · have hw := hw.2 c12
          refine lv_iload hx hb dX5_setRule_48 (lv_at hl 6 rfl) ?_
          refine lv_iconst (v := 0) hx hb dX5_setRule_50 (by decide) ?_
          refine lv_iconst (v := 4) hx hb dX5_setRule_51 (by decide) ?_
          refine xg_calli (va_runS (As := [.int (p4), .int (0), .int (4)]) (rest := []) ⟨hx, hb, hml, hown, hts⟩ (c_X5_isWithin l hl9 hA p4 (0 : Int32) (4 : Int32) hw) (va_cwS 3 hts gX5_setRule_X5_isWithin rfl rfl rfl (by decide +kernel) ⟨Nat.le_of_ble_eq_true rfl, Nat.le_of_ble_eq_true rfl⟩) (xg_preS hB0 hP hK hN hS) rfl rfl hl.1 rfl (lv_room (Nat.le_of_ble_eq_true rfl)) dX5_setRule_52 ⟨Nat.le_of_ble_eq_true rfl, Nat.le_of_ble_eq_true rfl⟩) hS (fun r13 h14 H locs hw hP hS => ?_)
          refine lv_if_ne (tgt := 68) hx hb dX5_setRule_55 (by decide) (fun c15 => ?_) (fun c15 => ?_)
          · have hw := hw.2 c15
            refine lv_aload hx hb dX5_setRule_68 (lv_at hl 0 rfl) ?_
            refine lv_iload_n hx hb dX5_setRule_70 rfl (lv_at hl 3 rfl) ?_
            refine lv_iload_n hx hb dX5_setRule_71 rfl (lv_at hl 4 rfl) ?_
            refine lv_iload hx hb dX5_setRule_72 (lv_at hl 5 rfl) ?_
            refine lv_iload hx hb dX5_setRule_74 (lv_at hl 6 rfl) ?_
            refine xg_callv (va_runV (As := [.int (p1), .int (p2), .int (p3), .int (p4)]) (rest := []) ⟨hx, hb, hml, hown, hts⟩ (c_X3_put l hl9 hA r1 hk3 p1 p2 p3 p4 hw) (cwV 4 hts gX5_setRule_X3_put rfl rfl rfl (by decide +kernel) ⟨Nat.le_of_ble_eq_true rfl, Nat.le_of_ble_eq_true rfl⟩) (xg_preV hB0 hP hK hN hS (xsR hk3) rfl) rfl rfl hl.1 rfl (lv_room (Nat.le_of_ble_eq_true rfl)) dX5_setRule_76 ⟨Nat.le_of_ble_eq_true rfl, Nat.le_of_ble_eq_true rfl⟩) hS (fun _ h17 H locs hw hP hS => ?_)
            refine lv_aload_n hx hb dX5_setRule_79 rfl (lv_at hl 1 rfl) ?_
            refine xg_calli (va_runV (As := []) (rest := []) ⟨hx, hb, hml, hown, hts⟩ (c_X5_rulesThatAreSet l hl9 hA hw) (cwV 0 hts gX5_setRule_X5_rulesThatAreSet rfl rfl rfl (by decide +kernel) ⟨Nat.le_of_ble_eq_true rfl, Nat.le_of_ble_eq_true rfl⟩) (xg_preV hB0 hP hK hN hS xs0 rfl) rfl rfl hl.1 rfl (lv_room (Nat.le_of_ble_eq_true rfl)) dX5_setRule_80 ⟨Nat.le_of_ble_eq_true rfl, Nat.le_of_ble_eq_true rfl⟩) hS (fun r18 h19 H locs hw hP hS => ?_)
            refine vx_ret ?_
            exact xg_irets hx hb hr rfl hlocks hB0 hP hK hN hS dX5_setRule_83 (by decide) (by decide) hw
          · have hw := hw.1 c15
            exact xg_throw (cls := "java/lang/IllegalArgumentException") (text := "facilities, severity or target is out of range") (ik := 63) (is := 85) (ic := 67) hx hb hl9 hown (by decide +kernel) (hts (.classLink RX5 63 "java/lang/IllegalArgumentException") (by decide +kernel)) (hts (.initialized "java/lang/IllegalArgumentException") (by decide +kernel)) (fun w hw9 => hts w (by revert w hw9; decide +kernel)) (by decide +kernel) (by decide +kernel) (by decide +kernel) hB0 hP hK hN hS (by rw [hml]; exact hl.1) dX5_setRule_58 dX5_setRule_61 dX5_setRule_62 dX5_setRule_64 dX5_setRule_67 ht (Nat.le_of_ble_eq_true rfl) (Nat.le_of_ble_eq_true rfl) (Nat.le_of_ble_eq_true rfl) (Nat.le_of_ble_eq_true rfl) hlocks (by decide) (by decide) hw
    · have hw := hw.1 c6
      exact xg_throw (cls := "java/lang/IndexOutOfBoundsException") (text := "no such sender, nor any") (ik := 80) (is := 82) (ic := 84) hx hb hl9 hown (by decide +kernel) (hts (.classLink RX5 80 "java/lang/IndexOutOfBoundsException") (by decide +kernel)) (hts (.initialized "java/lang/IndexOutOfBoundsException") (by decide +kernel)) (fun w hw9 => hts w (by revert w hw9; decide +kernel)) (by decide +kernel) (by decide +kernel) (by decide +kernel) hB0 hP hK hN hS (by rw [hml]; exact hl.1) dX5_setRule_17 dX5_setRule_20 dX5_setRule_21 dX5_setRule_23 dX5_setRule_26 ht (Nat.le_of_ble_eq_true rfl) (Nat.le_of_ble_eq_true rfl) (Nat.le_of_ble_eq_true rfl) (Nat.le_of_ble_eq_true rfl) hlocks (by decide) (by decide) hw
set_option maxHeartbeats 4000000 in
set_option maxRecDepth 100000 in
theorem c_X5_removeRule (l : Launch) (hl9 : l.stackTraces = false) {B0 : Nat} {ad : Nat → Nat} {D : va_G} {T : Nat → ClassId} (hA : XA B0 ad) (p0 : Int32) {h : xH} {K : Int32 → xH → Prop} {KX : String → xH → Prop} (hw : w_X5_removeRule p0 h K KX) : XT l yX5_removeRule wsX5_removeRule ({ frames := 7, cells := 1, slots := 6, locals := 121 } : Room) B0 ad D T h [.ref (ad (0)), .int (p0)] xei K KX 1 6 := by
  unfold XT
  refine vx_ofW (cc := cX5_removeRule) (maxL := 4) (ret := (some .boolean)) (by decide) rfl ?_
  intro p e s m args below meth c s₁ B hml ht hv
  obtain ⟨rfl, hB0, hP, hK, hN⟩ := hv
  have hx := B.exec
  have hb := B.bytes
  have hr := B.returns
  have hts := atoms_spec (ws := wsX5_removeRule) B.pre
  have hown : s.vm.findClass RX5 = some m.cls := findClass_of_methodNamed B.named
  have hlocks := B.notSynchronized
  have iX3 : ∀ w ∈ u_ws RX3 TX3 5, w ∈ wsX5_removeRule := by decide +kernel
  have f_95 := hts (.fieldLink RX5 95 "LogSpooler$Rule" "isSet" "Z") (by decide +kernel)
  have hS : va_S (fun q => B0 ≤ q) s.heap s.heap [] := va_S.rf
  have hl := lv_entry ([.ref (ad (0)), .int (p0)]) (n := 4) (Nat.le_of_ble_eq_true rfl)
  rw [lg_entry_eq]
  generalize (lg_sl ([.ref (ad (0)), .int (p0)]) ++ List.replicate (4 - (lg_sl ([.ref (ad (0)), .int (p0)])).length) Slot.unset).toArray = ls at hl ⊢
  have hl : lv_has ls 4 [(0, .ref (ad (0))), (1, .int (p0))] := hl
  unfold w_X5_removeRule at hw
  refine lv_aload_n hx hb dX5_removeRule_0 rfl (lv_at hl 0 rfl) ?_
  refine lv_iload_n hx hb dX5_removeRule_1 rfl (lv_at hl 1 rfl) ?_
  refine xg_callXr (vx_runV (As := [.int (p0)]) (rest := []) ⟨hx, hb, hml, hown, hts⟩ (c_X5_ruleAt l hl9 hA p0 hw) (cwV 1 hts gX5_removeRule_X5_ruleAt rfl rfl rfl (by decide +kernel) ⟨Nat.le_of_ble_eq_true rfl, Nat.le_of_ble_eq_true rfl⟩) (xg_preV hB0 hP hK hN hS xs0 rfl) rfl rfl hl.1 rfl (lv_room (Nat.le_of_ble_eq_true rfl)) dX5_removeRule_2 ⟨Nat.le_of_ble_eq_true rfl, Nat.le_of_ble_eq_true rfl⟩) hS (fun E8 ce9 q9 h8 H locs hw hP hS hce hcv hcl => ?_) (fun r1 h2 H locs hw hP hS => ?_)
  · exact xg_out ht hlocks hP hS hce hcv hcl (by decide) (by decide) hw
  · obtain ⟨hk3, hw⟩ := hw
    refine lv_astore_n (lv' := [(2, .ref (ad (r1))), (0, .ref (ad (0))), (1, .int (p0))]) hx hb dX5_removeRule_5 rfl hl (by decide) rfl (fun ls hl => ?_)
    refine lv_aload_n hx hb dX5_removeRule_6 rfl (lv_at hl 0 rfl) ?_
    refine xg_get (C := RX3) (TC := TX3) (N := 5) hx hb hts iX3 hown hK hP (xsR hk3) rfl 0 (by decide) f_95 (fun _ h9 => h9) rfl dX5_removeRule_7 ?_
    refine lv_topi (fun x4 ex4 => ?_)
    have hw := hw x4 ex4
    refine lv_istore_n (lv' := [(3, .int (x4)), (2, .ref (ad (r1))), (0, .ref (ad (0))), (1, .int (p0))]) hx hb dX5_removeRule_10 rfl hl (by decide) rfl (fun ls hl => ?_)
    refine lv_aload_n hx hb dX5_removeRule_11 rfl (lv_at hl 1 rfl) ?_
    refine lv_iconst (v := 0) hx hb dX5_removeRule_12 (by decide) ?_
    refine xg_put (C := RX3) (TC := TX3) (N := 5) hx hb hts iX3 tyX3 tyX3_ok nmX3 hown hK hP hA hS (xsR hk3) rfl 0 (by decide) f_95 (fun _ h9 => h9) rfl rfl (ty := .boolean) (by decide +kernel) rfl rfl dX5_removeRule_13 (fun H locs h5 eh5 hP hS => ?_)
    have hw := hw h5 eh5
    refine lv_iload_n hx hb dX5_removeRule_16 rfl (lv_at hl 0 rfl) ?_
    obtain ⟨hz6, hw⟩ := hw
    refine vx_ret ?_
    exact xg_irets hx hb hr hz6 hlocks hB0 hP hK hN hS dX5_removeRule_17 (by decide) (by decide) hw
set_option maxHeartbeats 4000000 in
set_option maxRecDepth 100000 in
theorem c_X5_fileAt (l : Launch) (hl9 : l.stackTraces = false) {B0 : Nat} {ad : Nat → Nat} {D : va_G} {T : Nat → ClassId} (hA : XA B0 ad) (p0 : Int32) {h : xH} {K : Nat → xH → Prop} {KX : String → xH → Prop} (hw : w_X5_fileAt p0 h K KX) : XT l yX5_fileAt wsX5_fileAt ({ frames := 6, cells := 1, slots := 6, locals := 100 } : Room) B0 ad D T h [.ref (ad (0)), .int (p0)] (xer ad) K KX 1 6 := by
  unfold XT
  refine vx_ofW (cc := cX5_fileAt) (maxL := 2) (ret := (some (.object "LogSpooler$LogFile"))) (by decide) rfl ?_
  intro p e s m args below meth c s₁ B hml ht hv
  obtain ⟨rfl, hB0, hP, hK, hN⟩ := hv
  have hx := B.exec
  have hb := B.bytes
  have hr := B.returns
  have hts := atoms_spec (ws := wsX5_fileAt) B.pre
  have hown : s.vm.findClass RX5 = some m.cls := findClass_of_methodNamed B.named
  have hlocks := B.notSynchronized
  have iX5 : ∀ w ∈ u_ws RX5 TX5 9, w ∈ wsX5_fileAt := by decide +kernel
  have f_23 := hts (.fieldLink RX5 23 "LogSpooler" "files" "[LLogSpooler$LogFile;") (by decide +kernel)
  have hS : va_S (fun q => B0 ≤ q) s.heap s.heap [] := va_S.rf
  have hl := lv_entry ([.ref (ad (0)), .int (p0)]) (n := 2) (Nat.le_of_ble_eq_true rfl)
  rw [lg_entry_eq]
  generalize (lg_sl ([.ref (ad (0)), .int (p0)]) ++ List.replicate (2 - (lg_sl ([.ref (ad (0)), .int (p0)])).length) Slot.unset).toArray = ls at hl ⊢
  have hl : lv_has ls 2 [(0, .ref (ad (0))), (1, .int (p0))] := hl
  unfold w_X5_fileAt at hw
  refine lv_iload_n hx hb dX5_fileAt_0 rfl (lv_at hl 1 rfl) ?_
  refine lv_if_lt (tgt := 9) hx hb dX5_fileAt_1 (by decide) (fun c1 => ?_) (fun c1 => ?_)
  · have hw := hw.1 c1
    exact xg_throw (cls := "java/lang/IndexOutOfBoundsException") (text := "no such file") (ik := 80) (is := 249) (ic := 84) hx hb hl9 hown (by decide +kernel) (hts (.classLink RX5 80 "java/lang/IndexOutOfBoundsException") (by decide +kernel)) (hts (.initialized "java/lang/IndexOutOfBoundsException") (by decide +kernel)) (fun w hw9 => hts w (by revert w hw9; decide +kernel)) (by decide +kernel) (by decide +kernel) (by decide +kernel) hB0 hP hK hN hS (by rw [hml]; exact hl.1) dX5_fileAt_9 dX5_fileAt_12 dX5_fileAt_13 dX5_fileAt_15 dX5_fileAt_18 ht (Nat.le_of_ble_eq_true rfl) (Nat.le_of_ble_eq_true rfl) (Nat.le_of_ble_eq_true rfl) (Nat.le_of_ble_eq_true rfl) hlocks (by decide) (by decide) hw
  · have hw := hw.2 c1
    refine lv_iload_n hx hb dX5_fileAt_4 rfl (lv_at hl 1 rfl) ?_
    refine lv_iconst (v := 4) hx hb dX5_fileAt_5 (by decide) ?_
    refine lv_icmp_lt (tgt := 19) hx hb dX5_fileAt_6 (by decide) (fun c2 => ?_) (fun c2 => ?_)
    · have hw := hw.1 c2
      refine lv_aload_n hx hb dX5_fileAt_19 rfl (lv_at hl 0 rfl) ?_
      refine xg_getr (C := RX5) (TC := TX5) (N := 9) hx hb hts iX5 hown hK hP xs0 rfl 2 (by decide) f_23 (fun _ h9 => h9) rfl dX5_fileAt_20 ?_
      refine lv_iload_n hx hb dX5_fileAt_23 rfl (lv_at hl 1 rfl) ?_
      obtain ⟨hi3, hw⟩ := hw
      refine xg_aald (t := 5) (C := RX2) hx hb hK hP xs3 rfl hi3 dX5_fileAt_24 (fun hb4 => ?_)
      have hk5 : 30 ≤ (30 + p0.toNatClampNeg) ∧ (30 + p0.toNatClampNeg) < 34 := by omega
      refine vx_ret ?_
      exact xg_arets (r := (30 + p0.toNatClampNeg)) hx hb hr (Or.inl ⟨_, rfl⟩) (Or.inr ⟨_, rfl⟩) rfl hlocks hB0 hP hK hN hS dX5_fileAt_25 (by decide) (by decide) hw
    · have hw := hw.2 c2
      exact xg_throw (cls := "java/lang/IndexOutOfBoundsException") (text := "no such file") (ik := 80) (is := 249) (ic := 84) hx hb hl9 hown (by decide +kernel) (hts (.classLink RX5 80 "java/lang/IndexOutOfBoundsException") (by decide +kernel)) (hts (.initialized "java/lang/IndexOutOfBoundsException") (by decide +kernel)) (fun w hw9 => hts w (by revert w hw9; decide +kernel)) (by decide +kernel) (by decide +kernel) (by decide +kernel) hB0 hP hK hN hS (by rw [hml]; exact hl.1) dX5_fileAt_9 dX5_fileAt_12 dX5_fileAt_13 dX5_fileAt_15 dX5_fileAt_18 ht (Nat.le_of_ble_eq_true rfl) (Nat.le_of_ble_eq_true rfl) (Nat.le_of_ble_eq_true rfl) (Nat.le_of_ble_eq_true rfl) hlocks (by decide) (by decide) hw
set_option maxHeartbeats 4000000 in
set_option maxRecDepth 100000 in
theorem c_X5_setFile (l : Launch) (hl9 : l.stackTraces = false) {B0 : Nat} {ad : Nat → Nat} {D : va_G} {T : Nat → ClassId} (hA : XA B0 ad) (p0 : Int32) (p1 : Int32) (p2 : Int32) (p3 : Int32) {h : xH} {K : Int32 → xH → Prop} {KX : String → xH → Prop} (hw : w_X5_setFile p0 p1 p2 p3 h K KX) : XT l yX5_setFile wsX5_setFile ({ frames := 7, cells := 2, slots := 12, locals := 121 } : Room) B0 ad D T h [.ref (ad (0)), .int (p0), .int (p1), .int (p2), .int (p3)] xei K KX 2 12 := by
  unfold XT
  refine vx_ofW (cc := cX5_setFile) (maxL := 6) (ret := (some .int)) (by decide) rfl ?_
  intro p e s m args below meth c s₁ B hml ht hv
  obtain ⟨rfl, hB0, hP, hK, hN⟩ := hv
  have hx := B.exec
  have hb := B.bytes
  have hr := B.returns
  have hts := atoms_spec (ws := wsX5_setFile) B.pre
  have hown : s.vm.findClass RX5 = some m.cls := findClass_of_methodNamed B.named
  have hlocks := B.notSynchronized
  have iX2 : ∀ w ∈ u_ws RX2 TX2 10, w ∈ wsX5_setFile := by decide +kernel
  have f_109 := hts (.fieldLink RX5 109 "LogSpooler$LogFile" "sumOfLengths" "I") (by decide +kernel)
  have hS : va_S (fun q => B0 ≤ q) s.heap s.heap [] := va_S.rf
  have hl := lv_entry ([.ref (ad (0)), .int (p0), .int (p1), .int (p2), .int (p3)]) (n := 6) (Nat.le_of_ble_eq_true rfl)
  rw [lg_entry_eq]
  generalize (lg_sl ([.ref (ad (0)), .int (p0), .int (p1), .int (p2), .int (p3)]) ++ List.replicate (6 - (lg_sl ([.ref (ad (0)), .int (p0), .int (p1), .int (p2), .int (p3)])).length) Slot.unset).toArray = ls at hl ⊢
  have hl : lv_has ls 6 [(0, .ref (ad (0))), (1, .int (p0)), (2, .int (p1)), (3, .int (p2)), (4, .int (p3))] := hl
  unfold w_X5_setFile at hw
  refine lv_aload_n hx hb dX5_setFile_0 rfl (lv_at hl 0 rfl) ?_
  refine lv_iload_n hx hb dX5_setFile_1 rfl (lv_at hl 1 rfl) ?_
  refine xg_callXr (vx_runV (As := [.int (p0)]) (rest := []) ⟨hx, hb, hml, hown, hts⟩ (c_X5_fileAt l hl9 hA p0 hw) (cwV 1 hts gX5_setFile_X5_fileAt rfl rfl rfl (by decide +kernel) ⟨Nat.le_of_ble_eq_true rfl, Nat.le_of_ble_eq_true rfl⟩) (xg_preV hB0 hP hK hN hS xs0 rfl) rfl rfl hl.1 rfl (lv_room (Nat.le_of_ble_eq_true rfl)) dX5_setFile_2 ⟨Nat.le_of_ble_eq_true rfl, Nat.le_of_ble_eq_true rfl⟩) hS (fun E8 ce9 q9 h8 H locs hw hP hS hce hcv hcl => ?_) (fun r1 h2 H locs hw hP hS => ?_)
  · exact xg_out ht hlocks hP hS hce hcv hcl (by decide) (by decide) hw
  · obtain ⟨hk3, hw⟩ := hw
    refine lv_astore (lv' := [(5, .ref (ad (r1))), (0, .ref (ad (0))), (1, .int (p0)), (2, .int (p1)), (3, .int (p2)), (4, .int (p3))]) hx hb dX5_setFile_5 hl (by decide) rfl (fun ls hl => ?_)
    refine lv_iload_n hx hb dX5_setFile_7 rfl (lv_at hl 3 rfl) ?_
    refine lv_sipush (v := 200) hx hb dX5_setFile_8 (by decide) ?_
    refine lv_sipush (v := 5000) hx hb dX5_setFile_11 (by decide) ?_
    refine xg_calli (va_runS (As := [.int (p1), .int (200), .int (5000)]) (rest := []) ⟨hx, hb, hml, hown, hts⟩ (c_X5_isWithin l hl9 hA p1 (200 : Int32) (5000 : Int32) hw) (va_cwS 3 hts gX5_setFile_X5_isWithin rfl rfl rfl (by decide +kernel) ⟨Nat.le_of_ble_eq_true rfl, Nat.le_of_ble_eq_true rfl⟩) (xg_preS hB0 hP hK hN hS) rfl rfl hl.1 rfl (lv_room (Nat.le_of_ble_eq_true rfl)) dX5_setFile_14 ⟨Nat.le_of_ble_eq_true rfl, Nat.le_of_ble_eq_true rfl⟩) hS (fun r4 h5 H locs hw hP hS => ?_)
    refine lv_if_eq (tgt := 41) hx hb dX5_setFile_17 (by decide) (fun c6 => ?_) (fun c6 => ?_)
    · have hw := hw.1 c6
      exact xg_throw (cls := "java/lang/IllegalArgumentException") (text := "size, age or kept is out of range") (ik := 63) (is := 103) (ic := 67) hx hb hl9 hown (by decide +kernel) (hts (.classLink RX5 63 "java/lang/IllegalArgumentException") (by decide +kernel)) (hts (.initialized "java/lang/IllegalArgumentException") (by decide +kernel)) (fun w hw9 => hts w (by revert w hw9; decide +kernel)) (by decide +kernel) (by decide +kernel) (by decide +kernel) hB0 hP hK hN hS (by rw [hml]; exact hl.1) dX5_setFile_41 dX5_setFile_44 dX5_setFile_45 dX5_setFile_47 dX5_setFile_50 ht (Nat.le_of_ble_eq_true rfl) (Nat.le_of_ble_eq_true rfl) (Nat.le_of_ble_eq_true rfl) (Nat.le_of_ble_eq_true rfl) hlocks (by decide) (by decide) hw
    · have hw := hw.2 c6
      refine lv_iload_n hx hb dX5_setFile_20 rfl (lv_at hl 4 rfl) ?_
      refine lv_iconst (v := 0) hx hb dX5_setFile_21 (by decide) ?_
      refine lv_sipush (v := 1000) hx hb dX5_setFile_22 (by decide) ?_
      refine xg_calli (va_runS (As := [.int (p2), .int (0), .int (1000)]) (rest := []) ⟨hx, hb, hml, hown, hts⟩ (c_X5_isWithin l hl9 hA p2 (0 : Int32) (1000 : Int32) hw) (va_cwS 3 hts gX5_setFile_X5_isWithin rfl rfl rfl (by decide +kernel) ⟨Nat.le_of_ble_eq_true rfl, Nat.le_of_ble_eq_true rfl⟩) (xg_preS hB0 hP hK hN hS) rfl rfl hl.1 rfl (lv_room (Nat.le_of_ble_eq_true rfl)) dX5_setFile_25 ⟨Nat.le_of_ble_eq_true rfl, Nat.le_of_ble_eq_true rfl⟩) hS (fun r7 h8 H locs hw hP hS => ?_)
      refine lv_if_eq (tgt := 41) hx hb dX5_setFile_28 (by decide) (fun c9 => ?_) (fun c9 => ?_)
      · have hw := hw.1 c9
        exact xg_throw (cls := "java/lang/IllegalArgumentException") (text := "size, age or kept is out of range") (ik := 63) (is := 103) (ic := 67) hx hb hl9 hown (by decide +kernel) (hts (.classLink RX5 63 "java/lang/IllegalArgumentException") (by decide +kernel)) (hts (.initialized "java/lang/IllegalArgumentException") (by decide +kernel)) (fun w hw9 => hts w (by revert w hw9; decide +kernel)) (by decide +kernel) (by decide +kernel) (by decide +kernel) hB0 hP hK hN hS (by rw [hml]; exact hl.1) dX5_setFile_41 dX5_setFile_44 dX5_setFile_45 dX5_setFile_47 dX5_setFile_50 ht (Nat.le_of_ble_eq_true rfl) (Nat.le_of_ble_eq_true rfl) (Nat.le_of_ble_eq_true rfl) (Nat.le_of_ble_eq_true rfl) hlocks (by decide) (by decide) hw
      · have hw := hw.2 c9
        refine lv_iload hx hb dX5_setFile_31 (lv_at hl 5 rfl) ?_
        refine lv_iconst (v := 0) hx hb dX5_setFile_33 (by decide) ?_
        refine lv_iconst (v := 5) hx hb dX5_setFile_34 (by decide) ?_
        refine xg_calli (va_runS (As := [.int (p3), .int (0), .int (5)]) (rest := []) ⟨hx, hb, hml, hown, hts⟩ (c_X5_isWithin l hl9 hA p3 (0 : Int32) (5 : Int32) hw) (va_cwS 3 hts gX5_setFile_X5_isWithin rfl rfl rfl (by decide +kernel) ⟨Nat.le_of_ble_eq_true rfl, Nat.le_of_ble_eq_true rfl⟩) (xg_preS hB0 hP hK hN hS) rfl rfl hl.1 rfl (lv_room (Nat.le_of_ble_eq_true rfl)) dX5_setFile_35 ⟨Nat.le_of_ble_eq_true rfl, Nat.le_of_ble_eq_true rfl⟩) hS (fun r10 h11 H locs hw hP hS => ?_)
        refine lv_if_ne (tgt := 51) hx hb dX5_setFile_38 (by decide) (fun c12 => ?_) (fun c12 => ?_)
        · have hw := hw.2 c12
          refine lv_aload hx hb dX5_setFile_51 (lv_at hl 0 rfl) ?_
          refine lv_iload_n hx hb dX5_setFile_53 rfl (lv_at hl 3 rfl) ?_
          refine lv_iload_n hx hb dX5_setFile_54 rfl (lv_at hl 4 rfl) ?_
          refine lv_iload hx hb dX5_setFile_55 (lv_at hl 5 rfl) ?_
          refine xg_callv (va_runV (As := [.int (p1), .int (p2), .int (p3)]) (rest := []) ⟨hx, hb, hml, hown, hts⟩ (c_X2_limit l hl9 hA r1 hk3 p1 p2 p3 hw) (cwV 3 hts gX5_setFile_X2_limit rfl rfl rfl (by decide +kernel) ⟨Nat.le_of_ble_eq_true rfl, Nat.le_of_ble_eq_true rfl⟩) (xg_preV hB0 hP hK hN hS (xsF hk3) rfl) rfl rfl hl.1 rfl (lv_room (Nat.le_of_ble_eq_true rfl)) dX5_setFile_57 ⟨Nat.le_of_ble_eq_true rfl, Nat.le_of_ble_eq_true rfl⟩) hS (fun _ h14 H locs hw hP hS => ?_)
          refine lv_aload hx hb dX5_setFile_60 (lv_at hl 0 rfl) ?_
          refine xg_get (C := RX2) (TC := TX2) (N := 10) hx hb hts iX2 hown hK hP (xsF hk3) rfl 7 (by decide) f_109 (fun _ h9 => h9) rfl dX5_setFile_62 ?_
          refine vx_ret ?_
          exact xg_irets hx hb hr rfl hlocks hB0 hP hK hN hS dX5_setFile_65 (by decide) (by decide) hw
        · have hw := hw.1 c12
          exact xg_throw (cls := "java/lang/IllegalArgumentException") (text := "size, age or kept is out of range") (ik := 63) (is := 103) (ic := 67) hx hb hl9 hown (by decide +kernel) (hts (.classLink RX5 63 "java/lang/IllegalArgumentException") (by decide +kernel)) (hts (.initialized "java/lang/IllegalArgumentException") (by decide +kernel)) (fun w hw9 => hts w (by revert w hw9; decide +kernel)) (by decide +kernel) (by decide +kernel) (by decide +kernel) hB0 hP hK hN hS (by rw [hml]; exact hl.1) dX5_setFile_41 dX5_setFile_44 dX5_setFile_45 dX5_setFile_47 dX5_setFile_50 ht (Nat.le_of_ble_eq_true rfl) (Nat.le_of_ble_eq_true rfl) (Nat.le_of_ble_eq_true rfl) (Nat.le_of_ble_eq_true rfl) hlocks (by decide) (by decide) hw
set_option maxHeartbeats 4000000 in
set_option maxRecDepth 100000 in
theorem c_X5_senderAt (l : Launch) (hl9 : l.stackTraces = false) {B0 : Nat} {ad : Nat → Nat} {D : va_G} {T : Nat → ClassId} (hA : XA B0 ad) (p0 : Int32) {h : xH} {K : Nat → xH → Prop} {KX : String → xH → Prop} (hw : w_X5_senderAt p0 h K KX) : XT l yX5_senderAt wsX5_senderAt ({ frames := 6, cells := 1, slots := 6, locals := 100 } : Room) B0 ad D T h [.ref (ad (0)), .int (p0)] (xer ad) K KX 1 6 := by
  unfold XT
  refine vx_ofW (cc := cX5_senderAt) (maxL := 2) (ret := (some (.object "LogSpooler$Sender"))) (by decide) rfl ?_
  intro p e s m args below meth c s₁ B hml ht hv
  obtain ⟨rfl, hB0, hP, hK, hN⟩ := hv
  have hx := B.exec
  have hb := B.bytes
  have hr := B.returns
  have hts := atoms_spec (ws := wsX5_senderAt) B.pre
  have hown : s.vm.findClass RX5 = some m.cls := findClass_of_methodNamed B.named
  have hlocks := B.notSynchronized
  have iX5 : ∀ w ∈ u_ws RX5 TX5 9, w ∈ wsX5_senderAt := by decide +kernel
  have f_11 := hts (.fieldLink RX5 11 "LogSpooler" "senders" "[LLogSpooler$Sender;") (by decide +kernel)
  have hS : va_S (fun q => B0 ≤ q) s.heap s.heap [] := va_S.rf
  have hl := lv_entry ([.ref (ad (0)), .int (p0)]) (n := 2) (Nat.le_of_ble_eq_true rfl)
  rw [lg_entry_eq]
  generalize (lg_sl ([.ref (ad (0)), .int (p0)]) ++ List.replicate (2 - (lg_sl ([.ref (ad (0)), .int (p0)])).length) Slot.unset).toArray = ls at hl ⊢
  have hl : lv_has ls 2 [(0, .ref (ad (0))), (1, .int (p0))] := hl
  unfold w_X5_senderAt at hw
  refine lv_iload_n hx hb dX5_senderAt_0 rfl (lv_at hl 1 rfl) ?_
  refine lv_if_lt (tgt := 10) hx hb dX5_senderAt_1 (by decide) (fun c1 => ?_) (fun c1 => ?_)
  · have hw := hw.1 c1
    exact xg_throw (cls := "java/lang/IndexOutOfBoundsException") (text := "no such sender") (ik := 80) (is := 245) (ic := 84) hx hb hl9 hown (by decide +kernel) (hts (.classLink RX5 80 "java/lang/IndexOutOfBoundsException") (by decide +kernel)) (hts (.initialized "java/lang/IndexOutOfBoundsException") (by decide +kernel)) (fun w hw9 => hts w (by revert w hw9; decide +kernel)) (by decide +kernel) (by decide +kernel) (by decide +kernel) hB0 hP hK hN hS (by rw [hml]; exact hl.1) dX5_senderAt_10 dX5_senderAt_13 dX5_senderAt_14 dX5_senderAt_16 dX5_senderAt_19 ht (Nat.le_of_ble_eq_true rfl) (Nat.le_of_ble_eq_true rfl) (Nat.le_of_ble_eq_true rfl) (Nat.le_of_ble_eq_true rfl) hlocks (by decide) (by decide) hw
  · have hw := hw.2 c1
    refine lv_iload_n hx hb dX5_senderAt_4 rfl (lv_at hl 1 rfl) ?_
    refine lv_bipush (v := 6) hx hb dX5_senderAt_5 (by decide) ?_
    refine lv_icmp_lt (tgt := 20) hx hb dX5_senderAt_7 (by decide) (fun c2 => ?_) (fun c2 => ?_)
    · have hw := hw.1 c2
      refine lv_aload_n hx hb dX5_senderAt_20 rfl (lv_at hl 0 rfl) ?_
      refine xg_getr (C := RX5) (TC := TX5) (N := 9) hx hb hts iX5 hown hK hP xs0 rfl 0 (by decide) f_11 (fun _ h9 => h9) rfl dX5_senderAt_21 ?_
      refine lv_iload_n hx hb dX5_senderAt_24 rfl (lv_at hl 1 rfl) ?_
      obtain ⟨hi3, hw⟩ := hw
      refine xg_aald (t := 3) (C := RX4) hx hb hK hP xs1 rfl hi3 dX5_senderAt_25 (fun hb4 => ?_)
      have hk5 : 10 ≤ (10 + p0.toNatClampNeg) ∧ (10 + p0.toNatClampNeg) < 16 := by omega
      refine vx_ret ?_
      exact xg_arets (r := (10 + p0.toNatClampNeg)) hx hb hr (Or.inl ⟨_, rfl⟩) (Or.inr ⟨_, rfl⟩) rfl hlocks hB0 hP hK hN hS dX5_senderAt_26 (by decide) (by decide) hw
    · have hw := hw.2 c2
      exact xg_throw (cls := "java/lang/IndexOutOfBoundsException") (text := "no such sender") (ik := 80) (is := 245) (ic := 84) hx hb hl9 hown (by decide +kernel) (hts (.classLink RX5 80 "java/lang/IndexOutOfBoundsException") (by decide +kernel)) (hts (.initialized "java/lang/IndexOutOfBoundsException") (by decide +kernel)) (fun w hw9 => hts w (by revert w hw9; decide +kernel)) (by decide +kernel) (by decide +kernel) (by decide +kernel) hB0 hP hK hN hS (by rw [hml]; exact hl.1) dX5_senderAt_10 dX5_senderAt_13 dX5_senderAt_14 dX5_senderAt_16 dX5_senderAt_19 ht (Nat.le_of_ble_eq_true rfl) (Nat.le_of_ble_eq_true rfl) (Nat.le_of_ble_eq_true rfl) (Nat.le_of_ble_eq_true rfl) hlocks (by decide) (by decide) hw
set_option maxHeartbeats 4000000 in
set_option maxRecDepth 100000 in
theorem c_X5_route (l : Launch) (hl9 : l.stackTraces = false) {B0 : Nat} {ad : Nat → Nat} {D : va_G} {T : Nat → ClassId} (hA : XA B0 ad) (p0 : Int32) (p1 : Int32) (p2 : Int32) (p3 : Int32) (p4 : Int32) {h : xH} {K : Int32 → xH → Prop} (hw : w_X5_route p0 p1 p2 p3 p4 h K) : XM l yX5_route wsX5_route ({ frames := 2, cells := 0, slots := 0, locals := 44 } : Room) B0 ad D T h [.ref (ad (0)), .int (p0), .int (p1), .int (p2), .int (p3), .int (p4)] xei K 0 0 := by
  unfold XM
  refine Met.ofW (cc := cX5_route) (maxL := 10) (ret := (some .int)) (by decide) rfl ?_
  intro p e s m args below meth c s₁ B hml hv
  obtain ⟨rfl, hB0, hP, hK, hN⟩ := hv
  have hx := B.exec
  have hb := B.bytes
  have hr := B.returns
  have hts := atoms_spec (ws := wsX5_route) B.pre
  have hown : s.vm.findClass RX5 = some m.cls := findClass_of_methodNamed B.named
  have hlocks := B.notSynchronized
  have iX3 : ∀ w ∈ u_ws RX3 TX3 5, w ∈ wsX5_route := by decide +kernel
  have iX5 : ∀ w ∈ u_ws RX5 TX5 9, w ∈ wsX5_route := by decide +kernel
  have f_17 := hts (.fieldLink RX5 17 "LogSpooler" "rules" "[LLogSpooler$Rule;") (by decide +kernel)
  have f_23 := hts (.fieldLink RX5 23 "LogSpooler" "files" "[LLogSpooler$LogFile;") (by decide +kernel)
  have f_30 := hts (.fieldLink RX5 30 "LogSpooler" "forwarder" "LLogSpooler$Forwarder;") (by decide +kernel)
  have f_41 := hts (.fieldLink RX5 41 "LogSpooler" "now" "I") (by decide +kernel)
  have f_261 := hts (.fieldLink RX5 261 "LogSpooler$Rule" "target" "I") (by decide +kernel)
  have hS : va_S (fun q => B0 ≤ q) s.heap s.heap [] := va_S.rf
  have hl := lv_entry ([.ref (ad (0)), .int (p0), .int (p1), .int (p2), .int (p3), .int (p4)]) (n := 10) (Nat.le_of_ble_eq_true rfl)
  rw [lg_entry_eq]
  generalize (lg_sl ([.ref (ad (0)), .int (p0), .int (p1), .int (p2), .int (p3), .int (p4)]) ++ List.replicate (10 - (lg_sl ([.ref (ad (0)), .int (p0), .int (p1), .int (p2), .int (p3), .int (p4)])).length) Slot.unset).toArray = ls at hl ⊢
  have hl : lv_has ls 10 [(0, .ref (ad (0))), (1, .int (p0)), (2, .int (p1)), (3, .int (p2)), (4, .int (p3)), (5, .int (p4))] := hl
  have j_116 : ∀ (R9 : Int32 → Int32 → xH → Prop) (hR9 : ∀ (v6 : Int32) (v7 : Int32) (h : xH) (H : Heap) (locs : List Loc) (ls : Array Slot), R9 v6 v7 h → XP ad D T h H → va_S (fun q => B0 ≤ q) s.heap H locs → lv_has ls 10 [(0, .ref (ad (0))), (1, .int (p0)), (2, .int (p1)), (3, .int (p2)), (4, .int (p3)), (5, .int (p4)), (6, .int (v6)), (7, .int (v7))] → W p l e (headSpec wsX5_route ({ frames := 2, cells := 0, slots := 0, locals := 44 } : Room)).room s m ([.ref (ad (0)), .int (p0), .int (p1), .int (p2), .int (p3), .int (p4)] : List Value).toArray below meth c H locs 0 0 (MQ below (XQ B0 ad D T xei K) ([.ref (ad (0)), .int (p0), .int (p1), .int (p2), .int (p3), .int (p4)] : List Value).toArray s 0 0 (fun q => B0 ≤ q)) (F0 m 6 ls [])) (v6 : Int32) (v7 : Int32) (h : xH) (H : Heap) (locs : List Loc) (ls : Array Slot), w_X5_route_116 p0 p1 p2 p3 p4 K R9 v6 v7 h → XP ad D T h H → va_S (fun q => B0 ≤ q) s.heap H locs → lv_has ls 10 [(0, .ref (ad (0))), (1, .int (p0)), (2, .int (p1)), (3, .int (p2)), (4, .int (p3)), (5, .int (p4)), (6, .int (v6)), (7, .int (v7))] → W p l e (headSpec wsX5_route ({ frames := 2, cells := 0, slots := 0, locals := 44 } : Room)).room s m ([.ref (ad (0)), .int (p0), .int (p1), .int (p2), .int (p3), .int (p4)] : List Value).toArray below meth c H locs 0 0 (MQ below (XQ B0 ad D T xei K) ([.ref (ad (0)), .int (p0), .int (p1), .int (p2), .int (p3), .int (p4)] : List Value).toArray s 0 0 (fun q => B0 ≤ q)) (F0 m 116 ls []) := by
    intro R9 hR9 v6 v7 h H locs ls hw hP hS hl 
    unfold w_X5_route_116 at hw
    obtain ⟨x22, ex22⟩ : ∃ z : Int32, z = v7 + 1 := ⟨_, rfl⟩
    have hw := hw x22 ex22
    refine lv_iinc (v := x22) (lv' := [(7, .int (x22)), (0, .ref (ad (0))), (1, .int (p0)), (2, .int (p1)), (3, .int (p2)), (4, .int (p3)), (5, .int (p4)), (6, .int (v6))]) hx hb dX5_route_116 hl (k := 7) rfl (by rw [ex22]; rfl) (by decide) rfl (fun ls hl => ?_)
    refine lv_goto (tgt := 6) hx hb dX5_route_119 (by decide) ?_
    exact hR9 (v6) (x22) _ _ _ _ hw hP hS (lv_sub hl [1, 2, 3, 4, 5, 6, 7, 0] rfl)
  have j_108 : ∀ (R9 : Int32 → Int32 → xH → Prop) (hR9 : ∀ (v6 : Int32) (v7 : Int32) (h : xH) (H : Heap) (locs : List Loc) (ls : Array Slot), R9 v6 v7 h → XP ad D T h H → va_S (fun q => B0 ≤ q) s.heap H locs → lv_has ls 10 [(0, .ref (ad (0))), (1, .int (p0)), (2, .int (p1)), (3, .int (p2)), (4, .int (p3)), (5, .int (p4)), (6, .int (v6)), (7, .int (v7))] → W p l e (headSpec wsX5_route ({ frames := 2, cells := 0, slots := 0, locals := 44 } : Room)).room s m ([.ref (ad (0)), .int (p0), .int (p1), .int (p2), .int (p3), .int (p4)] : List Value).toArray below meth c H locs 0 0 (MQ below (XQ B0 ad D T xei K) ([.ref (ad (0)), .int (p0), .int (p1), .int (p2), .int (p3), .int (p4)] : List Value).toArray s 0 0 (fun q => B0 ≤ q)) (F0 m 6 ls [])) (v6 : Int32) (v7 : Int32) (h : xH) (H : Heap) (locs : List Loc) (ls : Array Slot), w_X5_route_108 p0 p1 p2 p3 p4 K R9 v6 v7 h → XP ad D T h H → va_S (fun q => B0 ≤ q) s.heap H locs → lv_has ls 10 [(0, .ref (ad (0))), (1, .int (p0)), (2, .int (p1)), (3, .int (p2)), (4, .int (p3)), (5, .int (p4)), (6, .int (v6)), (7, .int (v7))] → W p l e (headSpec wsX5_route ({ frames := 2, cells := 0, slots := 0, locals := 44 } : Room)).room s m ([.ref (ad (0)), .int (p0), .int (p1), .int (p2), .int (p3), .int (p4)] : List Value).toArray below meth c H locs 0 0 (MQ below (XQ B0 ad D T xei K) ([.ref (ad (0)), .int (p0), .int (p1), .int (p2), .int (p3), .int (p4)] : List Value).toArray s 0 0 (fun q => B0 ≤ q)) (F0 m 108 ls []) := by
    intro R9 hR9 v6 v7 h H locs ls hw hP hS hl 
    unfold w_X5_route_108 at hw
    refine lv_aload_n hx hb dX5_route_108 rfl (lv_at hl 0 rfl) ?_
    refine xg_getr (C := RX5) (TC := TX5) (N := 9) hx hb hts iX5 hown hK hP xs0 rfl 3 (by decide) f_30 (fun _ h9 => h9) rfl dX5_route_109 ?_
    refine lv_iload_n hx hb dX5_route_112 rfl (lv_at hl 1 rfl) ?_
    refine xg_callv (va_runV (As := [.int (p0)]) (rest := []) ⟨hx, hb, hml, hown, hts⟩ (c_X0_take l hl9 hA p0 hw) (cwV 1 hts gX5_route_X0_take rfl rfl rfl (by decide +kernel) ⟨Nat.le_of_ble_eq_true rfl, Nat.le_of_ble_eq_true rfl⟩) (xg_preV hB0 hP hK hN hS xs4 rfl) rfl rfl hl.1 rfl (lv_room (Nat.le_of_ble_eq_true rfl)) dX5_route_113 ⟨Nat.le_of_ble_eq_true rfl, Nat.le_of_ble_eq_true rfl⟩) hS (fun _ h24 H locs hw hP hS => ?_)
    exact j_116 _ (hR9) (v6) (v7) _ _ _ _ hw hP hS (lv_sub hl [0, 1, 2, 3, 4, 5, 6, 7] rfl)
  have j_41 : ∀ (R9 : Int32 → Int32 → xH → Prop) (hR9 : ∀ (v6 : Int32) (v7 : Int32) (h : xH) (H : Heap) (locs : List Loc) (ls : Array Slot), R9 v6 v7 h → XP ad D T h H → va_S (fun q => B0 ≤ q) s.heap H locs → lv_has ls 10 [(0, .ref (ad (0))), (1, .int (p0)), (2, .int (p1)), (3, .int (p2)), (4, .int (p3)), (5, .int (p4)), (6, .int (v6)), (7, .int (v7))] → W p l e (headSpec wsX5_route ({ frames := 2, cells := 0, slots := 0, locals := 44 } : Room)).room s m ([.ref (ad (0)), .int (p0), .int (p1), .int (p2), .int (p3), .int (p4)] : List Value).toArray below meth c H locs 0 0 (MQ below (XQ B0 ad D T xei K) ([.ref (ad (0)), .int (p0), .int (p1), .int (p2), .int (p3), .int (p4)] : List Value).toArray s 0 0 (fun q => B0 ≤ q)) (F0 m 6 ls [])) (v6 : Int32) (v7 : Int32) (v8 : Int32) (s0 : Int32) (h : xH) (H : Heap) (locs : List Loc) (ls : Array Slot), w_X5_route_41 p0 p1 p2 p3 p4 K R9 v6 v7 v8 s0 h → XP ad D T h H → va_S (fun q => B0 ≤ q) s.heap H locs → lv_has ls 10 [(0, .ref (ad (0))), (1, .int (p0)), (2, .int (p1)), (3, .int (p2)), (4, .int (p3)), (5, .int (p4)), (6, .int (v6)), (7, .int (v7)), (8, .int (v8))] → W p l e (headSpec wsX5_route ({ frames := 2, cells := 0, slots := 0, locals := 44 } : Room)).room s m ([.ref (ad (0)), .int (p0), .int (p1), .int (p2), .int (p3), .int (p4)] : List Value).toArray below meth c H locs 0 0 (MQ below (XQ B0 ad D T xei K) ([.ref (ad (0)), .int (p0), .int (p1), .int (p2), .int (p3), .int (p4)] : List Value).toArray s 0 0 (fun q => B0 ≤ q)) (F0 m 41 ls [.int (s0)]) := by
    intro R9 hR9 v6 v7 v8 s0 h H locs ls hw hP hS hl 
    unfold w_X5_route_41 at hw
    refine lv_istore (lv' := [(9, .int (s0)), (0, .ref (ad (0))), (1, .int (p0)), (2, .int (p1)), (3, .int (p2)), (4, .int (p3)), (5, .int (p4)), (6, .int (v6)), (7, .int (v7)), (8, .int (v8))]) hx hb dX5_route_41 hl (by decide) rfl (fun ls hl => ?_)
    refine lv_iload hx hb dX5_route_43 (lv_at hl 0 rfl) ?_
    refine lv_if_ne (tgt := 116) hx hb dX5_route_45 (by decide) (fun c7 => ?_) (fun c7 => ?_)
    · have hw := hw.2 c7
      exact j_116 _ (hR9) (v6) (v7) _ _ _ _ hw hP hS (lv_sub hl [1, 2, 3, 4, 5, 6, 7, 8] rfl)
    · have hw := hw.1 c7
      refine lv_aload_n hx hb dX5_route_48 rfl (lv_at hl 1 rfl) ?_
      refine xg_getr (C := RX5) (TC := TX5) (N := 9) hx hb hts iX5 hown hK hP xs0 rfl 1 (by decide) f_17 (fun _ h9 => h9) rfl dX5_route_49 ?_
      refine lv_iload hx hb dX5_route_52 (lv_at hl 8 rfl) ?_
      obtain ⟨hi8, hw⟩ := hw
      refine xg_aald (t := 4) (C := RX3) hx hb hK hP xs2 rfl hi8 dX5_route_54 (fun hb9 => ?_)
      have hk10 : 20 ≤ (20 + v7.toNatClampNeg) ∧ (20 + v7.toNatClampNeg) < 26 := by omega
      refine lv_iload_n hx hb dX5_route_55 rfl (lv_at hl 3 rfl) ?_
      refine lv_iload_n hx hb dX5_route_56 rfl (lv_at hl 4 rfl) ?_
      refine lv_iload hx hb dX5_route_57 (lv_at hl 5 rfl) ?_
      refine xg_calli (va_runV (As := [.int (p1), .int (p2), .int (p3)]) (rest := []) ⟨hx, hb, hml, hown, hts⟩ (c_X3_fits l hl9 hA (20 + v7.toNatClampNeg) hk10 p1 p2 p3 hw) (cwV 3 hts gX5_route_X3_fits rfl rfl rfl (by decide +kernel) ⟨Nat.le_of_ble_eq_true rfl, Nat.le_of_ble_eq_true rfl⟩) (xg_preV hB0 hP hK hN hS (xsR hk10) rfl) rfl rfl hl.1 rfl (lv_room (Nat.le_of_ble_eq_true rfl)) dX5_route_59 ⟨Nat.le_of_ble_eq_true rfl, Nat.le_of_ble_eq_true rfl⟩) hS (fun r11 h12 H locs hw hP hS => ?_)
      refine lv_if_ne (tgt := 68) hx hb dX5_route_62 (by decide) (fun c13 => ?_) (fun c13 => ?_)
      · have hw := hw.2 c13
        refine lv_iload hx hb dX5_route_68 (lv_at hl 7 rfl) ?_
        refine lv_iconst (v := 1) hx hb dX5_route_70 (by decide) ?_
        refine lv_iload hx hb dX5_route_71 (lv_at hl 9 rfl) ?_
        refine lv_ishl hx hb dX5_route_73 ?_
        refine lv_ior hx hb dX5_route_74 ?_
        refine lv_topi (fun x14 ex14 => ?_)
        have hw := hw x14 ex14
        refine lv_istore (lv' := [(6, .int (x14)), (9, .int (s0)), (0, .ref (ad (0))), (1, .int (p0)), (2, .int (p1)), (3, .int (p2)), (4, .int (p3)), (5, .int (p4)), (7, .int (v7)), (8, .int (v8))]) hx hb dX5_route_75 hl (by decide) rfl (fun ls hl => ?_)
        refine lv_iload hx hb dX5_route_77 (lv_at hl 9 rfl) ?_
        refine lv_if_lt (tgt := 108) hx hb dX5_route_79 (by decide) (fun c15 => ?_) (fun c15 => ?_)
        · have hw := hw.1 c15
          exact j_108 _ (hR9) (x14) (v7) _ _ _ _ hw hP hS (lv_sub hl [2, 3, 4, 5, 6, 7, 0, 8] rfl)
        · have hw := hw.2 c15
          refine lv_iload hx hb dX5_route_82 (lv_at hl 9 rfl) ?_
          refine lv_iconst (v := 4) hx hb dX5_route_84 (by decide) ?_
          refine lv_icmp_ge (tgt := 108) hx hb dX5_route_85 (by decide) (fun c16 => ?_) (fun c16 => ?_)
          · have hw := hw.1 c16
            exact j_108 _ (hR9) (x14) (v7) _ _ _ _ hw hP hS (lv_sub hl [2, 3, 4, 5, 6, 7, 0, 8] rfl)
          · have hw := hw.2 c16
            refine lv_aload_n hx hb dX5_route_88 rfl (lv_at hl 2 rfl) ?_
            refine xg_getr (C := RX5) (TC := TX5) (N := 9) hx hb hts iX5 hown hK hP xs0 rfl 2 (by decide) f_23 (fun _ h9 => h9) rfl dX5_route_89 ?_
            refine lv_iload hx hb dX5_route_92 (lv_at hl 9 rfl) ?_
            obtain ⟨hi17, hw⟩ := hw
            refine xg_aald (t := 5) (C := RX2) hx hb hK hP xs3 rfl hi17 dX5_route_94 (fun hb18 => ?_)
            have hk19 : 30 ≤ (30 + v8.toNatClampNeg) ∧ (30 + v8.toNatClampNeg) < 34 := by omega
            refine lv_iload_n hx hb dX5_route_95 rfl (lv_at hl 3 rfl) ?_
            refine lv_iload hx hb dX5_route_96 (lv_at hl 7 rfl) ?_
            refine lv_aload_n hx hb dX5_route_98 rfl (lv_at hl 2 rfl) ?_
            refine xg_get (C := RX5) (TC := TX5) (N := 9) hx hb hts iX5 hown hK hP xs0 rfl 5 (by decide) f_41 (fun _ h9 => h9) rfl dX5_route_99 ?_
            refine xg_callv (va_runV (As := [.int (p0), .int (p4), .int ((h12 0 5))]) (rest := []) ⟨hx, hb, hml, hown, hts⟩ (c_X2_add l hl9 hA (30 + v8.toNatClampNeg) hk19 p0 p4 (h12 0 5) hw) (cwV 3 hts gX5_route_X2_add rfl rfl rfl (by decide +kernel) ⟨Nat.le_of_ble_eq_true rfl, Nat.le_of_ble_eq_true rfl⟩) (xg_preV hB0 hP hK hN hS (xsF hk19) rfl) rfl rfl hl.1 rfl (lv_room (Nat.le_of_ble_eq_true rfl)) dX5_route_102 ⟨Nat.le_of_ble_eq_true rfl, Nat.le_of_ble_eq_true rfl⟩) hS (fun _ h21 H locs hw hP hS => ?_)
            refine lv_goto (tgt := 116) hx hb dX5_route_105 (by decide) ?_
            exact j_116 _ (hR9) (x14) (v7) _ _ _ _ hw hP hS (lv_sub hl [2, 3, 4, 5, 6, 7, 0, 8] rfl)
      · have hw := hw.1 c13
        refine lv_goto (tgt := 116) hx hb dX5_route_65 (by decide) ?_
        exact j_116 _ (hR9) (v6) (v7) _ _ _ _ hw hP hS (lv_sub hl [1, 2, 3, 4, 5, 6, 7, 8] rfl)
  have j_6 : ∀ (n : Nat) (v6 : Int32) (v7 : Int32) (h : xH) (H : Heap) (locs : List Loc) (ls : Array Slot), w_X5_route_6 p0 p1 p2 p3 p4 K n v6 v7 h → XP ad D T h H → va_S (fun q => B0 ≤ q) s.heap H locs → lv_has ls 10 [(0, .ref (ad (0))), (1, .int (p0)), (2, .int (p1)), (3, .int (p2)), (4, .int (p3)), (5, .int (p4)), (6, .int (v6)), (7, .int (v7))] → W p l e (headSpec wsX5_route ({ frames := 2, cells := 0, slots := 0, locals := 44 } : Room)).room s m ([.ref (ad (0)), .int (p0), .int (p1), .int (p2), .int (p3), .int (p4)] : List Value).toArray below meth c H locs 0 0 (MQ below (XQ B0 ad D T xei K) ([.ref (ad (0)), .int (p0), .int (p1), .int (p2), .int (p3), .int (p4)] : List Value).toArray s 0 0 (fun q => B0 ≤ q)) (F0 m 6 ls []) := by
    intro n
    induction n with
    | zero => intro v6 v7 h H locs ls hw; exact hw.elim
    | succ n9 ih =>
      intro v6 v7 h H locs ls hw hP hS hl 
      rw [w_X5_route_6_s] at hw
      refine lv_iload hx hb dX5_route_6 (lv_at hl 7 rfl) ?_
      refine lv_bipush (v := 6) hx hb dX5_route_8 (by decide) ?_
      refine lv_icmp_ge (tgt := 122) hx hb dX5_route_10 (by decide) (fun c1 => ?_) (fun c1 => ?_)
      · have hw := hw.1 c1
        refine lv_iload hx hb dX5_route_122 (lv_at hl 6 rfl) ?_
        exact xg_irets hx hb hr rfl hlocks hB0 hP hK hN hS dX5_route_124 (by decide) (by decide) hw
      · have hw := hw.2 c1
        refine lv_aload_n hx hb dX5_route_13 rfl (lv_at hl 0 rfl) ?_
        refine xg_getr (C := RX5) (TC := TX5) (N := 9) hx hb hts iX5 hown hK hP xs0 rfl 1 (by decide) f_17 (fun _ h9 => h9) rfl dX5_route_14 ?_
        refine lv_iload hx hb dX5_route_17 (lv_at hl 7 rfl) ?_
        obtain ⟨hi2, hw⟩ := hw
        refine xg_aald (t := 4) (C := RX3) hx hb hK hP xs2 rfl hi2 dX5_route_19 (fun hb3 => ?_)
        have hk4 : 20 ≤ (20 + v7.toNatClampNeg) ∧ (20 + v7.toNatClampNeg) < 26 := by omega
        refine xg_get (C := RX3) (TC := TX3) (N := 5) hx hb hts iX3 hown hK hP (xsR hk4) rfl 4 (by decide) f_261 (fun _ h9 => h9) rfl dX5_route_20 ?_
        refine lv_topi (fun x5 ex5 => ?_)
        have hw := hw x5 ex5
        refine lv_istore (lv' := [(8, .int (x5)), (0, .ref (ad (0))), (1, .int (p0)), (2, .int (p1)), (3, .int (p2)), (4, .int (p3)), (5, .int (p4)), (6, .int (v6)), (7, .int (v7))]) hx hb dX5_route_23 hl (by decide) rfl (fun ls hl => ?_)
        refine lv_iload hx hb dX5_route_25 (lv_at hl 7 rfl) ?_
        refine lv_iload hx hb dX5_route_27 (lv_at hl 0 rfl) ?_
        refine lv_ishr hx hb dX5_route_29 ?_
        refine lv_iconst (v := 1) hx hb dX5_route_30 (by decide) ?_
        refine lv_iand hx hb dX5_route_31 ?_
        refine lv_iconst (v := 1) hx hb dX5_route_32 (by decide) ?_
        refine lv_icmp_ne (tgt := 40) hx hb dX5_route_33 (by decide) (fun c6 => ?_) (fun c6 => ?_)
        · have hw := hw.2 c6
          refine lv_iconst (v := 0) hx hb dX5_route_40 (by decide) ?_
          exact j_41 _ (ih) (v6) (v7) (x5) (0) _ _ _ _ hw hP hS (lv_sub hl [1, 2, 3, 4, 5, 6, 7, 8, 0] rfl)
        · have hw := hw.1 c6
          refine lv_iconst (v := 1) hx hb dX5_route_36 (by decide) ?_
          refine lv_goto (tgt := 41) hx hb dX5_route_37 (by decide) ?_
          exact j_41 _ (ih) (v6) (v7) (x5) (1) _ _ _ _ hw hP hS (lv_sub hl [1, 2, 3, 4, 5, 6, 7, 8, 0] rfl)
  unfold w_X5_route at hw
  refine lv_iconst (v := 0) hx hb dX5_route_0 (by decide) ?_
  refine lv_istore (lv' := [(6, .int (0)), (0, .ref (ad (0))), (1, .int (p0)), (2, .int (p1)), (3, .int (p2)), (4, .int (p3)), (5, .int (p4))]) hx hb dX5_route_1 hl (by decide) rfl (fun ls hl => ?_)
  refine lv_iconst (v := 0) hx hb dX5_route_3 (by decide) ?_
  refine lv_istore (lv' := [(7, .int (0)), (6, .int (0)), (0, .ref (ad (0))), (1, .int (p0)), (2, .int (p1)), (3, .int (p2)), (4, .int (p3)), (5, .int (p4))]) hx hb dX5_route_4 hl (by decide) rfl (fun ls hl => ?_)
  obtain ⟨n9, hw⟩ := hw
  exact j_6 n9 (0) (0) _ _ _ _ hw hP hS (lv_sub hl [2, 3, 4, 5, 6, 7, 1, 0] rfl)
set_option maxHeartbeats 4000000 in
set_option maxRecDepth 100000 in
theorem c_X5_tellRepeats (l : Launch) (hl9 : l.stackTraces = false) {B0 : Nat} {ad : Nat → Nat} {D : va_G} {T : Nat → ClassId} (hA : XA B0 ad) (k : Nat) (hk : 10 ≤ k ∧ k < 16) {h : xH} {K : Unit → xH → Prop} (hw : w_X5_tellRepeats k h K) : XM l yX5_tellRepeats wsX5_tellRepeats ({ frames := 3, cells := 0, slots := 0, locals := 73 } : Room) B0 ad D T h [.ref (ad (0)), .ref (ad (k))] xev K 0 0 := by
  unfold XM
  refine Met.ofW (cc := cX5_tellRepeats) (maxL := 3) (ret := none) (by decide) rfl ?_
  intro p e s m args below meth c s₁ B hml hv
  obtain ⟨rfl, hB0, hP, hK, hN⟩ := hv
  have hx := B.exec
  have hb := B.bytes
  have hr := B.returns
  have hts := atoms_spec (ws := wsX5_tellRepeats) B.pre
  have hown : s.vm.findClass RX5 = some m.cls := findClass_of_methodNamed B.named
  have hlocks := B.notSynchronized
  have iX4 : ∀ w ∈ u_ws RX4 TX4 9, w ∈ wsX5_tellRepeats := by decide +kernel
  have f_207 := hts (.fieldLink RX5 207 "LogSpooler$Sender" "untoldRepeats" "I") (by decide +kernel)
  have f_251 := hts (.fieldLink RX5 251 "LogSpooler$Sender" "number" "I") (by decide +kernel)
  have f_254 := hts (.fieldLink RX5 254 "LogSpooler$Sender" "lastFacility" "I") (by decide +kernel)
  have f_257 := hts (.fieldLink RX5 257 "LogSpooler$Sender" "lastSeverity" "I") (by decide +kernel)
  have hS : va_S (fun q => B0 ≤ q) s.heap s.heap [] := va_S.rf
  have hl := lv_entry ([.ref (ad (0)), .ref (ad (k))]) (n := 3) (Nat.le_of_ble_eq_true rfl)
  rw [lg_entry_eq]
  generalize (lg_sl ([.ref (ad (0)), .ref (ad (k))]) ++ List.replicate (3 - (lg_sl ([.ref (ad (0)), .ref (ad (k))])).length) Slot.unset).toArray = ls at hl ⊢
  have hl : lv_has ls 3 [(0, .ref (ad (0))), (1, .ref (ad (k)))] := hl
  unfold w_X5_tellRepeats at hw
  refine lv_aload_n hx hb dX5_tellRepeats_0 rfl (lv_at hl 1 rfl) ?_
  refine xg_get (C := RX4) (TC := TX4) (N := 9) hx hb hts iX4 hown hK hP (xsS hk) rfl 2 (by decide) f_207 (fun _ h9 => h9) rfl dX5_tellRepeats_1 ?_
  refine lv_if_le (tgt := 48) hx hb dX5_tellRepeats_4 (by decide) (fun c1 => ?_) (fun c1 => ?_)
  · have hw := hw.1 c1
    exact xg_vrets hx hb hr hlocks hB0 hP hK hN hS dX5_tellRepeats_48 (by decide) (by decide) hw
  · have hw := hw.2 c1
    refine lv_sipush (v := 10000) hx hb dX5_tellRepeats_7 (by decide) ?_
    refine lv_aload_n hx hb dX5_tellRepeats_10 rfl (lv_at hl 1 rfl) ?_
    refine xg_get (C := RX4) (TC := TX4) (N := 9) hx hb hts iX4 hown hK hP (xsS hk) rfl 0 (by decide) f_251 (fun _ h9 => h9) rfl dX5_tellRepeats_11 ?_
    refine lv_iconst (v := 1) hx hb dX5_tellRepeats_14 (by decide) ?_
    refine lv_iadd hx hb dX5_tellRepeats_15 ?_
    refine lv_imul hx hb dX5_tellRepeats_16 ?_
    refine lv_aload_n hx hb dX5_tellRepeats_17 rfl (lv_at hl 1 rfl) ?_
    refine xg_get (C := RX4) (TC := TX4) (N := 9) hx hb hts iX4 hown hK hP (xsS hk) rfl 2 (by decide) f_207 (fun _ h9 => h9) rfl dX5_tellRepeats_18 ?_
    refine lv_iadd hx hb dX5_tellRepeats_21 ?_
    refine lv_topi (fun x2 ex2 => ?_)
    have hw := hw x2 ex2
    refine lv_istore_n (lv' := [(2, .int (x2)), (0, .ref (ad (0))), (1, .ref (ad (k)))]) hx hb dX5_tellRepeats_22 rfl hl (by decide) rfl (fun ls hl => ?_)
    refine lv_aload_n hx hb dX5_tellRepeats_23 rfl (lv_at hl 1 rfl) ?_
    refine lv_iload_n hx hb dX5_tellRepeats_24 rfl (lv_at hl 0 rfl) ?_
    refine lv_aload_n hx hb dX5_tellRepeats_25 rfl (lv_at hl 2 rfl) ?_
    refine xg_get (C := RX4) (TC := TX4) (N := 9) hx hb hts iX4 hown hK hP (xsS hk) rfl 0 (by decide) f_251 (fun _ h9 => h9) rfl dX5_tellRepeats_26 ?_
    refine lv_aload_n hx hb dX5_tellRepeats_29 rfl (lv_at hl 2 rfl) ?_
    refine xg_get (C := RX4) (TC := TX4) (N := 9) hx hb hts iX4 hown hK hP (xsS hk) rfl 5 (by decide) f_254 (fun _ h9 => h9) rfl dX5_tellRepeats_30 ?_
    refine lv_aload_n hx hb dX5_tellRepeats_33 rfl (lv_at hl 2 rfl) ?_
    refine xg_get (C := RX4) (TC := TX4) (N := 9) hx hb hts iX4 hown hK hP (xsS hk) rfl 6 (by decide) f_257 (fun _ h9 => h9) rfl dX5_tellRepeats_34 ?_
    refine lv_bipush (v := 15) hx hb dX5_tellRepeats_37 (by decide) ?_
    refine xg_calli (va_runV (As := [.int (x2), .int ((h k 0)), .int ((h k 5)), .int ((h k 6)), .int (15)]) (rest := []) ⟨hx, hb, hml, hown, hts⟩ (c_X5_route l hl9 hA x2 (h k 0) (h k 5) (h k 6) (15 : Int32) hw) (cwV 5 hts gX5_tellRepeats_X5_route rfl rfl rfl (by decide +kernel) ⟨Nat.le_of_ble_eq_true rfl, Nat.le_of_ble_eq_true rfl⟩) (xg_preV hB0 hP hK hN hS xs0 rfl) rfl rfl hl.1 rfl (lv_room (Nat.le_of_ble_eq_true rfl)) dX5_tellRepeats_39 ⟨Nat.le_of_ble_eq_true rfl, Nat.le_of_ble_eq_true rfl⟩) hS (fun r3 h4 H locs hw hP hS => ?_)
    refine lv_pop hx hb dX5_tellRepeats_42 rfl ?_
    refine lv_aload_n hx hb dX5_tellRepeats_43 rfl (lv_at hl 2 rfl) ?_
    refine lv_iconst (v := 0) hx hb dX5_tellRepeats_44 (by decide) ?_
    refine xg_put (C := RX4) (TC := TX4) (N := 9) hx hb hts iX4 tyX4 tyX4_ok nmX4 hown hK hP hA hS (xsS hk) rfl 2 (by decide) f_207 (fun _ h9 => h9) rfl rfl (ty := .int) (by decide +kernel) rfl rfl dX5_tellRepeats_45 (fun H locs h5 eh5 hP hS => ?_)
    have hw := hw h5 eh5
    exact xg_vrets hx hb hr hlocks hB0 hP hK hN hS dX5_tellRepeats_48 (by decide) (by decide) hw
set_option maxHeartbeats 4000000 in
set_option maxRecDepth 100000 in
theorem c_X5_tellDrops (l : Launch) (hl9 : l.stackTraces = false) {B0 : Nat} {ad : Nat → Nat} {D : va_G} {T : Nat → ClassId} (hA : XA B0 ad) (k : Nat) (hk : 10 ≤ k ∧ k < 16) {h : xH} {K : Unit → xH → Prop} (hw : w_X5_tellDrops k h K) : XM l yX5_tellDrops wsX5_tellDrops ({ frames := 3, cells := 0, slots := 0, locals := 73 } : Room) B0 ad D T h [.ref (ad (0)), .ref (ad (k))] xev K 0 0 := by
  unfold XM
  refine Met.ofW (cc := cX5_tellDrops) (maxL := 3) (ret := none) (by decide) rfl ?_
  intro p e s m args below meth c s₁ B hml hv
  obtain ⟨rfl, hB0, hP, hK, hN⟩ := hv
  have hx := B.exec
  have hb := B.bytes
  have hr := B.returns
  have hts := atoms_spec (ws := wsX5_tellDrops) B.pre
  have hown : s.vm.findClass RX5 = some m.cls := findClass_of_methodNamed B.named
  have hlocks := B.notSynchronized
  have iX4 : ∀ w ∈ u_ws RX4 TX4 9, w ∈ wsX5_tellDrops := by decide +kernel
  have f_145 := hts (.fieldLink RX5 145 "LogSpooler$Sender" "untoldDrops" "I") (by decide +kernel)
  have f_251 := hts (.fieldLink RX5 251 "LogSpooler$Sender" "number" "I") (by decide +kernel)
  have hS : va_S (fun q => B0 ≤ q) s.heap s.heap [] := va_S.rf
  have hl := lv_entry ([.ref (ad (0)), .ref (ad (k))]) (n := 3) (Nat.le_of_ble_eq_true rfl)
  rw [lg_entry_eq]
  generalize (lg_sl ([.ref (ad (0)), .ref (ad (k))]) ++ List.replicate (3 - (lg_sl ([.ref (ad (0)), .ref (ad (k))])).length) Slot.unset).toArray = ls at hl ⊢
  have hl : lv_has ls 3 [(0, .ref (ad (0))), (1, .ref (ad (k)))] := hl
  unfold w_X5_tellDrops at hw
  refine lv_aload_n hx hb dX5_tellDrops_0 rfl (lv_at hl 1 rfl) ?_
  refine xg_get (C := RX4) (TC := TX4) (N := 9) hx hb hts iX4 hown hK hP (xsS hk) rfl 4 (by decide) f_145 (fun _ h9 => h9) rfl dX5_tellDrops_1 ?_
  refine lv_if_le (tgt := 42) hx hb dX5_tellDrops_4 (by decide) (fun c1 => ?_) (fun c1 => ?_)
  · have hw := hw.1 c1
    exact xg_vrets hx hb hr hlocks hB0 hP hK hN hS dX5_tellDrops_42 (by decide) (by decide) hw
  · have hw := hw.2 c1
    refine lv_ldcw (v := 100000) hx hb hown (hts (.constant RX5 260 100000) (by decide +kernel)) dX5_tellDrops_7 ?_
    refine lv_aload_n hx hb dX5_tellDrops_10 rfl (lv_at hl 1 rfl) ?_
    refine xg_get (C := RX4) (TC := TX4) (N := 9) hx hb hts iX4 hown hK hP (xsS hk) rfl 0 (by decide) f_251 (fun _ h9 => h9) rfl dX5_tellDrops_11 ?_
    refine lv_iconst (v := 1) hx hb dX5_tellDrops_14 (by decide) ?_
    refine lv_iadd hx hb dX5_tellDrops_15 ?_
    refine lv_imul hx hb dX5_tellDrops_16 ?_
    refine lv_aload_n hx hb dX5_tellDrops_17 rfl (lv_at hl 1 rfl) ?_
    refine xg_get (C := RX4) (TC := TX4) (N := 9) hx hb hts iX4 hown hK hP (xsS hk) rfl 4 (by decide) f_145 (fun _ h9 => h9) rfl dX5_tellDrops_18 ?_
    refine lv_iadd hx hb dX5_tellDrops_21 ?_
    refine lv_topi (fun x2 ex2 => ?_)
    have hw := hw x2 ex2
    refine lv_istore_n (lv' := [(2, .int (x2)), (0, .ref (ad (0))), (1, .ref (ad (k)))]) hx hb dX5_tellDrops_22 rfl hl (by decide) rfl (fun ls hl => ?_)
    refine lv_aload_n hx hb dX5_tellDrops_23 rfl (lv_at hl 1 rfl) ?_
    refine lv_iload_n hx hb dX5_tellDrops_24 rfl (lv_at hl 0 rfl) ?_
    refine lv_aload_n hx hb dX5_tellDrops_25 rfl (lv_at hl 2 rfl) ?_
    refine xg_get (C := RX4) (TC := TX4) (N := 9) hx hb hts iX4 hown hK hP (xsS hk) rfl 0 (by decide) f_251 (fun _ h9 => h9) rfl dX5_tellDrops_26 ?_
    refine lv_iconst (v := 5) hx hb dX5_tellDrops_29 (by decide) ?_
    refine lv_iconst (v := 4) hx hb dX5_tellDrops_30 (by decide) ?_
    refine lv_bipush (v := 20) hx hb dX5_tellDrops_31 (by decide) ?_
    refine xg_calli (va_runV (As := [.int (x2), .int ((h k 0)), .int (5), .int (4), .int (20)]) (rest := []) ⟨hx, hb, hml, hown, hts⟩ (c_X5_route l hl9 hA x2 (h k 0) (5 : Int32) (4 : Int32) (20 : Int32) hw) (cwV 5 hts gX5_tellDrops_X5_route rfl rfl rfl (by decide +kernel) ⟨Nat.le_of_ble_eq_true rfl, Nat.le_of_ble_eq_true rfl⟩) (xg_preV hB0 hP hK hN hS xs0 rfl) rfl rfl hl.1 rfl (lv_room (Nat.le_of_ble_eq_true rfl)) dX5_tellDrops_33 ⟨Nat.le_of_ble_eq_true rfl, Nat.le_of_ble_eq_true rfl⟩) hS (fun r3 h4 H locs hw hP hS => ?_)
    refine lv_pop hx hb dX5_tellDrops_36 rfl ?_
    refine lv_aload_n hx hb dX5_tellDrops_37 rfl (lv_at hl 2 rfl) ?_
    refine lv_iconst (v := 0) hx hb dX5_tellDrops_38 (by decide) ?_
    refine xg_put (C := RX4) (TC := TX4) (N := 9) hx hb hts iX4 tyX4 tyX4_ok nmX4 hown hK hP hA hS (xsS hk) rfl 4 (by decide) f_145 (fun _ h9 => h9) rfl rfl (ty := .int) (by decide +kernel) rfl rfl dX5_tellDrops_39 (fun H locs h5 eh5 hP hS => ?_)
    have hw := hw h5 eh5
    exact xg_vrets hx hb hr hlocks hB0 hP hK hN hS dX5_tellDrops_42 (by decide) (by decide) hw
set_option maxHeartbeats 4000000 in
set_option maxRecDepth 100000 in
theorem c_X5_message (l : Launch) (hl9 : l.stackTraces = false) {B0 : Nat} {ad : Nat → Nat} {D : va_G} {T : Nat → ClassId} (hA : XA B0 ad) (p0 : Int32) (p1 : Int32) (p2 : Int32) (p3 : Int32) (p4 : Int32) {h : xH} {K : Int32 → xH → Prop} {KX : String → xH → Prop} (hw : w_X5_message p0 p1 p2 p3 p4 h K KX) : XT l yX5_message wsX5_message ({ frames := 7, cells := 2, slots := 12, locals := 121 } : Room) B0 ad D T h [.ref (ad (0)), .int (p0), .int (p1), .int (p2), .int (p3), .int (p4)] xei K KX 2 12 := by
  unfold XT
  refine vx_ofW (cc := cX5_message) (maxL := 8) (ret := (some .int)) (by decide) rfl ?_
  intro p e s m args below meth c s₁ B hml ht hv
  obtain ⟨rfl, hB0, hP, hK, hN⟩ := hv
  have hx := B.exec
  have hb := B.bytes
  have hr := B.returns
  have hts := atoms_spec (ws := wsX5_message) B.pre
  have hown : s.vm.findClass RX5 = some m.cls := findClass_of_methodNamed B.named
  have hlocks := B.notSynchronized
  have iX1 : ∀ w ∈ u_ws RX1 TX1 3, w ∈ wsX5_message := by decide +kernel
  have iX4 : ∀ w ∈ u_ws RX4 TX4 9, w ∈ wsX5_message := by decide +kernel
  have iX5 : ∀ w ∈ u_ws RX5 TX5 9, w ∈ wsX5_message := by decide +kernel
  have f_37 := hts (.fieldLink RX5 37 "LogSpooler" "ledger" "LLogSpooler$Ledger;") (by decide +kernel)
  have f_41 := hts (.fieldLink RX5 41 "LogSpooler" "now" "I") (by decide +kernel)
  have f_51 := hts (.fieldLink RX5 51 "LogSpooler" "foldTime" "I") (by decide +kernel)
  have f_142 := hts (.fieldLink RX5 142 "LogSpooler$Sender" "tokensLeft" "I") (by decide +kernel)
  have f_145 := hts (.fieldLink RX5 145 "LogSpooler$Sender" "untoldDrops" "I") (by decide +kernel)
  have f_154 := hts (.fieldLink RX5 154 "LogSpooler$Ledger" "entries" "I") (by decide +kernel)
  have hS : va_S (fun q => B0 ≤ q) s.heap s.heap [] := va_S.rf
  have hl := lv_entry ([.ref (ad (0)), .int (p0), .int (p1), .int (p2), .int (p3), .int (p4)]) (n := 8) (Nat.le_of_ble_eq_true rfl)
  rw [lg_entry_eq]
  generalize (lg_sl ([.ref (ad (0)), .int (p0), .int (p1), .int (p2), .int (p3), .int (p4)]) ++ List.replicate (8 - (lg_sl ([.ref (ad (0)), .int (p0), .int (p1), .int (p2), .int (p3), .int (p4)])).length) Slot.unset).toArray = ls at hl ⊢
  have hl : lv_has ls 8 [(0, .ref (ad (0))), (1, .int (p0)), (2, .int (p1)), (3, .int (p2)), (4, .int (p3)), (5, .int (p4))] := hl
  have j_215 : ∀ (v7 : Int32) (s0 : Nat) (s1 : Int32) (h : xH) (H : Heap) (locs : List Loc) (ls : Array Slot), w_X5_message_215 p0 p1 p2 p3 p4 K KX v7 s0 s1 h → XP ad D T h H → va_S (fun q => B0 ≤ q) s.heap H locs → lv_has ls 8 [(7, .int (v7))] → W p l e (headSpec wsX5_message ({ frames := 7, cells := 2, slots := 12, locals := 121 } : Room)).room s m ([.ref (ad (0)), .int (p0), .int (p1), .int (p2), .int (p3), .int (p4)] : List Value).toArray below meth c H locs 1 6 (vx_MQ below (XQ B0 ad D T xei K) (XX B0 ad D T KX) ([.ref (ad (0)), .int (p0), .int (p1), .int (p2), .int (p3), .int (p4)] : List Value).toArray s 2 12 (fun q => B0 ≤ q)) (F0 m 215 ls [.int (s1), .ref (ad (6))]) := by
    intro v7 s0 s1 h H locs ls hw hP hS hl 
    unfold w_X5_message_215 at hw
    refine lv_iload hx hb dX5_message_215 (lv_at hl 0 rfl) ?_
    refine xg_calli (va_runV (As := [.int (s1), .int (v7)]) (rest := []) ⟨hx, hb, hml, hown, hts⟩ (c_X1_enter l hl9 hA s1 v7 hw) (cwV 2 hts gX5_message_X1_enter rfl rfl rfl (by decide +kernel) ⟨Nat.le_of_ble_eq_true rfl, Nat.le_of_ble_eq_true rfl⟩) (xg_preV hB0 hP hK hN hS xs6 rfl) rfl rfl hl.1 rfl (lv_room (Nat.le_of_ble_eq_true rfl)) dX5_message_217 ⟨Nat.le_of_ble_eq_true rfl, Nat.le_of_ble_eq_true rfl⟩) hS (fun r41 h42 H locs hw hP hS => ?_)
    refine vx_ret ?_
    exact xg_irets hx hb hr rfl hlocks hB0 hP hK hN hS dX5_message_220 (by decide) (by decide) hw
  have j_120 : ∀ (v6 : Nat) (h : xH) (H : Heap) (locs : List Loc) (ls : Array Slot), w_X5_message_120 p0 p1 p2 p3 p4 K KX v6 h → XP ad D T h H → va_S (fun q => B0 ≤ q) s.heap H locs → lv_has ls 8 [(0, .ref (ad (0))), (1, .int (p0)), (2, .int (p1)), (3, .int (p2)), (4, .int (p3)), (5, .int (p4)), (6, .ref (ad (v6)))] → (10 ≤ v6 ∧ v6 < 16) → W p l e (headSpec wsX5_message ({ frames := 7, cells := 2, slots := 12, locals := 121 } : Room)).room s m ([.ref (ad (0)), .int (p0), .int (p1), .int (p2), .int (p3), .int (p4)] : List Value).toArray below meth c H locs 1 6 (vx_MQ below (XQ B0 ad D T xei K) (XX B0 ad D T KX) ([.ref (ad (0)), .int (p0), .int (p1), .int (p2), .int (p3), .int (p4)] : List Value).toArray s 2 12 (fun q => B0 ≤ q)) (F0 m 120 ls []) := by
    intro v6 h H locs ls hw hP hS hl hb_v6
    unfold w_X5_message_120 at hw
    refine lv_aload_n hx hb dX5_message_120 rfl (lv_at hl 0 rfl) ?_
    refine lv_aload hx hb dX5_message_121 (lv_at hl 6 rfl) ?_
    refine xg_callv (va_runV (As := [.ref (ad (v6))]) (rest := []) ⟨hx, hb, hml, hown, hts⟩ (c_X5_tellRepeats l hl9 hA v6 hb_v6 hw) (cwV 1 hts gX5_message_X5_tellRepeats rfl rfl rfl (by decide +kernel) ⟨Nat.le_of_ble_eq_true rfl, Nat.le_of_ble_eq_true rfl⟩) (xg_preV hB0 hP hK hN hS xs0 rfl) rfl rfl hl.1 rfl (lv_room (Nat.le_of_ble_eq_true rfl)) dX5_message_123 ⟨Nat.le_of_ble_eq_true rfl, Nat.le_of_ble_eq_true rfl⟩) hS (fun _ h28 H locs hw hP hS => ?_)
    refine lv_aload hx hb dX5_message_126 (lv_at hl 6 rfl) ?_
    refine xg_get (C := RX4) (TC := TX4) (N := 9) hx hb hts iX4 hown hK hP (xsS hb_v6) rfl 1 (by decide) f_142 (fun _ h9 => h9) rfl dX5_message_128 ?_
    refine lv_if_ne (tgt := 155) hx hb dX5_message_131 (by decide) (fun c29 => ?_) (fun c29 => ?_)
    · have hw := hw.2 c29
      refine lv_aload hx hb dX5_message_155 (lv_at hl 6 rfl) ?_
      refine lv_dup hx hb dX5_message_157 rfl ?_
      refine xg_get (C := RX4) (TC := TX4) (N := 9) hx hb hts iX4 hown hK hP (xsS hb_v6) rfl 1 (by decide) f_142 (fun _ h9 => h9) rfl dX5_message_158 ?_
      refine lv_iconst (v := 1) hx hb dX5_message_161 (by decide) ?_
      refine lv_isub hx hb dX5_message_162 ?_
      refine xg_put (C := RX4) (TC := TX4) (N := 9) hx hb hts iX4 tyX4 tyX4_ok nmX4 hown hK hP hA hS (xsS hb_v6) rfl 1 (by decide) f_142 (fun _ h9 => h9) rfl rfl (ty := .int) (by decide +kernel) rfl rfl dX5_message_163 (fun H locs h30 eh30 hP hS => ?_)
      have hw := hw h30 eh30
      refine lv_aload_n hx hb dX5_message_166 rfl (lv_at hl 0 rfl) ?_
      refine lv_aload hx hb dX5_message_167 (lv_at hl 6 rfl) ?_
      refine xg_callv (va_runV (As := [.ref (ad (v6))]) (rest := []) ⟨hx, hb, hml, hown, hts⟩ (c_X5_tellDrops l hl9 hA v6 hb_v6 hw) (cwV 1 hts gX5_message_X5_tellDrops rfl rfl rfl (by decide +kernel) ⟨Nat.le_of_ble_eq_true rfl, Nat.le_of_ble_eq_true rfl⟩) (xg_preV hB0 hP hK hN hS xs0 rfl) rfl rfl hl.1 rfl (lv_room (Nat.le_of_ble_eq_true rfl)) dX5_message_169 ⟨Nat.le_of_ble_eq_true rfl, Nat.le_of_ble_eq_true rfl⟩) hS (fun _ h32 H locs hw hP hS => ?_)
      refine lv_aload hx hb dX5_message_172 (lv_at hl 6 rfl) ?_
      refine lv_iload_n hx hb dX5_message_174 rfl (lv_at hl 2 rfl) ?_
      refine lv_iload_n hx hb dX5_message_175 rfl (lv_at hl 3 rfl) ?_
      refine lv_iload hx hb dX5_message_176 (lv_at hl 4 rfl) ?_
      refine lv_iload hx hb dX5_message_178 (lv_at hl 5 rfl) ?_
      refine xg_callv (va_runV (As := [.int (p1), .int (p2), .int (p3), .int (p4)]) (rest := []) ⟨hx, hb, hml, hown, hts⟩ (c_X4_setLast l hl9 hA v6 hb_v6 p1 p2 p3 p4 hw) (cwV 4 hts gX5_message_X4_setLast rfl rfl rfl (by decide +kernel) ⟨Nat.le_of_ble_eq_true rfl, Nat.le_of_ble_eq_true rfl⟩) (xg_preV hB0 hP hK hN hS (xsS hb_v6) rfl) rfl rfl hl.1 rfl (lv_room (Nat.le_of_ble_eq_true rfl)) dX5_message_180 ⟨Nat.le_of_ble_eq_true rfl, Nat.le_of_ble_eq_true rfl⟩) hS (fun _ h34 H locs hw hP hS => ?_)
      refine lv_aload_n hx hb dX5_message_183 rfl (lv_at hl 0 rfl) ?_
      refine lv_aload_n hx hb dX5_message_184 rfl (lv_at hl 0 rfl) ?_
      refine xg_getr (C := RX5) (TC := TX5) (N := 9) hx hb hts iX5 hown hK hP xs0 rfl 4 (by decide) f_37 (fun _ h9 => h9) rfl dX5_message_185 ?_
      refine xg_get (C := RX1) (TC := TX1) (N := 3) hx hb hts iX1 hown hK hP xs6 rfl 2 (by decide) f_154 (fun _ h9 => h9) rfl dX5_message_188 ?_
      refine lv_iload_n hx hb dX5_message_191 rfl (lv_at hl 1 rfl) ?_
      refine lv_iload_n hx hb dX5_message_192 rfl (lv_at hl 2 rfl) ?_
      refine lv_iload_n hx hb dX5_message_193 rfl (lv_at hl 3 rfl) ?_
      refine lv_iload hx hb dX5_message_194 (lv_at hl 5 rfl) ?_
      refine xg_calli (va_runV (As := [.int ((h34 6 2)), .int (p0), .int (p1), .int (p2), .int (p4)]) (rest := []) ⟨hx, hb, hml, hown, hts⟩ (c_X5_route l hl9 hA (h34 6 2) p0 p1 p2 p4 hw) (cwV 5 hts gX5_message_X5_route rfl rfl rfl (by decide +kernel) ⟨Nat.le_of_ble_eq_true rfl, Nat.le_of_ble_eq_true rfl⟩) (xg_preV hB0 hP hK hN hS xs0 rfl) rfl rfl hl.1 rfl (lv_room (Nat.le_of_ble_eq_true rfl)) dX5_message_196 ⟨Nat.le_of_ble_eq_true rfl, Nat.le_of_ble_eq_true rfl⟩) hS (fun r35 h36 H locs hw hP hS => ?_)
      refine lv_istore (lv' := [(7, .int (r35)), (0, .ref (ad (0))), (1, .int (p0)), (2, .int (p1)), (3, .int (p2)), (4, .int (p3)), (5, .int (p4)), (6, .ref (ad (v6)))]) hx hb dX5_message_199 hl (by decide) rfl (fun ls hl => ?_)
      refine lv_aload_n hx hb dX5_message_201 rfl (lv_at hl 1 rfl) ?_
      refine xg_getr (C := RX5) (TC := TX5) (N := 9) hx hb hts iX5 hown hK hP xs0 rfl 4 (by decide) f_37 (fun _ h9 => h9) rfl dX5_message_202 ?_
      refine lv_iload hx hb dX5_message_205 (lv_at hl 0 rfl) ?_
      refine lv_if_ne (tgt := 214) hx hb dX5_message_207 (by decide) (fun c37 => ?_) (fun c37 => ?_)
      · have hw := hw.2 c37
        refine lv_iconst (v := 3) hx hb dX5_message_214 (by decide) ?_
        exact j_215 (r35) (6) (3) _ _ _ _ hw hP hS (lv_sub hl [0] rfl)
      · have hw := hw.1 c37
        refine lv_iconst (v := 2) hx hb dX5_message_210 (by decide) ?_
        refine lv_goto (tgt := 215) hx hb dX5_message_211 (by decide) ?_
        exact j_215 (r35) (6) (2) _ _ _ _ hw hP hS (lv_sub hl [0] rfl)
    · have hw := hw.1 c29
      refine lv_aload hx hb dX5_message_134 (lv_at hl 6 rfl) ?_
      refine lv_dup hx hb dX5_message_136 rfl ?_
      refine xg_get (C := RX4) (TC := TX4) (N := 9) hx hb hts iX4 hown hK hP (xsS hb_v6) rfl 4 (by decide) f_145 (fun _ h9 => h9) rfl dX5_message_137 ?_
      refine lv_iconst (v := 1) hx hb dX5_message_140 (by decide) ?_
      refine lv_iadd hx hb dX5_message_141 ?_
      refine xg_put (C := RX4) (TC := TX4) (N := 9) hx hb hts iX4 tyX4 tyX4_ok nmX4 hown hK hP hA hS (xsS hb_v6) rfl 4 (by decide) f_145 (fun _ h9 => h9) rfl rfl (ty := .int) (by decide +kernel) rfl rfl dX5_message_142 (fun H locs h38 eh38 hP hS => ?_)
      have hw := hw h38 eh38
      refine lv_aload_n hx hb dX5_message_145 rfl (lv_at hl 0 rfl) ?_
      refine xg_getr (C := RX5) (TC := TX5) (N := 9) hx hb hts iX5 hown hK hP xs0 rfl 4 (by decide) f_37 (fun _ h9 => h9) rfl dX5_message_146 ?_
      refine lv_iconst (v := 1) hx hb dX5_message_149 (by decide) ?_
      refine lv_iconst (v := 0) hx hb dX5_message_150 (by decide) ?_
      refine xg_calli (va_runV (As := [.int (1), .int (0)]) (rest := []) ⟨hx, hb, hml, hown, hts⟩ (c_X1_enter l hl9 hA (1 : Int32) (0 : Int32) hw) (cwV 2 hts gX5_message_X1_enter rfl rfl rfl (by decide +kernel) ⟨Nat.le_of_ble_eq_true rfl, Nat.le_of_ble_eq_true rfl⟩) (xg_preV hB0 hP hK hN hS xs6 rfl) rfl rfl hl.1 rfl (lv_room (Nat.le_of_ble_eq_true rfl)) dX5_message_151 ⟨Nat.le_of_ble_eq_true rfl, Nat.le_of_ble_eq_true rfl⟩) hS (fun r39 h40 H locs hw hP hS => ?_)
      refine vx_ret ?_
      exact xg_irets hx hb hr rfl hlocks hB0 hP hK hN hS dX5_message_154 (by decide) (by decide) hw
  unfold w_X5_message at hw
  refine lv_aload_n hx hb dX5_message_0 rfl (lv_at hl 0 rfl) ?_
  refine lv_iload_n hx hb dX5_message_1 rfl (lv_at hl 1 rfl) ?_
  refine xg_callXr (vx_runV (As := [.int (p0)]) (rest := []) ⟨hx, hb, hml, hown, hts⟩ (c_X5_senderAt l hl9 hA p0 hw) (cwV 1 hts gX5_message_X5_senderAt rfl rfl rfl (by decide +kernel) ⟨Nat.le_of_ble_eq_true rfl, Nat.le_of_ble_eq_true rfl⟩) (xg_preV hB0 hP hK hN hS xs0 rfl) rfl rfl hl.1 rfl (lv_room (Nat.le_of_ble_eq_true rfl)) dX5_message_2 ⟨Nat.le_of_ble_eq_true rfl, Nat.le_of_ble_eq_true rfl⟩) hS (fun E8 ce9 q9 h8 H locs hw hP hS hce hcv hcl => ?_) (fun r1 h2 H locs hw hP hS => ?_)
  · exact xg_out ht hlocks hP hS hce hcv hcl (by decide) (by decide) hw
  · obtain ⟨hk3, hw⟩ := hw
    refine lv_astore (lv' := [(6, .ref (ad (r1))), (0, .ref (ad (0))), (1, .int (p0)), (2, .int (p1)), (3, .int (p2)), (4, .int (p3)), (5, .int (p4))]) hx hb dX5_message_5 hl (by decide) rfl (fun ls hl => ?_)
    refine lv_iload_n hx hb dX5_message_7 rfl (lv_at hl 3 rfl) ?_
    refine lv_iconst (v := 0) hx hb dX5_message_8 (by decide) ?_
    refine lv_bipush (v := 7) hx hb dX5_message_9 (by decide) ?_
    refine xg_calli (va_runS (As := [.int (p1), .int (0), .int (7)]) (rest := []) ⟨hx, hb, hml, hown, hts⟩ (c_X5_isWithin l hl9 hA p1 (0 : Int32) (7 : Int32) hw) (va_cwS 3 hts gX5_message_X5_isWithin rfl rfl rfl (by decide +kernel) ⟨Nat.le_of_ble_eq_true rfl, Nat.le_of_ble_eq_true rfl⟩) (xg_preS hB0 hP hK hN hS) rfl rfl hl.1 rfl (lv_room (Nat.le_of_ble_eq_true rfl)) dX5_message_11 ⟨Nat.le_of_ble_eq_true rfl, Nat.le_of_ble_eq_true rfl⟩) hS (fun r4 h5 H locs hw hP hS => ?_)
    refine lv_if_eq (tgt := 50) hx hb dX5_message_14 (by decide) (fun c6 => ?_) (fun c6 => ?_)
    · have hw := hw.1 c6
      exact xg_throw (cls := "java/lang/IllegalArgumentException") (text := "facility, severity, text or length is out of range") (ik := 63) (is := 116) (ic := 67) hx hb hl9 hown (by decide +kernel) (hts (.classLink RX5 63 "java/lang/IllegalArgumentException") (by decide +kernel)) (hts (.initialized "java/lang/IllegalArgumentException") (by decide +kernel)) (fun w hw9 => hts w (by revert w hw9; decide +kernel)) (by decide +kernel) (by decide +kernel) (by decide +kernel) hB0 hP hK hN hS (by rw [hml]; exact hl.1) dX5_message_50 dX5_message_53 dX5_message_54 dX5_message_56 dX5_message_59 ht (Nat.le_of_ble_eq_true rfl) (Nat.le_of_ble_eq_true rfl) (Nat.le_of_ble_eq_true rfl) (Nat.le_of_ble_eq_true rfl) hlocks (by decide) (by decide) hw
    · have hw := hw.2 c6
      refine lv_iload_n hx hb dX5_message_17 rfl (lv_at hl 4 rfl) ?_
      refine lv_iconst (v := 0) hx hb dX5_message_18 (by decide) ?_
      refine lv_bipush (v := 7) hx hb dX5_message_19 (by decide) ?_
      refine xg_calli (va_runS (As := [.int (p2), .int (0), .int (7)]) (rest := []) ⟨hx, hb, hml, hown, hts⟩ (c_X5_isWithin l hl9 hA p2 (0 : Int32) (7 : Int32) hw) (va_cwS 3 hts gX5_message_X5_isWithin rfl rfl rfl (by decide +kernel) ⟨Nat.le_of_ble_eq_true rfl, Nat.le_of_ble_eq_true rfl⟩) (xg_preS hB0 hP hK hN hS) rfl rfl hl.1 rfl (lv_room (Nat.le_of_ble_eq_true rfl)) dX5_message_21 ⟨Nat.le_of_ble_eq_true rfl, Nat.le_of_ble_eq_true rfl⟩) hS (fun r7 h8 H locs hw hP hS => ?_)
      refine lv_if_eq (tgt := 50) hx hb dX5_message_24 (by decide) (fun c9 => ?_) (fun c9 => ?_)
      · have hw := hw.1 c9
        exact xg_throw (cls := "java/lang/IllegalArgumentException") (text := "facility, severity, text or length is out of range") (ik := 63) (is := 116) (ic := 67) hx hb hl9 hown (by decide +kernel) (hts (.classLink RX5 63 "java/lang/IllegalArgumentException") (by decide +kernel)) (hts (.initialized "java/lang/IllegalArgumentException") (by decide +kernel)) (fun w hw9 => hts w (by revert w hw9; decide +kernel)) (by decide +kernel) (by decide +kernel) (by decide +kernel) hB0 hP hK hN hS (by rw [hml]; exact hl.1) dX5_message_50 dX5_message_53 dX5_message_54 dX5_message_56 dX5_message_59 ht (Nat.le_of_ble_eq_true rfl) (Nat.le_of_ble_eq_true rfl) (Nat.le_of_ble_eq_true rfl) (Nat.le_of_ble_eq_true rfl) hlocks (by decide) (by decide) hw
      · have hw := hw.2 c9
        refine lv_iload hx hb dX5_message_27 (lv_at hl 5 rfl) ?_
        refine lv_iconst (v := 0) hx hb dX5_message_29 (by decide) ?_
        refine lv_bipush (v := 99) hx hb dX5_message_30 (by decide) ?_
        refine xg_calli (va_runS (As := [.int (p3), .int (0), .int (99)]) (rest := []) ⟨hx, hb, hml, hown, hts⟩ (c_X5_isWithin l hl9 hA p3 (0 : Int32) (99 : Int32) hw) (va_cwS 3 hts gX5_message_X5_isWithin rfl rfl rfl (by decide +kernel) ⟨Nat.le_of_ble_eq_true rfl, Nat.le_of_ble_eq_true rfl⟩) (xg_preS hB0 hP hK hN hS) rfl rfl hl.1 rfl (lv_room (Nat.le_of_ble_eq_true rfl)) dX5_message_32 ⟨Nat.le_of_ble_eq_true rfl, Nat.le_of_ble_eq_true rfl⟩) hS (fun r10 h11 H locs hw hP hS => ?_)
        refine lv_if_eq (tgt := 50) hx hb dX5_message_35 (by decide) (fun c12 => ?_) (fun c12 => ?_)
        · have hw := hw.1 c12
          exact xg_throw (cls := "java/lang/IllegalArgumentException") (text := "facility, severity, text or length is out of range") (ik := 63) (is := 116) (ic := 67) hx hb hl9 hown (by decide +kernel) (hts (.classLink RX5 63 "java/lang/IllegalArgumentException") (by decide +kernel)) (hts (.initialized "java/lang/IllegalArgumentException") (by decide +kernel)) (fun w hw9 => hts w (by revert w hw9; decide +kernel)) (by decide +kernel) (by decide +kernel) (by decide +kernel) hB0 hP hK hN hS (by rw [hml]; exact hl.1) dX5_message_50 dX5_message_53 dX5_message_54 dX5_message_56 dX5_message_59 ht (Nat.le_of_ble_eq_true rfl) (Nat.le_of_ble_eq_true rfl) (Nat.le_of_ble_eq_true rfl) (Nat.le_of_ble_eq_true rfl) hlocks (by decide) (by decide) hw
        · have hw := hw.2 c12
          refine lv_iload hx hb dX5_message_38 (lv_at hl 6 rfl) ?_
          refine lv_iconst (v := 1) hx hb dX5_message_40 (by decide) ?_
          refine lv_sipush (v := 200) hx hb dX5_message_41 (by decide) ?_
          refine xg_calli (va_runS (As := [.int (p4), .int (1), .int (200)]) (rest := []) ⟨hx, hb, hml, hown, hts⟩ (c_X5_isWithin l hl9 hA p4 (1 : Int32) (200 : Int32) hw) (va_cwS 3 hts gX5_message_X5_isWithin rfl rfl rfl (by decide +kernel) ⟨Nat.le_of_ble_eq_true rfl, Nat.le_of_ble_eq_true rfl⟩) (xg_preS hB0 hP hK hN hS) rfl rfl hl.1 rfl (lv_room (Nat.le_of_ble_eq_true rfl)) dX5_message_44 ⟨Nat.le_of_ble_eq_true rfl, Nat.le_of_ble_eq_true rfl⟩) hS (fun r13 h14 H locs hw hP hS => ?_)
          refine lv_if_ne (tgt := 60) hx hb dX5_message_47 (by decide) (fun c15 => ?_) (fun c15 => ?_)
          · have hw := hw.2 c15
            refine lv_aload_n hx hb dX5_message_60 rfl (lv_at hl 1 rfl) ?_
            refine xg_getr (C := RX5) (TC := TX5) (N := 9) hx hb hts iX5 hown hK hP xs0 rfl 4 (by decide) f_37 (fun _ h9 => h9) rfl dX5_message_61 ?_
            refine xg_calli (va_runV (As := []) (rest := []) ⟨hx, hb, hml, hown, hts⟩ (c_X1_isFull l hl9 hA hw) (cwV 0 hts gX5_message_X1_isFull rfl rfl rfl (by decide +kernel) ⟨Nat.le_of_ble_eq_true rfl, Nat.le_of_ble_eq_true rfl⟩) (xg_preV hB0 hP hK hN hS xs6 rfl) rfl rfl hl.1 rfl (lv_room (Nat.le_of_ble_eq_true rfl)) dX5_message_64 ⟨Nat.le_of_ble_eq_true rfl, Nat.le_of_ble_eq_true rfl⟩) hS (fun r16 h17 H locs hw hP hS => ?_)
            refine lv_if_eq (tgt := 80) hx hb dX5_message_67 (by decide) (fun c18 => ?_) (fun c18 => ?_)
            · have hw := hw.1 c18
              refine lv_aload_n hx hb dX5_message_80 rfl (lv_at hl 1 rfl) ?_
              refine xg_get (C := RX5) (TC := TX5) (N := 9) hx hb hts iX5 hown hK hP xs0 rfl 8 (by decide) f_51 (fun _ h9 => h9) rfl dX5_message_81 ?_
              refine lv_if_eq (tgt := 120) hx hb dX5_message_84 (by decide) (fun c19 => ?_) (fun c19 => ?_)
              · have hw := hw.1 c19
                exact j_120 (r1) _ _ _ _ hw hP hS (lv_sub hl [1, 2, 3, 4, 5, 6, 0] rfl) hk3
              · have hw := hw.2 c19
                refine lv_aload hx hb dX5_message_87 (lv_at hl 0 rfl) ?_
                refine lv_iload_n hx hb dX5_message_89 rfl (lv_at hl 3 rfl) ?_
                refine lv_iload_n hx hb dX5_message_90 rfl (lv_at hl 4 rfl) ?_
                refine lv_iload hx hb dX5_message_91 (lv_at hl 5 rfl) ?_
                refine lv_iload hx hb dX5_message_93 (lv_at hl 6 rfl) ?_
                refine xg_calli (va_runV (As := [.int (p1), .int (p2), .int (p3), .int (p4)]) (rest := []) ⟨hx, hb, hml, hown, hts⟩ (c_X4_lastIs l hl9 hA r1 hk3 p1 p2 p3 p4 hw) (cwV 4 hts gX5_message_X4_lastIs rfl rfl rfl (by decide +kernel) ⟨Nat.le_of_ble_eq_true rfl, Nat.le_of_ble_eq_true rfl⟩) (xg_preV hB0 hP hK hN hS (xsS hk3) rfl) rfl rfl hl.1 rfl (lv_room (Nat.le_of_ble_eq_true rfl)) dX5_message_95 ⟨Nat.le_of_ble_eq_true rfl, Nat.le_of_ble_eq_true rfl⟩) hS (fun r20 h21 H locs hw hP hS => ?_)
                refine lv_if_eq (tgt := 120) hx hb dX5_message_98 (by decide) (fun c22 => ?_) (fun c22 => ?_)
                · have hw := hw.1 c22
                  exact j_120 (r1) _ _ _ _ hw hP hS (lv_sub hl [1, 2, 3, 4, 5, 6, 0] rfl) hk3
                · have hw := hw.2 c22
                  refine lv_aload hx hb dX5_message_101 (lv_at hl 0 rfl) ?_
                  refine lv_aload_n hx hb dX5_message_103 rfl (lv_at hl 1 rfl) ?_
                  refine xg_get (C := RX5) (TC := TX5) (N := 9) hx hb hts iX5 hown hK hP xs0 rfl 5 (by decide) f_41 (fun _ h9 => h9) rfl dX5_message_104 ?_
                  refine xg_callv (va_runV (As := [.int ((h21 0 5))]) (rest := []) ⟨hx, hb, hml, hown, hts⟩ (c_X4_countRepeat l hl9 hA r1 hk3 (h21 0 5) hw) (cwV 1 hts gX5_message_X4_countRepeat rfl rfl rfl (by decide +kernel) ⟨Nat.le_of_ble_eq_true rfl, Nat.le_of_ble_eq_true rfl⟩) (xg_preV hB0 hP hK hN hS (xsS hk3) rfl) rfl rfl hl.1 rfl (lv_room (Nat.le_of_ble_eq_true rfl)) dX5_message_107 ⟨Nat.le_of_ble_eq_true rfl, Nat.le_of_ble_eq_true rfl⟩) hS (fun _ h24 H locs hw hP hS => ?_)
                  refine lv_aload_n hx hb dX5_message_110 rfl (lv_at hl 1 rfl) ?_
                  refine xg_getr (C := RX5) (TC := TX5) (N := 9) hx hb hts iX5 hown hK hP xs0 rfl 4 (by decide) f_37 (fun _ h9 => h9) rfl dX5_message_111 ?_
                  refine lv_iconst (v := 0) hx hb dX5_message_114 (by decide) ?_
                  refine lv_iconst (v := 0) hx hb dX5_message_115 (by decide) ?_
                  refine xg_calli (va_runV (As := [.int (0), .int (0)]) (rest := []) ⟨hx, hb, hml, hown, hts⟩ (c_X1_enter l hl9 hA (0 : Int32) (0 : Int32) hw) (cwV 2 hts gX5_message_X1_enter rfl rfl rfl (by decide +kernel) ⟨Nat.le_of_ble_eq_true rfl, Nat.le_of_ble_eq_true rfl⟩) (xg_preV hB0 hP hK hN hS xs6 rfl) rfl rfl hl.1 rfl (lv_room (Nat.le_of_ble_eq_true rfl)) dX5_message_116 ⟨Nat.le_of_ble_eq_true rfl, Nat.le_of_ble_eq_true rfl⟩) hS (fun r25 h26 H locs hw hP hS => ?_)
                  refine vx_ret ?_
                  exact xg_irets hx hb hr rfl hlocks hB0 hP hK hN hS dX5_message_119 (by decide) (by decide) hw
            · have hw := hw.2 c18
              exact xg_throw (cls := "java/lang/IllegalStateException") (text := "no more messages can come") (ik := 122) (is := 124) (ic := 126) hx hb hl9 hown (by decide +kernel) (hts (.classLink RX5 122 "java/lang/IllegalStateException") (by decide +kernel)) (hts (.initialized "java/lang/IllegalStateException") (by decide +kernel)) (fun w hw9 => hts w (by revert w hw9; decide +kernel)) (by decide +kernel) (by decide +kernel) (by decide +kernel) hB0 hP hK hN hS (by rw [hml]; exact hl.1) dX5_message_70 dX5_message_73 dX5_message_74 dX5_message_76 dX5_message_79 ht (Nat.le_of_ble_eq_true rfl) (Nat.le_of_ble_eq_true rfl) (Nat.le_of_ble_eq_true rfl) (Nat.le_of_ble_eq_true rfl) hlocks (by decide) (by decide) hw
          · have hw := hw.1 c15
            exact xg_throw (cls := "java/lang/IllegalArgumentException") (text := "facility, severity, text or length is out of range") (ik := 63) (is := 116) (ic := 67) hx hb hl9 hown (by decide +kernel) (hts (.classLink RX5 63 "java/lang/IllegalArgumentException") (by decide +kernel)) (hts (.initialized "java/lang/IllegalArgumentException") (by decide +kernel)) (fun w hw9 => hts w (by revert w hw9; decide +kernel)) (by decide +kernel) (by decide +kernel) (by decide +kernel) hB0 hP hK hN hS (by rw [hml]; exact hl.1) dX5_message_50 dX5_message_53 dX5_message_54 dX5_message_56 dX5_message_59 ht (Nat.le_of_ble_eq_true rfl) (Nat.le_of_ble_eq_true rfl) (Nat.le_of_ble_eq_true rfl) (Nat.le_of_ble_eq_true rfl) hlocks (by decide) (by decide) hw
set_option maxHeartbeats 4000000 in
set_option maxRecDepth 100000 in
theorem c_X5_rotationsOfAllFiles (l : Launch) (hl9 : l.stackTraces = false) {B0 : Nat} {ad : Nat → Nat} {D : va_G} {T : Nat → ClassId} (hA : XA B0 ad) {h : xH} {K : Int32 → xH → Prop} (hw : w_X5_rotationsOfAllFiles h K) : XM l yX5_rotationsOfAllFiles wsX5_rotationsOfAllFiles ({ frames := 0, cells := 0, slots := 0, locals := 0 } : Room) B0 ad D T h [.ref (ad (0))] xei K 0 0 := by
  unfold XM
  refine Met.ofW (cc := cX5_rotationsOfAllFiles) (maxL := 3) (ret := (some .int)) (by decide) rfl ?_
  intro p e s m args below meth c s₁ B hml hv
  obtain ⟨rfl, hB0, hP, hK, hN⟩ := hv
  have hx := B.exec
  have hb := B.bytes
  have hr := B.returns
  have hts := atoms_spec (ws := wsX5_rotationsOfAllFiles) B.pre
  have hown : s.vm.findClass RX5 = some m.cls := findClass_of_methodNamed B.named
  have hlocks := B.notSynchronized
  have iX2 : ∀ w ∈ u_ws RX2 TX2 10, w ∈ wsX5_rotationsOfAllFiles := by decide +kernel
  have iX5 : ∀ w ∈ u_ws RX5 TX5 9, w ∈ wsX5_rotationsOfAllFiles := by decide +kernel
  have f_23 := hts (.fieldLink RX5 23 "LogSpooler" "files" "[LLogSpooler$LogFile;") (by decide +kernel)
  have f_295 := hts (.fieldLink RX5 295 "LogSpooler$LogFile" "rotations" "I") (by decide +kernel)
  have hS : va_S (fun q => B0 ≤ q) s.heap s.heap [] := va_S.rf
  have hl := lv_entry ([.ref (ad (0))]) (n := 3) (Nat.le_of_ble_eq_true rfl)
  rw [lg_entry_eq]
  generalize (lg_sl ([.ref (ad (0))]) ++ List.replicate (3 - (lg_sl ([.ref (ad (0))])).length) Slot.unset).toArray = ls at hl ⊢
  have hl : lv_has ls 3 [(0, .ref (ad (0)))] := hl
  have j_4 : ∀ (n : Nat) (v1 : Int32) (v2 : Int32) (h : xH) (H : Heap) (locs : List Loc) (ls : Array Slot), w_X5_rotationsOfAllFiles_4 K n v1 v2 h → XP ad D T h H → va_S (fun q => B0 ≤ q) s.heap H locs → lv_has ls 3 [(0, .ref (ad (0))), (1, .int (v1)), (2, .int (v2))] → W p l e (headSpec wsX5_rotationsOfAllFiles ({ frames := 0, cells := 0, slots := 0, locals := 0 } : Room)).room s m ([.ref (ad (0))] : List Value).toArray below meth c H locs 0 0 (MQ below (XQ B0 ad D T xei K) ([.ref (ad (0))] : List Value).toArray s 0 0 (fun q => B0 ≤ q)) (F0 m 4 ls []) := by
    intro n
    induction n with
    | zero => intro v1 v2 h H locs ls hw; exact hw.elim
    | succ n9 ih =>
      intro v1 v2 h H locs ls hw hP hS hl 
      rw [w_X5_rotationsOfAllFiles_4_s] at hw
      refine lv_iload_n hx hb dX5_rotationsOfAllFiles_4 rfl (lv_at hl 2 rfl) ?_
      refine lv_iconst (v := 4) hx hb dX5_rotationsOfAllFiles_5 (by decide) ?_
      refine lv_icmp_ge (tgt := 27) hx hb dX5_rotationsOfAllFiles_6 (by decide) (fun c1 => ?_) (fun c1 => ?_)
      · have hw := hw.1 c1
        refine lv_iload_n hx hb dX5_rotationsOfAllFiles_27 rfl (lv_at hl 1 rfl) ?_
        exact xg_irets hx hb hr rfl hlocks hB0 hP hK hN hS dX5_rotationsOfAllFiles_28 (by decide) (by decide) hw
      · have hw := hw.2 c1
        refine lv_iload_n hx hb dX5_rotationsOfAllFiles_9 rfl (lv_at hl 1 rfl) ?_
        refine lv_aload_n hx hb dX5_rotationsOfAllFiles_10 rfl (lv_at hl 0 rfl) ?_
        refine xg_getr (C := RX5) (TC := TX5) (N := 9) hx hb hts iX5 hown hK hP xs0 rfl 2 (by decide) f_23 (fun _ h9 => h9) rfl dX5_rotationsOfAllFiles_11 ?_
        refine lv_iload_n hx hb dX5_rotationsOfAllFiles_14 rfl (lv_at hl 2 rfl) ?_
        obtain ⟨hi2, hw⟩ := hw
        refine xg_aald (t := 5) (C := RX2) hx hb hK hP xs3 rfl hi2 dX5_rotationsOfAllFiles_15 (fun hb3 => ?_)
        have hk4 : 30 ≤ (30 + v2.toNatClampNeg) ∧ (30 + v2.toNatClampNeg) < 34 := by omega
        refine xg_get (C := RX2) (TC := TX2) (N := 10) hx hb hts iX2 hown hK hP (xsF hk4) rfl 9 (by decide) f_295 (fun _ h9 => h9) rfl dX5_rotationsOfAllFiles_16 ?_
        refine lv_iadd hx hb dX5_rotationsOfAllFiles_19 ?_
        refine lv_topi (fun x5 ex5 => ?_)
        have hw := hw x5 ex5
        refine lv_istore_n (lv' := [(1, .int (x5)), (0, .ref (ad (0))), (2, .int (v2))]) hx hb dX5_rotationsOfAllFiles_20 rfl hl (by decide) rfl (fun ls hl => ?_)
        obtain ⟨x6, ex6⟩ : ∃ z : Int32, z = v2 + 1 := ⟨_, rfl⟩
        have hw := hw x6 ex6
        refine lv_iinc (v := x6) (lv' := [(2, .int (x6)), (1, .int (x5)), (0, .ref (ad (0)))]) hx hb dX5_rotationsOfAllFiles_21 hl (k := 2) rfl (by rw [ex6]; rfl) (by decide) rfl (fun ls hl => ?_)
        refine lv_goto (tgt := 4) hx hb dX5_rotationsOfAllFiles_24 (by decide) ?_
        exact ih (x5) (x6) _ _ _ _ hw hP hS (lv_sub hl [2, 1, 0] rfl)
  unfold w_X5_rotationsOfAllFiles at hw
  refine lv_iconst (v := 0) hx hb dX5_rotationsOfAllFiles_0 (by decide) ?_
  refine lv_istore_n (lv' := [(1, .int (0)), (0, .ref (ad (0)))]) hx hb dX5_rotationsOfAllFiles_1 rfl hl (by decide) rfl (fun ls hl => ?_)
  refine lv_iconst (v := 0) hx hb dX5_rotationsOfAllFiles_2 (by decide) ?_
  refine lv_istore_n (lv' := [(2, .int (0)), (1, .int (0)), (0, .ref (ad (0)))]) hx hb dX5_rotationsOfAllFiles_3 rfl hl (by decide) rfl (fun ls hl => ?_)
  obtain ⟨n9, hw⟩ := hw
  exact j_4 n9 (0) (0) _ _ _ _ hw hP hS (lv_sub hl [2, 1, 0] rfl)
set_option maxHeartbeats 4000000 in
set_option maxRecDepth 100000 in
theorem c_X5_giveTokens (l : Launch) (hl9 : l.stackTraces = false) {B0 : Nat} {ad : Nat → Nat} {D : va_G} {T : Nat → ClassId} (hA : XA B0 ad) {h : xH} {K : Unit → xH → Prop} (hw : w_X5_giveTokens h K) : XM l yX5_giveTokens wsX5_giveTokens ({ frames := 1, cells := 0, slots := 0, locals := 21 } : Room) B0 ad D T h [.ref (ad (0))] xev K 0 0 := by
  unfold XM
  refine Met.ofW (cc := cX5_giveTokens) (maxL := 2) (ret := none) (by decide) rfl ?_
  intro p e s m args below meth c s₁ B hml hv
  obtain ⟨rfl, hB0, hP, hK, hN⟩ := hv
  have hx := B.exec
  have hb := B.bytes
  have hr := B.returns
  have hts := atoms_spec (ws := wsX5_giveTokens) B.pre
  have hown : s.vm.findClass RX5 = some m.cls := findClass_of_methodNamed B.named
  have hlocks := B.notSynchronized
  have iX5 : ∀ w ∈ u_ws RX5 TX5 9, w ∈ wsX5_giveTokens := by decide +kernel
  have f_11 := hts (.fieldLink RX5 11 "LogSpooler" "senders" "[LLogSpooler$Sender;") (by decide +kernel)
  have f_45 := hts (.fieldLink RX5 45 "LogSpooler" "burst" "I") (by decide +kernel)
  have hS : va_S (fun q => B0 ≤ q) s.heap s.heap [] := va_S.rf
  have hl := lv_entry ([.ref (ad (0))]) (n := 2) (Nat.le_of_ble_eq_true rfl)
  rw [lg_entry_eq]
  generalize (lg_sl ([.ref (ad (0))]) ++ List.replicate (2 - (lg_sl ([.ref (ad (0))])).length) Slot.unset).toArray = ls at hl ⊢
  have hl : lv_has ls 2 [(0, .ref (ad (0)))] := hl
  have j_2 : ∀ (n : Nat) (v1 : Int32) (h : xH) (H : Heap) (locs : List Loc) (ls : Array Slot), w_X5_giveTokens_2 K n v1 h → XP ad D T h H → va_S (fun q => B0 ≤ q) s.heap H locs → lv_has ls 2 [(0, .ref (ad (0))), (1, .int (v1))] → W p l e (headSpec wsX5_giveTokens ({ frames := 1, cells := 0, slots := 0, locals := 21 } : Room)).room s m ([.ref (ad (0))] : List Value).toArray below meth c H locs 0 0 (MQ below (XQ B0 ad D T xev K) ([.ref (ad (0))] : List Value).toArray s 0 0 (fun q => B0 ≤ q)) (F0 m 2 ls []) := by
    intro n
    induction n with
    | zero => intro v1 h H locs ls hw; exact hw.elim
    | succ n9 ih =>
      intro v1 h H locs ls hw hP hS hl 
      rw [w_X5_giveTokens_2_s] at hw
      refine lv_iload_n hx hb dX5_giveTokens_2 rfl (lv_at hl 1 rfl) ?_
      refine lv_bipush (v := 6) hx hb dX5_giveTokens_3 (by decide) ?_
      refine lv_icmp_ge (tgt := 27) hx hb dX5_giveTokens_5 (by decide) (fun c1 => ?_) (fun c1 => ?_)
      · have hw := hw.1 c1
        exact xg_vrets hx hb hr hlocks hB0 hP hK hN hS dX5_giveTokens_27 (by decide) (by decide) hw
      · have hw := hw.2 c1
        refine lv_aload_n hx hb dX5_giveTokens_8 rfl (lv_at hl 0 rfl) ?_
        refine xg_getr (C := RX5) (TC := TX5) (N := 9) hx hb hts iX5 hown hK hP xs0 rfl 0 (by decide) f_11 (fun _ h9 => h9) rfl dX5_giveTokens_9 ?_
        refine lv_iload_n hx hb dX5_giveTokens_12 rfl (lv_at hl 1 rfl) ?_
        obtain ⟨hi2, hw⟩ := hw
        refine xg_aald (t := 3) (C := RX4) hx hb hK hP xs1 rfl hi2 dX5_giveTokens_13 (fun hb3 => ?_)
        have hk4 : 10 ≤ (10 + v1.toNatClampNeg) ∧ (10 + v1.toNatClampNeg) < 16 := by omega
        refine lv_aload_n hx hb dX5_giveTokens_14 rfl (lv_at hl 0 rfl) ?_
        refine xg_get (C := RX5) (TC := TX5) (N := 9) hx hb hts iX5 hown hK hP xs0 rfl 6 (by decide) f_45 (fun _ h9 => h9) rfl dX5_giveTokens_15 ?_
        refine xg_callv (va_runV (As := [.int ((h 0 6))]) (rest := []) ⟨hx, hb, hml, hown, hts⟩ (c_X4_gainToken l hl9 hA (10 + v1.toNatClampNeg) hk4 (h 0 6) hw) (cwV 1 hts gX5_giveTokens_X4_gainToken rfl rfl rfl (by decide +kernel) ⟨Nat.le_of_ble_eq_true rfl, Nat.le_of_ble_eq_true rfl⟩) (xg_preV hB0 hP hK hN hS (xsS hk4) rfl) rfl rfl hl.1 rfl (lv_room (Nat.le_of_ble_eq_true rfl)) dX5_giveTokens_18 ⟨Nat.le_of_ble_eq_true rfl, Nat.le_of_ble_eq_true rfl⟩) hS (fun _ h6 H locs hw hP hS => ?_)
        obtain ⟨x7, ex7⟩ : ∃ z : Int32, z = v1 + 1 := ⟨_, rfl⟩
        have hw := hw x7 ex7
        refine lv_iinc (v := x7) (lv' := [(1, .int (x7)), (0, .ref (ad (0)))]) hx hb dX5_giveTokens_21 hl (k := 1) rfl (by rw [ex7]; rfl) (by decide) rfl (fun ls hl => ?_)
        refine lv_goto (tgt := 2) hx hb dX5_giveTokens_24 (by decide) ?_
        exact ih (x7) _ _ _ _ hw hP hS (lv_sub hl [1, 0] rfl)
  unfold w_X5_giveTokens at hw
  refine lv_iconst (v := 0) hx hb dX5_giveTokens_0 (by decide) ?_
  refine lv_istore_n (lv' := [(1, .int (0)), (0, .ref (ad (0)))]) hx hb dX5_giveTokens_1 rfl hl (by decide) rfl (fun ls hl => ?_)
  obtain ⟨n9, hw⟩ := hw
  exact j_2 n9 (0) _ _ _ _ hw hP hS (lv_sub hl [1, 0] rfl)
set_option maxHeartbeats 4000000 in
set_option maxRecDepth 100000 in
theorem c_X5_firstWithDueRepeats (l : Launch) (hl9 : l.stackTraces = false) {B0 : Nat} {ad : Nat → Nat} {D : va_G} {T : Nat → ClassId} (hA : XA B0 ad) {h : xH} {K : Option Nat → xH → Prop} (hw : w_X5_firstWithDueRepeats h K) : XM l yX5_firstWithDueRepeats wsX5_firstWithDueRepeats ({ frames := 0, cells := 0, slots := 0, locals := 0 } : Room) B0 ad D T h [.ref (ad (0))] (xeq ad) K 0 0 := by
  unfold XM
  refine Met.ofW (cc := cX5_firstWithDueRepeats) (maxL := 5) (ret := (some (.object "LogSpooler$Sender"))) (by decide) rfl ?_
  intro p e s m args below meth c s₁ B hml hv
  obtain ⟨rfl, hB0, hP, hK, hN⟩ := hv
  have hx := B.exec
  have hb := B.bytes
  have hr := B.returns
  have hts := atoms_spec (ws := wsX5_firstWithDueRepeats) B.pre
  have hown : s.vm.findClass RX5 = some m.cls := findClass_of_methodNamed B.named
  have hlocks := B.notSynchronized
  have iX4 : ∀ w ∈ u_ws RX4 TX4 9, w ∈ wsX5_firstWithDueRepeats := by decide +kernel
  have iX5 : ∀ w ∈ u_ws RX5 TX5 9, w ∈ wsX5_firstWithDueRepeats := by decide +kernel
  have f_11 := hts (.fieldLink RX5 11 "LogSpooler" "senders" "[LLogSpooler$Sender;") (by decide +kernel)
  have f_41 := hts (.fieldLink RX5 41 "LogSpooler" "now" "I") (by decide +kernel)
  have f_51 := hts (.fieldLink RX5 51 "LogSpooler" "foldTime" "I") (by decide +kernel)
  have f_207 := hts (.fieldLink RX5 207 "LogSpooler$Sender" "untoldRepeats" "I") (by decide +kernel)
  have f_289 := hts (.fieldLink RX5 289 "LogSpooler$Sender" "firstRepeat" "I") (by decide +kernel)
  have hS : va_S (fun q => B0 ≤ q) s.heap s.heap [] := va_S.rf
  have hl := lv_entry ([.ref (ad (0))]) (n := 5) (Nat.le_of_ble_eq_true rfl)
  rw [lg_entry_eq]
  generalize (lg_sl ([.ref (ad (0))]) ++ List.replicate (5 - (lg_sl ([.ref (ad (0))])).length) Slot.unset).toArray = ls at hl ⊢
  have hl : lv_has ls 5 [(0, .ref (ad (0)))] := hl
  have j_69 : ∀ (R9 : Option Nat → Int32 → xH → Prop) (hR9 : ∀ (v1 : Option Nat) (v2 : Int32) (h : xH) (H : Heap) (locs : List Loc) (ls : Array Slot), R9 v1 v2 h → XP ad D T h H → va_S (fun q => B0 ≤ q) s.heap H locs → lv_has ls 5 [(0, .ref (ad (0))), (1, va_rf ((v1).map ad)), (2, .int (v2))] → (∀ k : Nat, v1 = some k → 10 ≤ k ∧ k < 16) → W p l e (headSpec wsX5_firstWithDueRepeats ({ frames := 0, cells := 0, slots := 0, locals := 0 } : Room)).room s m ([.ref (ad (0))] : List Value).toArray below meth c H locs 0 0 (MQ below (XQ B0 ad D T (xeq ad) K) ([.ref (ad (0))] : List Value).toArray s 0 0 (fun q => B0 ≤ q)) (F0 m 4 ls [])) (v1 : Option Nat) (v2 : Int32) (h : xH) (H : Heap) (locs : List Loc) (ls : Array Slot), w_X5_firstWithDueRepeats_69 K R9 v1 v2 h → XP ad D T h H → va_S (fun q => B0 ≤ q) s.heap H locs → lv_has ls 5 [(0, .ref (ad (0))), (1, va_rf ((v1).map ad)), (2, .int (v2))] → (∀ k : Nat, v1 = some k → 10 ≤ k ∧ k < 16) → W p l e (headSpec wsX5_firstWithDueRepeats ({ frames := 0, cells := 0, slots := 0, locals := 0 } : Room)).room s m ([.ref (ad (0))] : List Value).toArray below meth c H locs 0 0 (MQ below (XQ B0 ad D T (xeq ad) K) ([.ref (ad (0))] : List Value).toArray s 0 0 (fun q => B0 ≤ q)) (F0 m 69 ls []) := by
    intro R9 hR9 v1 v2 h H locs ls hw hP hS hl hb_v1
    unfold w_X5_firstWithDueRepeats_69 at hw
    obtain ⟨x13, ex13⟩ : ∃ z : Int32, z = v2 + 1 := ⟨_, rfl⟩
    have hw := hw x13 ex13
    refine lv_iinc (v := x13) (lv' := [(2, .int (x13)), (0, .ref (ad (0))), (1, va_rf ((v1).map ad))]) hx hb dX5_firstWithDueRepeats_69 hl (k := 2) rfl (by rw [ex13]; rfl) (by decide) (by simp [xcatq]) (fun ls hl => ?_)
    refine lv_goto (tgt := 4) hx hb dX5_firstWithDueRepeats_72 (by decide) ?_
    exact hR9 (v1) (x13) _ _ _ _ hw hP hS (lv_sub hl [1, 2, 0] rfl) hb_v1
  have j_67 : ∀ (R9 : Option Nat → Int32 → xH → Prop) (hR9 : ∀ (v1 : Option Nat) (v2 : Int32) (h : xH) (H : Heap) (locs : List Loc) (ls : Array Slot), R9 v1 v2 h → XP ad D T h H → va_S (fun q => B0 ≤ q) s.heap H locs → lv_has ls 5 [(0, .ref (ad (0))), (1, va_rf ((v1).map ad)), (2, .int (v2))] → (∀ k : Nat, v1 = some k → 10 ≤ k ∧ k < 16) → W p l e (headSpec wsX5_firstWithDueRepeats ({ frames := 0, cells := 0, slots := 0, locals := 0 } : Room)).room s m ([.ref (ad (0))] : List Value).toArray below meth c H locs 0 0 (MQ below (XQ B0 ad D T (xeq ad) K) ([.ref (ad (0))] : List Value).toArray s 0 0 (fun q => B0 ≤ q)) (F0 m 4 ls [])) (v2 : Int32) (v3 : Nat) (h : xH) (H : Heap) (locs : List Loc) (ls : Array Slot), w_X5_firstWithDueRepeats_67 K R9 v2 v3 h → XP ad D T h H → va_S (fun q => B0 ≤ q) s.heap H locs → lv_has ls 5 [(0, .ref (ad (0))), (2, .int (v2)), (3, .ref (ad (v3)))] → (10 ≤ v3 ∧ v3 < 16) → W p l e (headSpec wsX5_firstWithDueRepeats ({ frames := 0, cells := 0, slots := 0, locals := 0 } : Room)).room s m ([.ref (ad (0))] : List Value).toArray below meth c H locs 0 0 (MQ below (XQ B0 ad D T (xeq ad) K) ([.ref (ad (0))] : List Value).toArray s 0 0 (fun q => B0 ≤ q)) (F0 m 67 ls []) := by
    intro R9 hR9 v2 v3 h H locs ls hw hP hS hl hb_v3
    unfold w_X5_firstWithDueRepeats_67 at hw
    refine lv_aload_n hx hb dX5_firstWithDueRepeats_67 rfl (lv_at hl 2 rfl) ?_
    refine lv_astore_n (lv' := [(1, .ref (ad (v3))), (0, .ref (ad (0))), (2, .int (v2)), (3, .ref (ad (v3)))]) hx hb dX5_firstWithDueRepeats_68 rfl hl (by decide) rfl (fun ls hl => ?_)
    exact j_69 _ (hR9) (some (v3)) (v2) _ _ _ _ hw hP hS (lv_sub hl [1, 0, 2] rfl) (fun _ hz => by cases hz; exact hb_v3)
  have j_45 : ∀ (R9 : Option Nat → Int32 → xH → Prop) (hR9 : ∀ (v1 : Option Nat) (v2 : Int32) (h : xH) (H : Heap) (locs : List Loc) (ls : Array Slot), R9 v1 v2 h → XP ad D T h H → va_S (fun q => B0 ≤ q) s.heap H locs → lv_has ls 5 [(0, .ref (ad (0))), (1, va_rf ((v1).map ad)), (2, .int (v2))] → (∀ k : Nat, v1 = some k → 10 ≤ k ∧ k < 16) → W p l e (headSpec wsX5_firstWithDueRepeats ({ frames := 0, cells := 0, slots := 0, locals := 0 } : Room)).room s m ([.ref (ad (0))] : List Value).toArray below meth c H locs 0 0 (MQ below (XQ B0 ad D T (xeq ad) K) ([.ref (ad (0))] : List Value).toArray s 0 0 (fun q => B0 ≤ q)) (F0 m 4 ls [])) (v1 : Option Nat) (v2 : Int32) (v3 : Nat) (s0 : Int32) (h : xH) (H : Heap) (locs : List Loc) (ls : Array Slot), w_X5_firstWithDueRepeats_45 K R9 v1 v2 v3 s0 h → XP ad D T h H → va_S (fun q => B0 ≤ q) s.heap H locs → lv_has ls 5 [(0, .ref (ad (0))), (1, va_rf ((v1).map ad)), (2, .int (v2)), (3, .ref (ad (v3)))] → (∀ k : Nat, v1 = some k → 10 ≤ k ∧ k < 16) → (10 ≤ v3 ∧ v3 < 16) → W p l e (headSpec wsX5_firstWithDueRepeats ({ frames := 0, cells := 0, slots := 0, locals := 0 } : Room)).room s m ([.ref (ad (0))] : List Value).toArray below meth c H locs 0 0 (MQ below (XQ B0 ad D T (xeq ad) K) ([.ref (ad (0))] : List Value).toArray s 0 0 (fun q => B0 ≤ q)) (F0 m 45 ls [.int (s0)]) := by
    intro R9 hR9 v1 v2 v3 s0 h H locs ls hw hP hS hl hb_v1 hb_v3
    unfold w_X5_firstWithDueRepeats_45 at hw
    refine lv_istore (lv' := [(4, .int (s0)), (0, .ref (ad (0))), (1, va_rf ((v1).map ad)), (2, .int (v2)), (3, .ref (ad (v3)))]) hx hb dX5_firstWithDueRepeats_45 hl (by decide) rfl (fun ls hl => ?_)
    refine lv_iload hx hb dX5_firstWithDueRepeats_47 (lv_at hl 0 rfl) ?_
    refine lv_if_eq (tgt := 69) hx hb dX5_firstWithDueRepeats_49 (by decide) (fun c9 => ?_) (fun c9 => ?_)
    · have hw := hw.1 c9
      exact j_69 _ (hR9) (v1) (v2) _ _ _ _ hw hP hS (lv_sub hl [1, 2, 3] rfl) hb_v1
    · have hw := hw.2 c9
      rcases v1 with _ | k10
      · have hw := hw.1 rfl
        have hl : lv_has ls 5 [(4, .int (s0)), (0, .ref (ad (0))), (1, .null), (2, .int (v2)), (3, .ref (ad (v3)))] := hl
        refine lv_aload_nN hx hb dX5_firstWithDueRepeats_52 rfl (lv_at hl 2 rfl) ?_
        refine lv_ifnullN (tgt := 67) hx hb dX5_firstWithDueRepeats_53 (by decide) ?_
        exact j_67 _ (hR9) (v2) (v3) _ _ _ _ hw hP hS (lv_sub hl [1, 3, 4] rfl) hb_v3
      · have hw := hw.2 k10 rfl
        have hk11 := hb_v1 k10 rfl
        have hl : lv_has ls 5 [(4, .int (s0)), (0, .ref (ad (0))), (1, .ref (ad (k10))), (2, .int (v2)), (3, .ref (ad (v3)))] := hl
        refine lv_aload_n hx hb dX5_firstWithDueRepeats_52 rfl (lv_at hl 2 rfl) ?_
        refine lv_ifnull hx hb dX5_firstWithDueRepeats_53 ?_
        refine lv_aload_n hx hb dX5_firstWithDueRepeats_56 rfl (lv_at hl 4 rfl) ?_
        refine xg_get (C := RX4) (TC := TX4) (N := 9) hx hb hts iX4 hown hK hP (xsS hb_v3) rfl 3 (by decide) f_289 (fun _ h9 => h9) rfl dX5_firstWithDueRepeats_57 ?_
        refine lv_aload_n hx hb dX5_firstWithDueRepeats_60 rfl (lv_at hl 2 rfl) ?_
        refine xg_get (C := RX4) (TC := TX4) (N := 9) hx hb hts iX4 hown hK hP (xsS hk11) rfl 3 (by decide) f_289 (fun _ h9 => h9) rfl dX5_firstWithDueRepeats_61 ?_
        refine lv_icmp_ge (tgt := 69) hx hb dX5_firstWithDueRepeats_64 (by decide) (fun c12 => ?_) (fun c12 => ?_)
        · have hw := hw.1 c12
          exact j_69 _ (hR9) (some (k10)) (v2) _ _ _ _ hw hP hS (lv_sub hl [1, 2, 3] rfl) (fun _ hz => by cases hz; exact hk11)
        · have hw := hw.2 c12
          exact j_67 _ (hR9) (v2) (v3) _ _ _ _ hw hP hS (lv_sub hl [1, 3, 4] rfl) hb_v3
  have j_44 : ∀ (R9 : Option Nat → Int32 → xH → Prop) (hR9 : ∀ (v1 : Option Nat) (v2 : Int32) (h : xH) (H : Heap) (locs : List Loc) (ls : Array Slot), R9 v1 v2 h → XP ad D T h H → va_S (fun q => B0 ≤ q) s.heap H locs → lv_has ls 5 [(0, .ref (ad (0))), (1, va_rf ((v1).map ad)), (2, .int (v2))] → (∀ k : Nat, v1 = some k → 10 ≤ k ∧ k < 16) → W p l e (headSpec wsX5_firstWithDueRepeats ({ frames := 0, cells := 0, slots := 0, locals := 0 } : Room)).room s m ([.ref (ad (0))] : List Value).toArray below meth c H locs 0 0 (MQ below (XQ B0 ad D T (xeq ad) K) ([.ref (ad (0))] : List Value).toArray s 0 0 (fun q => B0 ≤ q)) (F0 m 4 ls [])) (v1 : Option Nat) (v2 : Int32) (v3 : Nat) (h : xH) (H : Heap) (locs : List Loc) (ls : Array Slot), w_X5_firstWithDueRepeats_44 K R9 v1 v2 v3 h → XP ad D T h H → va_S (fun q => B0 ≤ q) s.heap H locs → lv_has ls 5 [(0, .ref (ad (0))), (1, va_rf ((v1).map ad)), (2, .int (v2)), (3, .ref (ad (v3)))] → (∀ k : Nat, v1 = some k → 10 ≤ k ∧ k < 16) → (10 ≤ v3 ∧ v3 < 16) → W p l e (headSpec wsX5_firstWithDueRepeats ({ frames := 0, cells := 0, slots := 0, locals := 0 } : Room)).room s m ([.ref (ad (0))] : List Value).toArray below meth c H locs 0 0 (MQ below (XQ B0 ad D T (xeq ad) K) ([.ref (ad (0))] : List Value).toArray s 0 0 (fun q => B0 ≤ q)) (F0 m 44 ls []) := by
    intro R9 hR9 v1 v2 v3 h H locs ls hw hP hS hl hb_v1 hb_v3
    unfold w_X5_firstWithDueRepeats_44 at hw
    refine lv_iconst (v := 0) hx hb dX5_firstWithDueRepeats_44 (by decide) ?_
    exact j_45 _ (hR9) (v1) (v2) (v3) (0) _ _ _ _ hw hP hS (lv_sub hl [0, 1, 2, 3] rfl) hb_v1 hb_v3
  have j_4 : ∀ (n : Nat) (v1 : Option Nat) (v2 : Int32) (h : xH) (H : Heap) (locs : List Loc) (ls : Array Slot), w_X5_firstWithDueRepeats_4 K n v1 v2 h → XP ad D T h H → va_S (fun q => B0 ≤ q) s.heap H locs → lv_has ls 5 [(0, .ref (ad (0))), (1, va_rf ((v1).map ad)), (2, .int (v2))] → (∀ k : Nat, v1 = some k → 10 ≤ k ∧ k < 16) → W p l e (headSpec wsX5_firstWithDueRepeats ({ frames := 0, cells := 0, slots := 0, locals := 0 } : Room)).room s m ([.ref (ad (0))] : List Value).toArray below meth c H locs 0 0 (MQ below (XQ B0 ad D T (xeq ad) K) ([.ref (ad (0))] : List Value).toArray s 0 0 (fun q => B0 ≤ q)) (F0 m 4 ls []) := by
    intro n
    induction n with
    | zero => intro v1 v2 h H locs ls hw; exact hw.elim
    | succ n9 ih =>
      intro v1 v2 h H locs ls hw hP hS hl hb_v1
      rw [w_X5_firstWithDueRepeats_4_s] at hw
      refine lv_iload_n hx hb dX5_firstWithDueRepeats_4 rfl (lv_at hl 2 rfl) ?_
      refine lv_bipush (v := 6) hx hb dX5_firstWithDueRepeats_5 (by decide) ?_
      refine lv_icmp_ge (tgt := 75) hx hb dX5_firstWithDueRepeats_7 (by decide) (fun c1 => ?_) (fun c1 => ?_)
      · have hw := hw.1 c1
        rcases v1 with _ | k2
        · have hw := hw.1 rfl
          have hl : lv_has ls 5 [(0, .ref (ad (0))), (1, .null), (2, .int (v2))] := hl
          refine lv_aload_nN hx hb dX5_firstWithDueRepeats_75 rfl (lv_at hl 1 rfl) ?_
          exact xg_arets (r := none) hx hb hr (Or.inl ⟨_, rfl⟩) (Or.inl rfl) rfl hlocks hB0 hP hK hN hS dX5_firstWithDueRepeats_76 (by decide) (by decide) hw
        · have hw := hw.2 k2 rfl
          have hk3 := hb_v1 k2 rfl
          have hl : lv_has ls 5 [(0, .ref (ad (0))), (1, .ref (ad (k2))), (2, .int (v2))] := hl
          refine lv_aload_n hx hb dX5_firstWithDueRepeats_75 rfl (lv_at hl 1 rfl) ?_
          exact xg_arets (r := (some k2)) hx hb hr (Or.inl ⟨_, rfl⟩) (Or.inr ⟨_, rfl⟩) rfl hlocks hB0 hP hK hN hS dX5_firstWithDueRepeats_76 (by decide) (by decide) hw
      · have hw := hw.2 c1
        refine lv_aload_n hx hb dX5_firstWithDueRepeats_10 rfl (lv_at hl 0 rfl) ?_
        refine xg_getr (C := RX5) (TC := TX5) (N := 9) hx hb hts iX5 hown hK hP xs0 rfl 0 (by decide) f_11 (fun _ h9 => h9) rfl dX5_firstWithDueRepeats_11 ?_
        refine lv_iload_n hx hb dX5_firstWithDueRepeats_14 rfl (lv_at hl 2 rfl) ?_
        obtain ⟨hi4, hw⟩ := hw
        refine xg_aald (t := 3) (C := RX4) hx hb hK hP xs1 rfl hi4 dX5_firstWithDueRepeats_15 (fun hb5 => ?_)
        have hk6 : 10 ≤ (10 + v2.toNatClampNeg) ∧ (10 + v2.toNatClampNeg) < 16 := by omega
        refine lv_astore_n (lv' := [(3, .ref (ad ((10 + v2.toNatClampNeg)))), (0, .ref (ad (0))), (1, va_rf ((v1).map ad)), (2, .int (v2))]) hx hb dX5_firstWithDueRepeats_16 rfl hl (by decide) rfl (fun ls hl => ?_)
        refine lv_aload_n hx hb dX5_firstWithDueRepeats_17 rfl (lv_at hl 0 rfl) ?_
        refine xg_get (C := RX4) (TC := TX4) (N := 9) hx hb hts iX4 hown hK hP (xsS hk6) rfl 2 (by decide) f_207 (fun _ h9 => h9) rfl dX5_firstWithDueRepeats_18 ?_
        refine lv_if_le (tgt := 44) hx hb dX5_firstWithDueRepeats_21 (by decide) (fun c7 => ?_) (fun c7 => ?_)
        · have hw := hw.1 c7
          exact j_44 _ (ih) (v1) (v2) ((10 + v2.toNatClampNeg)) _ _ _ _ hw hP hS (lv_sub hl [1, 2, 3, 0] rfl) hb_v1 hk6
        · have hw := hw.2 c7
          refine lv_aload_n hx hb dX5_firstWithDueRepeats_24 rfl (lv_at hl 1 rfl) ?_
          refine xg_get (C := RX5) (TC := TX5) (N := 9) hx hb hts iX5 hown hK hP xs0 rfl 5 (by decide) f_41 (fun _ h9 => h9) rfl dX5_firstWithDueRepeats_25 ?_
          refine lv_aload_n hx hb dX5_firstWithDueRepeats_28 rfl (lv_at hl 0 rfl) ?_
          refine xg_get (C := RX4) (TC := TX4) (N := 9) hx hb hts iX4 hown hK hP (xsS hk6) rfl 3 (by decide) f_289 (fun _ h9 => h9) rfl dX5_firstWithDueRepeats_29 ?_
          refine lv_isub hx hb dX5_firstWithDueRepeats_32 ?_
          refine lv_aload_n hx hb dX5_firstWithDueRepeats_33 rfl (lv_at hl 1 rfl) ?_
          refine xg_get (C := RX5) (TC := TX5) (N := 9) hx hb hts iX5 hown hK hP xs0 rfl 8 (by decide) f_51 (fun _ h9 => h9) rfl dX5_firstWithDueRepeats_34 ?_
          refine lv_icmp_lt (tgt := 44) hx hb dX5_firstWithDueRepeats_37 (by decide) (fun c8 => ?_) (fun c8 => ?_)
          · have hw := hw.1 c8
            exact j_44 _ (ih) (v1) (v2) ((10 + v2.toNatClampNeg)) _ _ _ _ hw hP hS (lv_sub hl [1, 2, 3, 0] rfl) hb_v1 hk6
          · have hw := hw.2 c8
            refine lv_iconst (v := 1) hx hb dX5_firstWithDueRepeats_40 (by decide) ?_
            refine lv_goto (tgt := 45) hx hb dX5_firstWithDueRepeats_41 (by decide) ?_
            exact j_45 _ (ih) (v1) (v2) ((10 + v2.toNatClampNeg)) (1) _ _ _ _ hw hP hS (lv_sub hl [1, 2, 3, 0] rfl) hb_v1 hk6
  unfold w_X5_firstWithDueRepeats at hw
  refine lv_null hx hb dX5_firstWithDueRepeats_0 ?_
  refine lv_astore_nN (lv' := [(1, .null), (0, .ref (ad (0)))]) hx hb dX5_firstWithDueRepeats_1 rfl hl (by decide) rfl (fun ls hl => ?_)
  refine lv_iconst (v := 0) hx hb dX5_firstWithDueRepeats_2 (by decide) ?_
  refine lv_istore_n (lv' := [(2, .int (0)), (1, .null), (0, .ref (ad (0)))]) hx hb dX5_firstWithDueRepeats_3 rfl hl (by decide) rfl (fun ls hl => ?_)
  obtain ⟨n9, hw⟩ := hw
  exact j_4 n9 none (0) _ _ _ _ hw hP hS (lv_sub hl [2, 1, 0] rfl) (fun _ hz => nomatch hz)
set_option maxHeartbeats 4000000 in
set_option maxRecDepth 100000 in
theorem c_X5_tellDueRepeats (l : Launch) (hl9 : l.stackTraces = false) {B0 : Nat} {ad : Nat → Nat} {D : va_G} {T : Nat → ClassId} (hA : XA B0 ad) {h : xH} {K : Unit → xH → Prop} (hw : w_X5_tellDueRepeats h K) : XM l yX5_tellDueRepeats wsX5_tellDueRepeats ({ frames := 4, cells := 0, slots := 0, locals := 95 } : Room) B0 ad D T h [.ref (ad (0))] xev K 0 0 := by
  unfold XM
  refine Met.ofW (cc := cX5_tellDueRepeats) (maxL := 3) (ret := none) (by decide) rfl ?_
  intro p e s m args below meth c s₁ B hml hv
  obtain ⟨rfl, hB0, hP, hK, hN⟩ := hv
  have hx := B.exec
  have hb := B.bytes
  have hr := B.returns
  have hts := atoms_spec (ws := wsX5_tellDueRepeats) B.pre
  have hown : s.vm.findClass RX5 = some m.cls := findClass_of_methodNamed B.named
  have hlocks := B.notSynchronized
  have hS : va_S (fun q => B0 ≤ q) s.heap s.heap [] := va_S.rf
  have hl := lv_entry ([.ref (ad (0))]) (n := 3) (Nat.le_of_ble_eq_true rfl)
  rw [lg_entry_eq]
  generalize (lg_sl ([.ref (ad (0))]) ++ List.replicate (3 - (lg_sl ([.ref (ad (0))])).length) Slot.unset).toArray = ls at hl ⊢
  have hl : lv_has ls 3 [(0, .ref (ad (0)))] := hl
  have j_2 : ∀ (n : Nat) (v1 : Int32) (h : xH) (H : Heap) (locs : List Loc) (ls : Array Slot), w_X5_tellDueRepeats_2 K n v1 h → XP ad D T h H → va_S (fun q => B0 ≤ q) s.heap H locs → lv_has ls 3 [(0, .ref (ad (0))), (1, .int (v1))] → W p l e (headSpec wsX5_tellDueRepeats ({ frames := 4, cells := 0, slots := 0, locals := 95 } : Room)).room s m ([.ref (ad (0))] : List Value).toArray below meth c H locs 0 0 (MQ below (XQ B0 ad D T xev K) ([.ref (ad (0))] : List Value).toArray s 0 0 (fun q => B0 ≤ q)) (F0 m 2 ls []) := by
    intro n
    induction n with
    | zero => intro v1 h H locs ls hw; exact hw.elim
    | succ n9 ih =>
      intro v1 h H locs ls hw hP hS hl 
      rw [w_X5_tellDueRepeats_2_s] at hw
      refine lv_iload_n hx hb dX5_tellDueRepeats_2 rfl (lv_at hl 1 rfl) ?_
      refine lv_bipush (v := 6) hx hb dX5_tellDueRepeats_3 (by decide) ?_
      refine lv_icmp_ge (tgt := 29) hx hb dX5_tellDueRepeats_5 (by decide) (fun c1 => ?_) (fun c1 => ?_)
      · have hw := hw.1 c1
        exact xg_vrets hx hb hr hlocks hB0 hP hK hN hS dX5_tellDueRepeats_29 (by decide) (by decide) hw
      · have hw := hw.2 c1
        refine lv_aload_n hx hb dX5_tellDueRepeats_8 rfl (lv_at hl 0 rfl) ?_
        refine xg_callq (va_runV (As := []) (rest := []) ⟨hx, hb, hml, hown, hts⟩ (c_X5_firstWithDueRepeats l hl9 hA hw) (cwV 0 hts gX5_tellDueRepeats_X5_firstWithDueRepeats rfl rfl rfl (by decide +kernel) ⟨Nat.le_of_ble_eq_true rfl, Nat.le_of_ble_eq_true rfl⟩) (xg_preV hB0 hP hK hN hS xs0 rfl) rfl rfl hl.1 rfl (lv_room (Nat.le_of_ble_eq_true rfl)) dX5_tellDueRepeats_9 ⟨Nat.le_of_ble_eq_true rfl, Nat.le_of_ble_eq_true rfl⟩) hS (fun r2 h3 H locs hw hP hS => ?_)
        obtain ⟨hk4, hw⟩ := hw
        rcases r2 with _ | k5
        · have hw := hw.1 rfl
          refine lv_astore_nN (lv' := [(2, .null), (0, .ref (ad (0))), (1, .int (v1))]) hx hb dX5_tellDueRepeats_12 rfl hl (by decide) rfl (fun ls hl => ?_)
          refine lv_aload_nN hx hb dX5_tellDueRepeats_13 rfl (lv_at hl 0 rfl) ?_
          refine lv_ifnonnullN hx hb dX5_tellDueRepeats_14 ?_
          exact xg_vrets hx hb hr hlocks hB0 hP hK hN hS dX5_tellDueRepeats_17 (by decide) (by decide) hw
        · have hw := hw.2 k5 rfl
          have hk6 := hk4 k5 rfl
          refine lv_astore_n (lv' := [(2, .ref (ad (k5))), (0, .ref (ad (0))), (1, .int (v1))]) hx hb dX5_tellDueRepeats_12 rfl hl (by decide) rfl (fun ls hl => ?_)
          refine lv_aload_n hx hb dX5_tellDueRepeats_13 rfl (lv_at hl 0 rfl) ?_
          refine lv_ifnonnull (tgt := 18) hx hb dX5_tellDueRepeats_14 (by decide) ?_
          refine lv_aload_n hx hb dX5_tellDueRepeats_18 rfl (lv_at hl 1 rfl) ?_
          refine lv_aload_n hx hb dX5_tellDueRepeats_19 rfl (lv_at hl 0 rfl) ?_
          refine xg_callv (va_runV (As := [.ref (ad (k5))]) (rest := []) ⟨hx, hb, hml, hown, hts⟩ (c_X5_tellRepeats l hl9 hA k5 hk6 hw) (cwV 1 hts gX5_tellDueRepeats_X5_tellRepeats rfl rfl rfl (by decide +kernel) ⟨Nat.le_of_ble_eq_true rfl, Nat.le_of_ble_eq_true rfl⟩) (xg_preV hB0 hP hK hN hS xs0 rfl) rfl rfl hl.1 rfl (lv_room (Nat.le_of_ble_eq_true rfl)) dX5_tellDueRepeats_20 ⟨Nat.le_of_ble_eq_true rfl, Nat.le_of_ble_eq_true rfl⟩) hS (fun _ h8 H locs hw hP hS => ?_)
          obtain ⟨x9, ex9⟩ : ∃ z : Int32, z = v1 + 1 := ⟨_, rfl⟩
          have hw := hw x9 ex9
          refine lv_iinc (v := x9) (lv' := [(1, .int (x9)), (2, .ref (ad (k5))), (0, .ref (ad (0)))]) hx hb dX5_tellDueRepeats_23 hl (k := 2) rfl (by rw [ex9]; rfl) (by decide) rfl (fun ls hl => ?_)
          refine lv_goto (tgt := 2) hx hb dX5_tellDueRepeats_26 (by decide) ?_
          exact ih (x9) _ _ _ _ hw hP hS (lv_sub hl [2, 0] rfl)
  unfold w_X5_tellDueRepeats at hw
  refine lv_iconst (v := 0) hx hb dX5_tellDueRepeats_0 (by decide) ?_
  refine lv_istore_n (lv' := [(1, .int (0)), (0, .ref (ad (0)))]) hx hb dX5_tellDueRepeats_1 rfl hl (by decide) rfl (fun ls hl => ?_)
  obtain ⟨n9, hw⟩ := hw
  exact j_2 n9 (0) _ _ _ _ hw hP hS (lv_sub hl [1, 0] rfl)
set_option maxHeartbeats 4000000 in
set_option maxRecDepth 100000 in
theorem c_X5_rotateAgedFiles (l : Launch) (hl9 : l.stackTraces = false) {B0 : Nat} {ad : Nat → Nat} {D : va_G} {T : Nat → ClassId} (hA : XA B0 ad) {h : xH} {K : Unit → xH → Prop} (hw : w_X5_rotateAgedFiles h K) : XM l yX5_rotateAgedFiles wsX5_rotateAgedFiles ({ frames := 2, cells := 0, slots := 0, locals := 41 } : Room) B0 ad D T h [.ref (ad (0))] xev K 0 0 := by
  unfold XM
  refine Met.ofW (cc := cX5_rotateAgedFiles) (maxL := 2) (ret := none) (by decide) rfl ?_
  intro p e s m args below meth c s₁ B hml hv
  obtain ⟨rfl, hB0, hP, hK, hN⟩ := hv
  have hx := B.exec
  have hb := B.bytes
  have hr := B.returns
  have hts := atoms_spec (ws := wsX5_rotateAgedFiles) B.pre
  have hown : s.vm.findClass RX5 = some m.cls := findClass_of_methodNamed B.named
  have hlocks := B.notSynchronized
  have iX5 : ∀ w ∈ u_ws RX5 TX5 9, w ∈ wsX5_rotateAgedFiles := by decide +kernel
  have f_23 := hts (.fieldLink RX5 23 "LogSpooler" "files" "[LLogSpooler$LogFile;") (by decide +kernel)
  have f_41 := hts (.fieldLink RX5 41 "LogSpooler" "now" "I") (by decide +kernel)
  have hS : va_S (fun q => B0 ≤ q) s.heap s.heap [] := va_S.rf
  have hl := lv_entry ([.ref (ad (0))]) (n := 2) (Nat.le_of_ble_eq_true rfl)
  rw [lg_entry_eq]
  generalize (lg_sl ([.ref (ad (0))]) ++ List.replicate (2 - (lg_sl ([.ref (ad (0))])).length) Slot.unset).toArray = ls at hl ⊢
  have hl : lv_has ls 2 [(0, .ref (ad (0)))] := hl
  have j_32 : ∀ (R9 : Int32 → xH → Prop) (hR9 : ∀ (v1 : Int32) (h : xH) (H : Heap) (locs : List Loc) (ls : Array Slot), R9 v1 h → XP ad D T h H → va_S (fun q => B0 ≤ q) s.heap H locs → lv_has ls 2 [(0, .ref (ad (0))), (1, .int (v1))] → W p l e (headSpec wsX5_rotateAgedFiles ({ frames := 2, cells := 0, slots := 0, locals := 41 } : Room)).room s m ([.ref (ad (0))] : List Value).toArray below meth c H locs 0 0 (MQ below (XQ B0 ad D T xev K) ([.ref (ad (0))] : List Value).toArray s 0 0 (fun q => B0 ≤ q)) (F0 m 2 ls [])) (v1 : Int32) (h : xH) (H : Heap) (locs : List Loc) (ls : Array Slot), w_X5_rotateAgedFiles_32 K R9 v1 h → XP ad D T h H → va_S (fun q => B0 ≤ q) s.heap H locs → lv_has ls 2 [(0, .ref (ad (0))), (1, .int (v1))] → W p l e (headSpec wsX5_rotateAgedFiles ({ frames := 2, cells := 0, slots := 0, locals := 41 } : Room)).room s m ([.ref (ad (0))] : List Value).toArray below meth c H locs 0 0 (MQ below (XQ B0 ad D T xev K) ([.ref (ad (0))] : List Value).toArray s 0 0 (fun q => B0 ≤ q)) (F0 m 32 ls []) := by
    intro R9 hR9 v1 h H locs ls hw hP hS hl 
    unfold w_X5_rotateAgedFiles_32 at hw
    obtain ⟨x13, ex13⟩ : ∃ z : Int32, z = v1 + 1 := ⟨_, rfl⟩
    have hw := hw x13 ex13
    refine lv_iinc (v := x13) (lv' := [(1, .int (x13)), (0, .ref (ad (0)))]) hx hb dX5_rotateAgedFiles_32 hl (k := 1) rfl (by rw [ex13]; rfl) (by decide) rfl (fun ls hl => ?_)
    refine lv_goto (tgt := 2) hx hb dX5_rotateAgedFiles_35 (by decide) ?_
    exact hR9 (x13) _ _ _ _ hw hP hS (lv_sub hl [1, 0] rfl)
  have j_2 : ∀ (n : Nat) (v1 : Int32) (h : xH) (H : Heap) (locs : List Loc) (ls : Array Slot), w_X5_rotateAgedFiles_2 K n v1 h → XP ad D T h H → va_S (fun q => B0 ≤ q) s.heap H locs → lv_has ls 2 [(0, .ref (ad (0))), (1, .int (v1))] → W p l e (headSpec wsX5_rotateAgedFiles ({ frames := 2, cells := 0, slots := 0, locals := 41 } : Room)).room s m ([.ref (ad (0))] : List Value).toArray below meth c H locs 0 0 (MQ below (XQ B0 ad D T xev K) ([.ref (ad (0))] : List Value).toArray s 0 0 (fun q => B0 ≤ q)) (F0 m 2 ls []) := by
    intro n
    induction n with
    | zero => intro v1 h H locs ls hw; exact hw.elim
    | succ n9 ih =>
      intro v1 h H locs ls hw hP hS hl 
      rw [w_X5_rotateAgedFiles_2_s] at hw
      refine lv_iload_n hx hb dX5_rotateAgedFiles_2 rfl (lv_at hl 1 rfl) ?_
      refine lv_iconst (v := 4) hx hb dX5_rotateAgedFiles_3 (by decide) ?_
      refine lv_icmp_ge (tgt := 38) hx hb dX5_rotateAgedFiles_4 (by decide) (fun c1 => ?_) (fun c1 => ?_)
      · have hw := hw.1 c1
        exact xg_vrets hx hb hr hlocks hB0 hP hK hN hS dX5_rotateAgedFiles_38 (by decide) (by decide) hw
      · have hw := hw.2 c1
        refine lv_aload_n hx hb dX5_rotateAgedFiles_7 rfl (lv_at hl 0 rfl) ?_
        refine xg_getr (C := RX5) (TC := TX5) (N := 9) hx hb hts iX5 hown hK hP xs0 rfl 2 (by decide) f_23 (fun _ h9 => h9) rfl dX5_rotateAgedFiles_8 ?_
        refine lv_iload_n hx hb dX5_rotateAgedFiles_11 rfl (lv_at hl 1 rfl) ?_
        obtain ⟨hi2, hw⟩ := hw
        refine xg_aald (t := 5) (C := RX2) hx hb hK hP xs3 rfl hi2 dX5_rotateAgedFiles_12 (fun hb3 => ?_)
        have hk4 : 30 ≤ (30 + v1.toNatClampNeg) ∧ (30 + v1.toNatClampNeg) < 34 := by omega
        refine lv_aload_n hx hb dX5_rotateAgedFiles_13 rfl (lv_at hl 0 rfl) ?_
        refine xg_get (C := RX5) (TC := TX5) (N := 9) hx hb hts iX5 hown hK hP xs0 rfl 5 (by decide) f_41 (fun _ h9 => h9) rfl dX5_rotateAgedFiles_14 ?_
        refine xg_calli (va_runV (As := [.int ((h 0 5))]) (rest := []) ⟨hx, hb, hml, hown, hts⟩ (c_X2_isAged l hl9 hA (30 + v1.toNatClampNeg) hk4 (h 0 5) hw) (cwV 1 hts gX5_rotateAgedFiles_X2_isAged rfl rfl rfl (by decide +kernel) ⟨Nat.le_of_ble_eq_true rfl, Nat.le_of_ble_eq_true rfl⟩) (xg_preV hB0 hP hK hN hS (xsF hk4) rfl) rfl rfl hl.1 rfl (lv_room (Nat.le_of_ble_eq_true rfl)) dX5_rotateAgedFiles_17 ⟨Nat.le_of_ble_eq_true rfl, Nat.le_of_ble_eq_true rfl⟩) hS (fun r5 h6 H locs hw hP hS => ?_)
        refine lv_if_eq (tgt := 32) hx hb dX5_rotateAgedFiles_20 (by decide) (fun c7 => ?_) (fun c7 => ?_)
        · have hw := hw.1 c7
          exact j_32 _ (ih) (v1) _ _ _ _ hw hP hS (lv_sub hl [0, 1] rfl)
        · have hw := hw.2 c7
          refine lv_aload_n hx hb dX5_rotateAgedFiles_23 rfl (lv_at hl 0 rfl) ?_
          refine xg_getr (C := RX5) (TC := TX5) (N := 9) hx hb hts iX5 hown hK hP xs0 rfl 2 (by decide) f_23 (fun _ h9 => h9) rfl dX5_rotateAgedFiles_24 ?_
          refine lv_iload_n hx hb dX5_rotateAgedFiles_27 rfl (lv_at hl 1 rfl) ?_
          obtain ⟨hi8, hw⟩ := hw
          refine xg_aald (t := 5) (C := RX2) hx hb hK hP xs3 rfl hi8 dX5_rotateAgedFiles_28 (fun hb9 => ?_)
          have hk10 : 30 ≤ (30 + v1.toNatClampNeg) ∧ (30 + v1.toNatClampNeg) < 34 := by omega
          refine xg_callv (va_runV (As := []) (rest := []) ⟨hx, hb, hml, hown, hts⟩ (c_X2_turnOver l hl9 hA (30 + v1.toNatClampNeg) hk10 hw) (cwV 0 hts gX5_rotateAgedFiles_X2_turnOver rfl rfl rfl (by decide +kernel) ⟨Nat.le_of_ble_eq_true rfl, Nat.le_of_ble_eq_true rfl⟩) (xg_preV hB0 hP hK hN hS (xsF hk10) rfl) rfl rfl hl.1 rfl (lv_room (Nat.le_of_ble_eq_true rfl)) dX5_rotateAgedFiles_29 ⟨Nat.le_of_ble_eq_true rfl, Nat.le_of_ble_eq_true rfl⟩) hS (fun _ h12 H locs hw hP hS => ?_)
          exact j_32 _ (ih) (v1) _ _ _ _ hw hP hS (lv_sub hl [0, 1] rfl)
  unfold w_X5_rotateAgedFiles at hw
  refine lv_iconst (v := 0) hx hb dX5_rotateAgedFiles_0 (by decide) ?_
  refine lv_istore_n (lv' := [(1, .int (0)), (0, .ref (ad (0)))]) hx hb dX5_rotateAgedFiles_1 rfl hl (by decide) rfl (fun ls hl => ?_)
  obtain ⟨n9, hw⟩ := hw
  exact j_2 n9 (0) _ _ _ _ hw hP hS (lv_sub hl [1, 0] rfl)
set_option maxHeartbeats 4000000 in
set_option maxRecDepth 100000 in
theorem c_X5_passOneSecond (l : Launch) (hl9 : l.stackTraces = false) {B0 : Nat} {ad : Nat → Nat} {D : va_G} {T : Nat → ClassId} (hA : XA B0 ad) {h : xH} {K : Unit → xH → Prop} (hw : w_X5_passOneSecond h K) : XM l yX5_passOneSecond wsX5_passOneSecond ({ frames := 5, cells := 0, slots := 0, locals := 117 } : Room) B0 ad D T h [.ref (ad (0))] xev K 0 0 := by
  unfold XM
  refine Met.ofW (cc := cX5_passOneSecond) (maxL := 1) (ret := none) (by decide) rfl ?_
  intro p e s m args below meth c s₁ B hml hv
  obtain ⟨rfl, hB0, hP, hK, hN⟩ := hv
  have hx := B.exec
  have hb := B.bytes
  have hr := B.returns
  have hts := atoms_spec (ws := wsX5_passOneSecond) B.pre
  have hown : s.vm.findClass RX5 = some m.cls := findClass_of_methodNamed B.named
  have hlocks := B.notSynchronized
  have iX5 : ∀ w ∈ u_ws RX5 TX5 9, w ∈ wsX5_passOneSecond := by decide +kernel
  have f_41 := hts (.fieldLink RX5 41 "LogSpooler" "now" "I") (by decide +kernel)
  have f_48 := hts (.fieldLink RX5 48 "LogSpooler" "tokenTime" "I") (by decide +kernel)
  have hS : va_S (fun q => B0 ≤ q) s.heap s.heap [] := va_S.rf
  have hl := lv_entry ([.ref (ad (0))]) (n := 1) (Nat.le_of_ble_eq_true rfl)
  rw [lg_entry_eq]
  generalize (lg_sl ([.ref (ad (0))]) ++ List.replicate (1 - (lg_sl ([.ref (ad (0))])).length) Slot.unset).toArray = ls at hl ⊢
  have hl : lv_has ls 1 [(0, .ref (ad (0)))] := hl
  have j_33 : ∀ (h : xH) (H : Heap) (locs : List Loc) (ls : Array Slot), w_X5_passOneSecond_33 K h → XP ad D T h H → va_S (fun q => B0 ≤ q) s.heap H locs → lv_has ls 1 [(0, .ref (ad (0)))] → W p l e (headSpec wsX5_passOneSecond ({ frames := 5, cells := 0, slots := 0, locals := 117 } : Room)).room s m ([.ref (ad (0))] : List Value).toArray below meth c H locs 0 0 (MQ below (XQ B0 ad D T xev K) ([.ref (ad (0))] : List Value).toArray s 0 0 (fun q => B0 ≤ q)) (F0 m 33 ls []) := by
    intro h H locs ls hw hP hS hl 
    unfold w_X5_passOneSecond_33 at hw
    refine lv_aload_n hx hb dX5_passOneSecond_33 rfl (lv_at hl 0 rfl) ?_
    refine xg_callv (va_runV (As := []) (rest := []) ⟨hx, hb, hml, hown, hts⟩ (c_X5_tellDueRepeats l hl9 hA hw) (cwV 0 hts gX5_passOneSecond_X5_tellDueRepeats rfl rfl rfl (by decide +kernel) ⟨Nat.le_of_ble_eq_true rfl, Nat.le_of_ble_eq_true rfl⟩) (xg_preV hB0 hP hK hN hS xs0 rfl) rfl rfl hl.1 rfl (lv_room (Nat.le_of_ble_eq_true rfl)) dX5_passOneSecond_34 ⟨Nat.le_of_ble_eq_true rfl, Nat.le_of_ble_eq_true rfl⟩) hS (fun _ h8 H locs hw hP hS => ?_)
    refine lv_aload_n hx hb dX5_passOneSecond_37 rfl (lv_at hl 0 rfl) ?_
    refine xg_callv (va_runV (As := []) (rest := []) ⟨hx, hb, hml, hown, hts⟩ (c_X5_rotateAgedFiles l hl9 hA hw) (cwV 0 hts gX5_passOneSecond_X5_rotateAgedFiles rfl rfl rfl (by decide +kernel) ⟨Nat.le_of_ble_eq_true rfl, Nat.le_of_ble_eq_true rfl⟩) (xg_preV hB0 hP hK hN hS xs0 rfl) rfl rfl hl.1 rfl (lv_room (Nat.le_of_ble_eq_true rfl)) dX5_passOneSecond_38 ⟨Nat.le_of_ble_eq_true rfl, Nat.le_of_ble_eq_true rfl⟩) hS (fun _ h10 H locs hw hP hS => ?_)
    exact xg_vrets hx hb hr hlocks hB0 hP hK hN hS dX5_passOneSecond_41 (by decide) (by decide) hw
  unfold w_X5_passOneSecond at hw
  refine lv_aload_n hx hb dX5_passOneSecond_0 rfl (lv_at hl 0 rfl) ?_
  refine lv_dup hx hb dX5_passOneSecond_1 rfl ?_
  refine xg_get (C := RX5) (TC := TX5) (N := 9) hx hb hts iX5 hown hK hP xs0 rfl 5 (by decide) f_41 (fun _ h9 => h9) rfl dX5_passOneSecond_2 ?_
  refine lv_iconst (v := 1) hx hb dX5_passOneSecond_5 (by decide) ?_
  refine lv_iadd hx hb dX5_passOneSecond_6 ?_
  refine xg_put (C := RX5) (TC := TX5) (N := 9) hx hb hts iX5 tyX5 tyX5_ok nmX5 hown hK hP hA hS xs0 rfl 5 (by decide) f_41 (fun _ h9 => h9) rfl rfl (ty := .int) (by decide +kernel) rfl rfl dX5_passOneSecond_7 (fun H locs h1 eh1 hP hS => ?_)
  have hw := hw h1 eh1
  refine lv_aload_n hx hb dX5_passOneSecond_10 rfl (lv_at hl 0 rfl) ?_
  refine xg_get (C := RX5) (TC := TX5) (N := 9) hx hb hts iX5 hown hK hP xs0 rfl 7 (by decide) f_48 (fun _ h9 => h9) rfl dX5_passOneSecond_11 ?_
  refine lv_if_le (tgt := 33) hx hb dX5_passOneSecond_14 (by decide) (fun c2 => ?_) (fun c2 => ?_)
  · have hw := hw.1 c2
    exact j_33  _ _ _ _ hw hP hS (lv_sub hl [0] rfl)
  · have hw := hw.2 c2
    refine lv_aload_n hx hb dX5_passOneSecond_17 rfl (lv_at hl 0 rfl) ?_
    refine xg_get (C := RX5) (TC := TX5) (N := 9) hx hb hts iX5 hown hK hP xs0 rfl 5 (by decide) f_41 (fun _ h9 => h9) rfl dX5_passOneSecond_18 ?_
    refine lv_aload_n hx hb dX5_passOneSecond_21 rfl (lv_at hl 0 rfl) ?_
    refine xg_get (C := RX5) (TC := TX5) (N := 9) hx hb hts iX5 hown hK hP xs0 rfl 7 (by decide) f_48 (fun _ h9 => h9) rfl dX5_passOneSecond_22 ?_
    obtain ⟨hz3, hw⟩ := hw
    refine lv_irem hx hb dX5_passOneSecond_25 hz3 ?_
    refine lv_if_ne (tgt := 33) hx hb dX5_passOneSecond_26 (by decide) (fun c4 => ?_) (fun c4 => ?_)
    · have hw := hw.2 c4
      exact j_33  _ _ _ _ hw hP hS (lv_sub hl [0] rfl)
    · have hw := hw.1 c4
      refine lv_aload_n hx hb dX5_passOneSecond_29 rfl (lv_at hl 0 rfl) ?_
      refine xg_callv (va_runV (As := []) (rest := []) ⟨hx, hb, hml, hown, hts⟩ (c_X5_giveTokens l hl9 hA hw) (cwV 0 hts gX5_passOneSecond_X5_giveTokens rfl rfl rfl (by decide +kernel) ⟨Nat.le_of_ble_eq_true rfl, Nat.le_of_ble_eq_true rfl⟩) (xg_preV hB0 hP hK hN hS xs0 rfl) rfl rfl hl.1 rfl (lv_room (Nat.le_of_ble_eq_true rfl)) dX5_passOneSecond_30 ⟨Nat.le_of_ble_eq_true rfl, Nat.le_of_ble_eq_true rfl⟩) hS (fun _ h6 H locs hw hP hS => ?_)
      exact j_33  _ _ _ _ hw hP hS (lv_sub hl [0] rfl)
set_option maxHeartbeats 4000000 in
set_option maxRecDepth 100000 in
theorem c_X5_pass (l : Launch) (hl9 : l.stackTraces = false) {B0 : Nat} {ad : Nat → Nat} {D : va_G} {T : Nat → ClassId} (hA : XA B0 ad) (p0 : Int32) {h : xH} {K : Int32 → xH → Prop} {KX : String → xH → Prop} (hw : w_X5_pass p0 h K KX) : XT l yX5_pass wsX5_pass ({ frames := 6, cells := 1, slots := 6, locals := 137 } : Room) B0 ad D T h [.ref (ad (0)), .int (p0)] xei K KX 1 6 := by
  unfold XT
  refine vx_ofW (cc := cX5_pass) (maxL := 4) (ret := (some .int)) (by decide) rfl ?_
  intro p e s m args below meth c s₁ B hml ht hv
  obtain ⟨rfl, hB0, hP, hK, hN⟩ := hv
  have hx := B.exec
  have hb := B.bytes
  have hr := B.returns
  have hts := atoms_spec (ws := wsX5_pass) B.pre
  have hown : s.vm.findClass RX5 = some m.cls := findClass_of_methodNamed B.named
  have hlocks := B.notSynchronized
  have hS : va_S (fun q => B0 ≤ q) s.heap s.heap [] := va_S.rf
  have hl := lv_entry ([.ref (ad (0)), .int (p0)]) (n := 4) (Nat.le_of_ble_eq_true rfl)
  rw [lg_entry_eq]
  generalize (lg_sl ([.ref (ad (0)), .int (p0)]) ++ List.replicate (4 - (lg_sl ([.ref (ad (0)), .int (p0)])).length) Slot.unset).toArray = ls at hl ⊢
  have hl : lv_has ls 4 [(0, .ref (ad (0))), (1, .int (p0))] := hl
  have j_27 : ∀ (n : Nat) (v2 : Int32) (v3 : Int32) (h : xH) (H : Heap) (locs : List Loc) (ls : Array Slot), w_X5_pass_27 p0 K KX n v2 v3 h → XP ad D T h H → va_S (fun q => B0 ≤ q) s.heap H locs → lv_has ls 4 [(0, .ref (ad (0))), (1, .int (p0)), (2, .int (v2)), (3, .int (v3))] → W p l e (headSpec wsX5_pass ({ frames := 6, cells := 1, slots := 6, locals := 137 } : Room)).room s m ([.ref (ad (0)), .int (p0)] : List Value).toArray below meth c H locs 0 0 (vx_MQ below (XQ B0 ad D T xei K) (XX B0 ad D T KX) ([.ref (ad (0)), .int (p0)] : List Value).toArray s 1 6 (fun q => B0 ≤ q)) (F0 m 27 ls []) := by
    intro n
    induction n with
    | zero => intro v2 v3 h H locs ls hw; exact hw.elim
    | succ n9 ih =>
      intro v2 v3 h H locs ls hw hP hS hl 
      rw [w_X5_pass_27_s] at hw
      refine lv_iload_n hx hb dX5_pass_27 rfl (lv_at hl 3 rfl) ?_
      refine lv_iload_n hx hb dX5_pass_28 rfl (lv_at hl 1 rfl) ?_
      refine lv_icmp_ge (tgt := 42) hx hb dX5_pass_29 (by decide) (fun c6 => ?_) (fun c6 => ?_)
      · have hw := hw.1 c6
        refine lv_aload_n hx hb dX5_pass_42 rfl (lv_at hl 0 rfl) ?_
        refine xg_calli (va_runV (As := []) (rest := []) ⟨hx, hb, hml, hown, hts⟩ (c_X5_rotationsOfAllFiles l hl9 hA hw) (cwV 0 hts gX5_pass_X5_rotationsOfAllFiles rfl rfl rfl (by decide +kernel) ⟨Nat.le_of_ble_eq_true rfl, Nat.le_of_ble_eq_true rfl⟩) (xg_preV hB0 hP hK hN hS xs0 rfl) rfl rfl hl.1 rfl (lv_room (Nat.le_of_ble_eq_true rfl)) dX5_pass_43 ⟨Nat.le_of_ble_eq_true rfl, Nat.le_of_ble_eq_true rfl⟩) hS (fun r7 h8 H locs hw hP hS => ?_)
        refine lv_iload_n hx hb dX5_pass_46 rfl (lv_at hl 2 rfl) ?_
        refine lv_isub hx hb dX5_pass_47 ?_
        refine vx_ret ?_
        exact xg_irets hx hb hr rfl hlocks hB0 hP hK hN hS dX5_pass_48 (by decide) (by decide) hw
      · have hw := hw.2 c6
        refine lv_aload_n hx hb dX5_pass_32 rfl (lv_at hl 0 rfl) ?_
        refine xg_callv (va_runV (As := []) (rest := []) ⟨hx, hb, hml, hown, hts⟩ (c_X5_passOneSecond l hl9 hA hw) (cwV 0 hts gX5_pass_X5_passOneSecond rfl rfl rfl (by decide +kernel) ⟨Nat.le_of_ble_eq_true rfl, Nat.le_of_ble_eq_true rfl⟩) (xg_preV hB0 hP hK hN hS xs0 rfl) rfl rfl hl.1 rfl (lv_room (Nat.le_of_ble_eq_true rfl)) dX5_pass_33 ⟨Nat.le_of_ble_eq_true rfl, Nat.le_of_ble_eq_true rfl⟩) hS (fun _ h10 H locs hw hP hS => ?_)
        obtain ⟨x11, ex11⟩ : ∃ z : Int32, z = v3 + 1 := ⟨_, rfl⟩
        have hw := hw x11 ex11
        refine lv_iinc (v := x11) (lv' := [(3, .int (x11)), (0, .ref (ad (0))), (1, .int (p0)), (2, .int (v2))]) hx hb dX5_pass_36 hl (k := 3) rfl (by rw [ex11]; rfl) (by decide) rfl (fun ls hl => ?_)
        refine lv_goto (tgt := 27) hx hb dX5_pass_39 (by decide) ?_
        exact ih (v2) (x11) _ _ _ _ hw hP hS (lv_sub hl [1, 2, 3, 0] rfl)
  unfold w_X5_pass at hw
  refine lv_iload_n hx hb dX5_pass_0 rfl (lv_at hl 1 rfl) ?_
  refine lv_iconst (v := 1) hx hb dX5_pass_1 (by decide) ?_
  refine lv_bipush (v := 100) hx hb dX5_pass_2 (by decide) ?_
  refine xg_calli (va_runS (As := [.int (p0), .int (1), .int (100)]) (rest := []) ⟨hx, hb, hml, hown, hts⟩ (c_X5_isWithin l hl9 hA p0 (1 : Int32) (100 : Int32) hw) (va_cwS 3 hts gX5_pass_X5_isWithin rfl rfl rfl (by decide +kernel) ⟨Nat.le_of_ble_eq_true rfl, Nat.le_of_ble_eq_true rfl⟩) (xg_preS hB0 hP hK hN hS) rfl rfl hl.1 rfl (lv_room (Nat.le_of_ble_eq_true rfl)) dX5_pass_4 ⟨Nat.le_of_ble_eq_true rfl, Nat.le_of_ble_eq_true rfl⟩) hS (fun r1 h2 H locs hw hP hS => ?_)
  refine lv_if_ne (tgt := 20) hx hb dX5_pass_7 (by decide) (fun c3 => ?_) (fun c3 => ?_)
  · have hw := hw.2 c3
    refine lv_aload_n hx hb dX5_pass_20 rfl (lv_at hl 0 rfl) ?_
    refine xg_calli (va_runV (As := []) (rest := []) ⟨hx, hb, hml, hown, hts⟩ (c_X5_rotationsOfAllFiles l hl9 hA hw) (cwV 0 hts gX5_pass_X5_rotationsOfAllFiles rfl rfl rfl (by decide +kernel) ⟨Nat.le_of_ble_eq_true rfl, Nat.le_of_ble_eq_true rfl⟩) (xg_preV hB0 hP hK hN hS xs0 rfl) rfl rfl hl.1 rfl (lv_room (Nat.le_of_ble_eq_true rfl)) dX5_pass_21 ⟨Nat.le_of_ble_eq_true rfl, Nat.le_of_ble_eq_true rfl⟩) hS (fun r4 h5 H locs hw hP hS => ?_)
    refine lv_istore_n (lv' := [(2, .int (r4)), (0, .ref (ad (0))), (1, .int (p0))]) hx hb dX5_pass_24 rfl hl (by decide) rfl (fun ls hl => ?_)
    refine lv_iconst (v := 0) hx hb dX5_pass_25 (by decide) ?_
    refine lv_istore_n (lv' := [(3, .int (0)), (2, .int (r4)), (0, .ref (ad (0))), (1, .int (p0))]) hx hb dX5_pass_26 rfl hl (by decide) rfl (fun ls hl => ?_)
    obtain ⟨n9, hw⟩ := hw
    exact j_27 n9 (r4) (0) _ _ _ _ hw hP hS (lv_sub hl [2, 3, 1, 0] rfl)
  · have hw := hw.1 c3
    exact xg_throw (cls := "java/lang/IllegalArgumentException") (text := "seconds is out of range") (ik := 63) (is := 74) (ic := 67) hx hb hl9 hown (by decide +kernel) (hts (.classLink RX5 63 "java/lang/IllegalArgumentException") (by decide +kernel)) (hts (.initialized "java/lang/IllegalArgumentException") (by decide +kernel)) (fun w hw9 => hts w (by revert w hw9; decide +kernel)) (by decide +kernel) (by decide +kernel) (by decide +kernel) hB0 hP hK hN hS (by rw [hml]; exact hl.1) dX5_pass_10 dX5_pass_13 dX5_pass_14 dX5_pass_16 dX5_pass_19 ht (Nat.le_of_ble_eq_true rfl) (Nat.le_of_ble_eq_true rfl) (Nat.le_of_ble_eq_true rfl) (Nat.le_of_ble_eq_true rfl) hlocks (by decide) (by decide) hw
set_option maxHeartbeats 4000000 in
set_option maxRecDepth 100000 in
theorem c_X5_rotate (l : Launch) (hl9 : l.stackTraces = false) {B0 : Nat} {ad : Nat → Nat} {D : va_G} {T : Nat → ClassId} (hA : XA B0 ad) (p0 : Int32) {h : xH} {K : Int32 → xH → Prop} {KX : String → xH → Prop} (hw : w_X5_rotate p0 h K KX) : XT l yX5_rotate wsX5_rotate ({ frames := 7, cells := 2, slots := 12, locals := 121 } : Room) B0 ad D T h [.ref (ad (0)), .int (p0)] xei K KX 2 12 := by
  unfold XT
  refine vx_ofW (cc := cX5_rotate) (maxL := 3) (ret := (some .int)) (by decide) rfl ?_
  intro p e s m args below meth c s₁ B hml ht hv
  obtain ⟨rfl, hB0, hP, hK, hN⟩ := hv
  have hx := B.exec
  have hb := B.bytes
  have hr := B.returns
  have hts := atoms_spec (ws := wsX5_rotate) B.pre
  have hown : s.vm.findClass RX5 = some m.cls := findClass_of_methodNamed B.named
  have hlocks := B.notSynchronized
  have iX2 : ∀ w ∈ u_ws RX2 TX2 10, w ∈ wsX5_rotate := by decide +kernel
  have f_175 := hts (.fieldLink RX5 175 "LogSpooler$LogFile" "olderOnes" "I") (by decide +kernel)
  have hS : va_S (fun q => B0 ≤ q) s.heap s.heap [] := va_S.rf
  have hl := lv_entry ([.ref (ad (0)), .int (p0)]) (n := 3) (Nat.le_of_ble_eq_true rfl)
  rw [lg_entry_eq]
  generalize (lg_sl ([.ref (ad (0)), .int (p0)]) ++ List.replicate (3 - (lg_sl ([.ref (ad (0)), .int (p0)])).length) Slot.unset).toArray = ls at hl ⊢
  have hl : lv_has ls 3 [(0, .ref (ad (0))), (1, .int (p0))] := hl
  unfold w_X5_rotate at hw
  refine lv_aload_n hx hb dX5_rotate_0 rfl (lv_at hl 0 rfl) ?_
  refine lv_iload_n hx hb dX5_rotate_1 rfl (lv_at hl 1 rfl) ?_
  refine xg_callXr (vx_runV (As := [.int (p0)]) (rest := []) ⟨hx, hb, hml, hown, hts⟩ (c_X5_fileAt l hl9 hA p0 hw) (cwV 1 hts gX5_rotate_X5_fileAt rfl rfl rfl (by decide +kernel) ⟨Nat.le_of_ble_eq_true rfl, Nat.le_of_ble_eq_true rfl⟩) (xg_preV hB0 hP hK hN hS xs0 rfl) rfl rfl hl.1 rfl (lv_room (Nat.le_of_ble_eq_true rfl)) dX5_rotate_2 ⟨Nat.le_of_ble_eq_true rfl, Nat.le_of_ble_eq_true rfl⟩) hS (fun E8 ce9 q9 h8 H locs hw hP hS hce hcv hcl => ?_) (fun r1 h2 H locs hw hP hS => ?_)
  · exact xg_out ht hlocks hP hS hce hcv hcl (by decide) (by decide) hw
  · obtain ⟨hk3, hw⟩ := hw
    refine lv_astore_n (lv' := [(2, .ref (ad (r1))), (0, .ref (ad (0))), (1, .int (p0))]) hx hb dX5_rotate_5 rfl hl (by decide) rfl (fun ls hl => ?_)
    refine lv_aload_n hx hb dX5_rotate_6 rfl (lv_at hl 0 rfl) ?_
    refine xg_calli (va_runV (As := []) (rest := []) ⟨hx, hb, hml, hown, hts⟩ (c_X2_isEmpty l hl9 hA r1 hk3 hw) (cwV 0 hts gX5_rotate_X2_isEmpty rfl rfl rfl (by decide +kernel) ⟨Nat.le_of_ble_eq_true rfl, Nat.le_of_ble_eq_true rfl⟩) (xg_preV hB0 hP hK hN hS (xsF hk3) rfl) rfl rfl hl.1 rfl (lv_room (Nat.le_of_ble_eq_true rfl)) dX5_rotate_7 ⟨Nat.le_of_ble_eq_true rfl, Nat.le_of_ble_eq_true rfl⟩) hS (fun r4 h5 H locs hw hP hS => ?_)
    refine lv_if_eq (tgt := 23) hx hb dX5_rotate_10 (by decide) (fun c6 => ?_) (fun c6 => ?_)
    · have hw := hw.1 c6
      refine lv_aload_n hx hb dX5_rotate_23 rfl (lv_at hl 0 rfl) ?_
      refine xg_callv (va_runV (As := []) (rest := []) ⟨hx, hb, hml, hown, hts⟩ (c_X2_turnOver l hl9 hA r1 hk3 hw) (cwV 0 hts gX5_rotate_X2_turnOver rfl rfl rfl (by decide +kernel) ⟨Nat.le_of_ble_eq_true rfl, Nat.le_of_ble_eq_true rfl⟩) (xg_preV hB0 hP hK hN hS (xsF hk3) rfl) rfl rfl hl.1 rfl (lv_room (Nat.le_of_ble_eq_true rfl)) dX5_rotate_24 ⟨Nat.le_of_ble_eq_true rfl, Nat.le_of_ble_eq_true rfl⟩) hS (fun _ h8 H locs hw hP hS => ?_)
      refine lv_aload_n hx hb dX5_rotate_27 rfl (lv_at hl 0 rfl) ?_
      refine xg_get (C := RX2) (TC := TX2) (N := 10) hx hb hts iX2 hown hK hP (xsF hk3) rfl 8 (by decide) f_175 (fun _ h9 => h9) rfl dX5_rotate_28 ?_
      refine vx_ret ?_
      exact xg_irets hx hb hr rfl hlocks hB0 hP hK hN hS dX5_rotate_31 (by decide) (by decide) hw
    · have hw := hw.2 c6
      exact xg_throw (cls := "java/lang/IllegalStateException") (text := "the file has no lines") (ik := 122) (is := 170) (ic := 126) hx hb hl9 hown (by decide +kernel) (hts (.classLink RX5 122 "java/lang/IllegalStateException") (by decide +kernel)) (hts (.initialized "java/lang/IllegalStateException") (by decide +kernel)) (fun w hw9 => hts w (by revert w hw9; decide +kernel)) (by decide +kernel) (by decide +kernel) (by decide +kernel) hB0 hP hK hN hS (by rw [hml]; exact hl.1) dX5_rotate_13 dX5_rotate_16 dX5_rotate_17 dX5_rotate_19 dX5_rotate_22 ht (Nat.le_of_ble_eq_true rfl) (Nat.le_of_ble_eq_true rfl) (Nat.le_of_ble_eq_true rfl) (Nat.le_of_ble_eq_true rfl) hlocks (by decide) (by decide) hw
set_option maxHeartbeats 4000000 in
set_option maxRecDepth 100000 in
theorem c_X5_connect (l : Launch) (hl9 : l.stackTraces = false) {B0 : Nat} {ad : Nat → Nat} {D : va_G} {T : Nat → ClassId} (hA : XA B0 ad) {h : xH} {K : Int32 → xH → Prop} {KX : String → xH → Prop} (hw : w_X5_connect h K KX) : XT l yX5_connect wsX5_connect ({ frames := 6, cells := 1, slots := 6, locals := 100 } : Room) B0 ad D T h [.ref (ad (0))] xei K KX 1 6 := by
  unfold XT
  refine vx_ofW (cc := cX5_connect) (maxL := 1) (ret := (some .int)) (by decide) rfl ?_
  intro p e s m args below meth c s₁ B hml ht hv
  obtain ⟨rfl, hB0, hP, hK, hN⟩ := hv
  have hx := B.exec
  have hb := B.bytes
  have hr := B.returns
  have hts := atoms_spec (ws := wsX5_connect) B.pre
  have hown : s.vm.findClass RX5 = some m.cls := findClass_of_methodNamed B.named
  have hlocks := B.notSynchronized
  have iX0 : ∀ w ∈ u_ws RX0 TX0 6, w ∈ wsX5_connect := by decide +kernel
  have iX5 : ∀ w ∈ u_ws RX5 TX5 9, w ∈ wsX5_connect := by decide +kernel
  have f_30 := hts (.fieldLink RX5 30 "LogSpooler" "forwarder" "LLogSpooler$Forwarder;") (by decide +kernel)
  have f_178 := hts (.fieldLink RX5 178 "LogSpooler$Forwarder" "isConnected" "Z") (by decide +kernel)
  have hS : va_S (fun q => B0 ≤ q) s.heap s.heap [] := va_S.rf
  have hl := lv_entry ([.ref (ad (0))]) (n := 1) (Nat.le_of_ble_eq_true rfl)
  rw [lg_entry_eq]
  generalize (lg_sl ([.ref (ad (0))]) ++ List.replicate (1 - (lg_sl ([.ref (ad (0))])).length) Slot.unset).toArray = ls at hl ⊢
  have hl : lv_has ls 1 [(0, .ref (ad (0)))] := hl
  unfold w_X5_connect at hw
  refine lv_aload_n hx hb dX5_connect_0 rfl (lv_at hl 0 rfl) ?_
  refine xg_getr (C := RX5) (TC := TX5) (N := 9) hx hb hts iX5 hown hK hP xs0 rfl 3 (by decide) f_30 (fun _ h9 => h9) rfl dX5_connect_1 ?_
  refine xg_get (C := RX0) (TC := TX0) (N := 6) hx hb hts iX0 hown hK hP xs4 rfl 5 (by decide) f_178 (fun _ h9 => h9) rfl dX5_connect_4 ?_
  refine lv_if_eq (tgt := 20) hx hb dX5_connect_7 (by decide) (fun c1 => ?_) (fun c1 => ?_)
  · have hw := hw.1 c1
    refine lv_aload_n hx hb dX5_connect_20 rfl (lv_at hl 0 rfl) ?_
    refine xg_getr (C := RX5) (TC := TX5) (N := 9) hx hb hts iX5 hown hK hP xs0 rfl 3 (by decide) f_30 (fun _ h9 => h9) rfl dX5_connect_21 ?_
    refine lv_iconst (v := 1) hx hb dX5_connect_24 (by decide) ?_
    refine xg_put (C := RX0) (TC := TX0) (N := 6) hx hb hts iX0 tyX0 tyX0_ok nmX0 hown hK hP hA hS xs4 rfl 5 (by decide) f_178 (fun _ h9 => h9) rfl rfl (ty := .boolean) (by decide +kernel) rfl rfl dX5_connect_25 (fun H locs h2 eh2 hP hS => ?_)
    have hw := hw h2 eh2
    refine lv_aload_n hx hb dX5_connect_28 rfl (lv_at hl 0 rfl) ?_
    refine xg_getr (C := RX5) (TC := TX5) (N := 9) hx hb hts iX5 hown hK hP xs0 rfl 3 (by decide) f_30 (fun _ h9 => h9) rfl dX5_connect_29 ?_
    refine xg_calli (va_runV (As := []) (rest := []) ⟨hx, hb, hml, hown, hts⟩ (c_X0_waiting l hl9 hA hw) (cwV 0 hts gX5_connect_X0_waiting rfl rfl rfl (by decide +kernel) ⟨Nat.le_of_ble_eq_true rfl, Nat.le_of_ble_eq_true rfl⟩) (xg_preV hB0 hP hK hN hS xs4 rfl) rfl rfl hl.1 rfl (lv_room (Nat.le_of_ble_eq_true rfl)) dX5_connect_32 ⟨Nat.le_of_ble_eq_true rfl, Nat.le_of_ble_eq_true rfl⟩) hS (fun r3 h4 H locs hw hP hS => ?_)
    refine vx_ret ?_
    exact xg_irets hx hb hr rfl hlocks hB0 hP hK hN hS dX5_connect_35 (by decide) (by decide) hw
  · have hw := hw.2 c1
    exact xg_throw (cls := "java/lang/IllegalStateException") (text := "it is connected") (ik := 122) (is := 181) (ic := 126) hx hb hl9 hown (by decide +kernel) (hts (.classLink RX5 122 "java/lang/IllegalStateException") (by decide +kernel)) (hts (.initialized "java/lang/IllegalStateException") (by decide +kernel)) (fun w hw9 => hts w (by revert w hw9; decide +kernel)) (by decide +kernel) (by decide +kernel) (by decide +kernel) hB0 hP hK hN hS (by rw [hml]; exact hl.1) dX5_connect_10 dX5_connect_13 dX5_connect_14 dX5_connect_16 dX5_connect_19 ht (Nat.le_of_ble_eq_true rfl) (Nat.le_of_ble_eq_true rfl) (Nat.le_of_ble_eq_true rfl) (Nat.le_of_ble_eq_true rfl) hlocks (by decide) (by decide) hw
set_option maxHeartbeats 4000000 in
set_option maxRecDepth 100000 in
theorem c_X5_disconnect (l : Launch) (hl9 : l.stackTraces = false) {B0 : Nat} {ad : Nat → Nat} {D : va_G} {T : Nat → ClassId} (hA : XA B0 ad) {h : xH} {K : Int32 → xH → Prop} {KX : String → xH → Prop} (hw : w_X5_disconnect h K KX) : XT l yX5_disconnect wsX5_disconnect ({ frames := 6, cells := 1, slots := 6, locals := 100 } : Room) B0 ad D T h [.ref (ad (0))] xei K KX 1 6 := by
  unfold XT
  refine vx_ofW (cc := cX5_disconnect) (maxL := 2) (ret := (some .int)) (by decide) rfl ?_
  intro p e s m args below meth c s₁ B hml ht hv
  obtain ⟨rfl, hB0, hP, hK, hN⟩ := hv
  have hx := B.exec
  have hb := B.bytes
  have hr := B.returns
  have hts := atoms_spec (ws := wsX5_disconnect) B.pre
  have hown : s.vm.findClass RX5 = some m.cls := findClass_of_methodNamed B.named
  have hlocks := B.notSynchronized
  have iX0 : ∀ w ∈ u_ws RX0 TX0 6, w ∈ wsX5_disconnect := by decide +kernel
  have iX5 : ∀ w ∈ u_ws RX5 TX5 9, w ∈ wsX5_disconnect := by decide +kernel
  have f_30 := hts (.fieldLink RX5 30 "LogSpooler" "forwarder" "LLogSpooler$Forwarder;") (by decide +kernel)
  have f_178 := hts (.fieldLink RX5 178 "LogSpooler$Forwarder" "isConnected" "Z") (by decide +kernel)
  have hS : va_S (fun q => B0 ≤ q) s.heap s.heap [] := va_S.rf
  have hl := lv_entry ([.ref (ad (0))]) (n := 2) (Nat.le_of_ble_eq_true rfl)
  rw [lg_entry_eq]
  generalize (lg_sl ([.ref (ad (0))]) ++ List.replicate (2 - (lg_sl ([.ref (ad (0))])).length) Slot.unset).toArray = ls at hl ⊢
  have hl : lv_has ls 2 [(0, .ref (ad (0)))] := hl
  unfold w_X5_disconnect at hw
  refine lv_aload_n hx hb dX5_disconnect_0 rfl (lv_at hl 0 rfl) ?_
  refine xg_getr (C := RX5) (TC := TX5) (N := 9) hx hb hts iX5 hown hK hP xs0 rfl 3 (by decide) f_30 (fun _ h9 => h9) rfl dX5_disconnect_1 ?_
  refine xg_get (C := RX0) (TC := TX0) (N := 6) hx hb hts iX0 hown hK hP xs4 rfl 5 (by decide) f_178 (fun _ h9 => h9) rfl dX5_disconnect_4 ?_
  refine lv_if_ne (tgt := 20) hx hb dX5_disconnect_7 (by decide) (fun c1 => ?_) (fun c1 => ?_)
  · have hw := hw.2 c1
    refine lv_aload_n hx hb dX5_disconnect_20 rfl (lv_at hl 0 rfl) ?_
    refine xg_getr (C := RX5) (TC := TX5) (N := 9) hx hb hts iX5 hown hK hP xs0 rfl 3 (by decide) f_30 (fun _ h9 => h9) rfl dX5_disconnect_21 ?_
    refine xg_calli (va_runV (As := []) (rest := []) ⟨hx, hb, hml, hown, hts⟩ (c_X0_flying l hl9 hA hw) (cwV 0 hts gX5_disconnect_X0_flying rfl rfl rfl (by decide +kernel) ⟨Nat.le_of_ble_eq_true rfl, Nat.le_of_ble_eq_true rfl⟩) (xg_preV hB0 hP hK hN hS xs4 rfl) rfl rfl hl.1 rfl (lv_room (Nat.le_of_ble_eq_true rfl)) dX5_disconnect_24 ⟨Nat.le_of_ble_eq_true rfl, Nat.le_of_ble_eq_true rfl⟩) hS (fun r2 h3 H locs hw hP hS => ?_)
    refine lv_istore_n (lv' := [(1, .int (r2)), (0, .ref (ad (0)))]) hx hb dX5_disconnect_27 rfl hl (by decide) rfl (fun ls hl => ?_)
    refine lv_aload_n hx hb dX5_disconnect_28 rfl (lv_at hl 1 rfl) ?_
    refine xg_getr (C := RX5) (TC := TX5) (N := 9) hx hb hts iX5 hown hK hP xs0 rfl 3 (by decide) f_30 (fun _ h9 => h9) rfl dX5_disconnect_29 ?_
    refine xg_callv (va_runV (As := []) (rest := []) ⟨hx, hb, hml, hown, hts⟩ (c_X0_loseConnection l hl9 hA hw) (cwV 0 hts gX5_disconnect_X0_loseConnection rfl rfl rfl (by decide +kernel) ⟨Nat.le_of_ble_eq_true rfl, Nat.le_of_ble_eq_true rfl⟩) (xg_preV hB0 hP hK hN hS xs4 rfl) rfl rfl hl.1 rfl (lv_room (Nat.le_of_ble_eq_true rfl)) dX5_disconnect_32 ⟨Nat.le_of_ble_eq_true rfl, Nat.le_of_ble_eq_true rfl⟩) hS (fun _ h5 H locs hw hP hS => ?_)
    refine lv_iload_n hx hb dX5_disconnect_35 rfl (lv_at hl 0 rfl) ?_
    refine vx_ret ?_
    exact xg_irets hx hb hr rfl hlocks hB0 hP hK hN hS dX5_disconnect_36 (by decide) (by decide) hw
  · have hw := hw.1 c1
    exact xg_throw (cls := "java/lang/IllegalStateException") (text := "it is not connected") (ik := 122) (is := 186) (ic := 126) hx hb hl9 hown (by decide +kernel) (hts (.classLink RX5 122 "java/lang/IllegalStateException") (by decide +kernel)) (hts (.initialized "java/lang/IllegalStateException") (by decide +kernel)) (fun w hw9 => hts w (by revert w hw9; decide +kernel)) (by decide +kernel) (by decide +kernel) (by decide +kernel) hB0 hP hK hN hS (by rw [hml]; exact hl.1) dX5_disconnect_10 dX5_disconnect_13 dX5_disconnect_14 dX5_disconnect_16 dX5_disconnect_19 ht (Nat.le_of_ble_eq_true rfl) (Nat.le_of_ble_eq_true rfl) (Nat.le_of_ble_eq_true rfl) (Nat.le_of_ble_eq_true rfl) hlocks (by decide) (by decide) hw
set_option maxHeartbeats 4000000 in
set_option maxRecDepth 100000 in
theorem c_X5_send (l : Launch) (hl9 : l.stackTraces = false) {B0 : Nat} {ad : Nat → Nat} {D : va_G} {T : Nat → ClassId} (hA : XA B0 ad) {h : xH} {K : Int32 → xH → Prop} {KX : String → xH → Prop} (hw : w_X5_send h K KX) : XT l yX5_send wsX5_send ({ frames := 6, cells := 1, slots := 6, locals := 100 } : Room) B0 ad D T h [.ref (ad (0))] xei K KX 1 6 := by
  unfold XT
  refine vx_ofW (cc := cX5_send) (maxL := 1) (ret := (some .int)) (by decide) rfl ?_
  intro p e s m args below meth c s₁ B hml ht hv
  obtain ⟨rfl, hB0, hP, hK, hN⟩ := hv
  have hx := B.exec
  have hb := B.bytes
  have hr := B.returns
  have hts := atoms_spec (ws := wsX5_send) B.pre
  have hown : s.vm.findClass RX5 = some m.cls := findClass_of_methodNamed B.named
  have hlocks := B.notSynchronized
  have iX5 : ∀ w ∈ u_ws RX5 TX5 9, w ∈ wsX5_send := by decide +kernel
  have f_30 := hts (.fieldLink RX5 30 "LogSpooler" "forwarder" "LLogSpooler$Forwarder;") (by decide +kernel)
  have hS : va_S (fun q => B0 ≤ q) s.heap s.heap [] := va_S.rf
  have hl := lv_entry ([.ref (ad (0))]) (n := 1) (Nat.le_of_ble_eq_true rfl)
  rw [lg_entry_eq]
  generalize (lg_sl ([.ref (ad (0))]) ++ List.replicate (1 - (lg_sl ([.ref (ad (0))])).length) Slot.unset).toArray = ls at hl ⊢
  have hl : lv_has ls 1 [(0, .ref (ad (0)))] := hl
  unfold w_X5_send at hw
  refine lv_aload_n hx hb dX5_send_0 rfl (lv_at hl 0 rfl) ?_
  refine xg_getr (C := RX5) (TC := TX5) (N := 9) hx hb hts iX5 hown hK hP xs0 rfl 3 (by decide) f_30 (fun _ h9 => h9) rfl dX5_send_1 ?_
  refine xg_calli (va_runV (As := []) (rest := []) ⟨hx, hb, hml, hown, hts⟩ (c_X0_canSend l hl9 hA hw) (cwV 0 hts gX5_send_X0_canSend rfl rfl rfl (by decide +kernel) ⟨Nat.le_of_ble_eq_true rfl, Nat.le_of_ble_eq_true rfl⟩) (xg_preV hB0 hP hK hN hS xs4 rfl) rfl rfl hl.1 rfl (lv_room (Nat.le_of_ble_eq_true rfl)) dX5_send_4 ⟨Nat.le_of_ble_eq_true rfl, Nat.le_of_ble_eq_true rfl⟩) hS (fun r1 h2 H locs hw hP hS => ?_)
  refine lv_if_ne (tgt := 20) hx hb dX5_send_7 (by decide) (fun c3 => ?_) (fun c3 => ?_)
  · have hw := hw.2 c3
    refine lv_aload_n hx hb dX5_send_20 rfl (lv_at hl 0 rfl) ?_
    refine xg_getr (C := RX5) (TC := TX5) (N := 9) hx hb hts iX5 hown hK hP xs0 rfl 3 (by decide) f_30 (fun _ h9 => h9) rfl dX5_send_21 ?_
    refine xg_calli (va_runV (As := []) (rest := []) ⟨hx, hb, hml, hown, hts⟩ (c_X0_sendFirst l hl9 hA hw) (cwV 0 hts gX5_send_X0_sendFirst rfl rfl rfl (by decide +kernel) ⟨Nat.le_of_ble_eq_true rfl, Nat.le_of_ble_eq_true rfl⟩) (xg_preV hB0 hP hK hN hS xs4 rfl) rfl rfl hl.1 rfl (lv_room (Nat.le_of_ble_eq_true rfl)) dX5_send_24 ⟨Nat.le_of_ble_eq_true rfl, Nat.le_of_ble_eq_true rfl⟩) hS (fun r4 h5 H locs hw hP hS => ?_)
    refine vx_ret ?_
    exact xg_irets hx hb hr rfl hlocks hB0 hP hK hN hS dX5_send_27 (by decide) (by decide) hw
  · have hw := hw.1 c3
    exact xg_throw (cls := "java/lang/IllegalStateException") (text := "it is not connected, none is queued, or 5 are in flight") (ik := 122) (is := 197) (ic := 126) hx hb hl9 hown (by decide +kernel) (hts (.classLink RX5 122 "java/lang/IllegalStateException") (by decide +kernel)) (hts (.initialized "java/lang/IllegalStateException") (by decide +kernel)) (fun w hw9 => hts w (by revert w hw9; decide +kernel)) (by decide +kernel) (by decide +kernel) (by decide +kernel) hB0 hP hK hN hS (by rw [hml]; exact hl.1) dX5_send_10 dX5_send_13 dX5_send_14 dX5_send_16 dX5_send_19 ht (Nat.le_of_ble_eq_true rfl) (Nat.le_of_ble_eq_true rfl) (Nat.le_of_ble_eq_true rfl) (Nat.le_of_ble_eq_true rfl) hlocks (by decide) (by decide) hw
set_option maxHeartbeats 4000000 in
set_option maxRecDepth 100000 in
theorem c_X5_acknowledge (l : Launch) (hl9 : l.stackTraces = false) {B0 : Nat} {ad : Nat → Nat} {D : va_G} {T : Nat → ClassId} (hA : XA B0 ad) {h : xH} {K : Int32 → xH → Prop} {KX : String → xH → Prop} (hw : w_X5_acknowledge h K KX) : XT l yX5_acknowledge wsX5_acknowledge ({ frames := 6, cells := 1, slots := 6, locals := 100 } : Room) B0 ad D T h [.ref (ad (0))] xei K KX 1 6 := by
  unfold XT
  refine vx_ofW (cc := cX5_acknowledge) (maxL := 1) (ret := (some .int)) (by decide) rfl ?_
  intro p e s m args below meth c s₁ B hml ht hv
  obtain ⟨rfl, hB0, hP, hK, hN⟩ := hv
  have hx := B.exec
  have hb := B.bytes
  have hr := B.returns
  have hts := atoms_spec (ws := wsX5_acknowledge) B.pre
  have hown : s.vm.findClass RX5 = some m.cls := findClass_of_methodNamed B.named
  have hlocks := B.notSynchronized
  have iX5 : ∀ w ∈ u_ws RX5 TX5 9, w ∈ wsX5_acknowledge := by decide +kernel
  have f_30 := hts (.fieldLink RX5 30 "LogSpooler" "forwarder" "LLogSpooler$Forwarder;") (by decide +kernel)
  have hS : va_S (fun q => B0 ≤ q) s.heap s.heap [] := va_S.rf
  have hl := lv_entry ([.ref (ad (0))]) (n := 1) (Nat.le_of_ble_eq_true rfl)
  rw [lg_entry_eq]
  generalize (lg_sl ([.ref (ad (0))]) ++ List.replicate (1 - (lg_sl ([.ref (ad (0))])).length) Slot.unset).toArray = ls at hl ⊢
  have hl : lv_has ls 1 [(0, .ref (ad (0)))] := hl
  unfold w_X5_acknowledge at hw
  refine lv_aload_n hx hb dX5_acknowledge_0 rfl (lv_at hl 0 rfl) ?_
  refine xg_getr (C := RX5) (TC := TX5) (N := 9) hx hb hts iX5 hown hK hP xs0 rfl 3 (by decide) f_30 (fun _ h9 => h9) rfl dX5_acknowledge_1 ?_
  refine xg_calli (va_runV (As := []) (rest := []) ⟨hx, hb, hml, hown, hts⟩ (c_X0_flying l hl9 hA hw) (cwV 0 hts gX5_acknowledge_X0_flying rfl rfl rfl (by decide +kernel) ⟨Nat.le_of_ble_eq_true rfl, Nat.le_of_ble_eq_true rfl⟩) (xg_preV hB0 hP hK hN hS xs4 rfl) rfl rfl hl.1 rfl (lv_room (Nat.le_of_ble_eq_true rfl)) dX5_acknowledge_4 ⟨Nat.le_of_ble_eq_true rfl, Nat.le_of_ble_eq_true rfl⟩) hS (fun r1 h2 H locs hw hP hS => ?_)
  refine lv_if_ne (tgt := 20) hx hb dX5_acknowledge_7 (by decide) (fun c3 => ?_) (fun c3 => ?_)
  · have hw := hw.2 c3
    refine lv_aload_n hx hb dX5_acknowledge_20 rfl (lv_at hl 0 rfl) ?_
    refine xg_getr (C := RX5) (TC := TX5) (N := 9) hx hb hts iX5 hown hK hP xs0 rfl 3 (by decide) f_30 (fun _ h9 => h9) rfl dX5_acknowledge_21 ?_
    refine xg_calli (va_runV (As := []) (rest := []) ⟨hx, hb, hml, hown, hts⟩ (c_X0_acknowledgeFirst l hl9 hA hw) (cwV 0 hts gX5_acknowledge_X0_acknowledgeFirst rfl rfl rfl (by decide +kernel) ⟨Nat.le_of_ble_eq_true rfl, Nat.le_of_ble_eq_true rfl⟩) (xg_preV hB0 hP hK hN hS xs4 rfl) rfl rfl hl.1 rfl (lv_room (Nat.le_of_ble_eq_true rfl)) dX5_acknowledge_24 ⟨Nat.le_of_ble_eq_true rfl, Nat.le_of_ble_eq_true rfl⟩) hS (fun r4 h5 H locs hw hP hS => ?_)
    refine vx_ret ?_
    exact xg_irets hx hb hr rfl hlocks hB0 hP hK hN hS dX5_acknowledge_27 (by decide) (by decide) hw
  · have hw := hw.1 c3
    exact xg_throw (cls := "java/lang/IllegalStateException") (text := "none is in flight") (ik := 122) (is := 202) (ic := 126) hx hb hl9 hown (by decide +kernel) (hts (.classLink RX5 122 "java/lang/IllegalStateException") (by decide +kernel)) (hts (.initialized "java/lang/IllegalStateException") (by decide +kernel)) (fun w hw9 => hts w (by revert w hw9; decide +kernel)) (by decide +kernel) (by decide +kernel) (by decide +kernel) hB0 hP hK hN hS (by rw [hml]; exact hl.1) dX5_acknowledge_10 dX5_acknowledge_13 dX5_acknowledge_14 dX5_acknowledge_16 dX5_acknowledge_19 ht (Nat.le_of_ble_eq_true rfl) (Nat.le_of_ble_eq_true rfl) (Nat.le_of_ble_eq_true rfl) (Nat.le_of_ble_eq_true rfl) hlocks (by decide) (by decide) hw
set_option maxHeartbeats 4000000 in
set_option maxRecDepth 100000 in
theorem c_X5_time (l : Launch) (hl9 : l.stackTraces = false) {B0 : Nat} {ad : Nat → Nat} {D : va_G} {T : Nat → ClassId} (hA : XA B0 ad) {h : xH} {K : Int32 → xH → Prop} (hw : w_X5_time h K) : XM l yX5_time wsX5_time ({ frames := 0, cells := 0, slots := 0, locals := 0 } : Room) B0 ad D T h [.ref (ad (0))] xei K 0 0 := by
  unfold XM
  refine Met.ofW (cc := cX5_time) (maxL := 1) (ret := (some .int)) (by decide) rfl ?_
  intro p e s m args below meth c s₁ B hml hv
  obtain ⟨rfl, hB0, hP, hK, hN⟩ := hv
  have hx := B.exec
  have hb := B.bytes
  have hr := B.returns
  have hts := atoms_spec (ws := wsX5_time) B.pre
  have hown : s.vm.findClass RX5 = some m.cls := findClass_of_methodNamed B.named
  have hlocks := B.notSynchronized
  have iX5 : ∀ w ∈ u_ws RX5 TX5 9, w ∈ wsX5_time := by decide +kernel
  have f_41 := hts (.fieldLink RX5 41 "LogSpooler" "now" "I") (by decide +kernel)
  have hS : va_S (fun q => B0 ≤ q) s.heap s.heap [] := va_S.rf
  have hl := lv_entry ([.ref (ad (0))]) (n := 1) (Nat.le_of_ble_eq_true rfl)
  rw [lg_entry_eq]
  generalize (lg_sl ([.ref (ad (0))]) ++ List.replicate (1 - (lg_sl ([.ref (ad (0))])).length) Slot.unset).toArray = ls at hl ⊢
  have hl : lv_has ls 1 [(0, .ref (ad (0)))] := hl
  unfold w_X5_time at hw
  refine lv_aload_n hx hb dX5_time_0 rfl (lv_at hl 0 rfl) ?_
  refine xg_get (C := RX5) (TC := TX5) (N := 9) hx hb hts iX5 hown hK hP xs0 rfl 5 (by decide) f_41 (fun _ h9 => h9) rfl dX5_time_1 ?_
  exact xg_irets hx hb hr rfl hlocks hB0 hP hK hN hS dX5_time_4 (by decide) (by decide) hw
set_option maxHeartbeats 4000000 in
set_option maxRecDepth 100000 in
theorem c_X5_tokens (l : Launch) (hl9 : l.stackTraces = false) {B0 : Nat} {ad : Nat → Nat} {D : va_G} {T : Nat → ClassId} (hA : XA B0 ad) (p0 : Int32) {h : xH} {K : Int32 → xH → Prop} {KX : String → xH → Prop} (hw : w_X5_tokens p0 h K KX) : XT l yX5_tokens wsX5_tokens ({ frames := 7, cells := 1, slots := 6, locals := 121 } : Room) B0 ad D T h [.ref (ad (0)), .int (p0)] xei K KX 1 6 := by
  unfold XT
  refine vx_ofW (cc := cX5_tokens) (maxL := 2) (ret := (some .int)) (by decide) rfl ?_
  intro p e s m args below meth c s₁ B hml ht hv
  obtain ⟨rfl, hB0, hP, hK, hN⟩ := hv
  have hx := B.exec
  have hb := B.bytes
  have hr := B.returns
  have hts := atoms_spec (ws := wsX5_tokens) B.pre
  have hown : s.vm.findClass RX5 = some m.cls := findClass_of_methodNamed B.named
  have hlocks := B.notSynchronized
  have iX4 : ∀ w ∈ u_ws RX4 TX4 9, w ∈ wsX5_tokens := by decide +kernel
  have f_142 := hts (.fieldLink RX5 142 "LogSpooler$Sender" "tokensLeft" "I") (by decide +kernel)
  have hS : va_S (fun q => B0 ≤ q) s.heap s.heap [] := va_S.rf
  have hl := lv_entry ([.ref (ad (0)), .int (p0)]) (n := 2) (Nat.le_of_ble_eq_true rfl)
  rw [lg_entry_eq]
  generalize (lg_sl ([.ref (ad (0)), .int (p0)]) ++ List.replicate (2 - (lg_sl ([.ref (ad (0)), .int (p0)])).length) Slot.unset).toArray = ls at hl ⊢
  have hl : lv_has ls 2 [(0, .ref (ad (0))), (1, .int (p0))] := hl
  unfold w_X5_tokens at hw
  refine lv_aload_n hx hb dX5_tokens_0 rfl (lv_at hl 0 rfl) ?_
  refine lv_iload_n hx hb dX5_tokens_1 rfl (lv_at hl 1 rfl) ?_
  refine xg_callXr (vx_runV (As := [.int (p0)]) (rest := []) ⟨hx, hb, hml, hown, hts⟩ (c_X5_senderAt l hl9 hA p0 hw) (cwV 1 hts gX5_tokens_X5_senderAt rfl rfl rfl (by decide +kernel) ⟨Nat.le_of_ble_eq_true rfl, Nat.le_of_ble_eq_true rfl⟩) (xg_preV hB0 hP hK hN hS xs0 rfl) rfl rfl hl.1 rfl (lv_room (Nat.le_of_ble_eq_true rfl)) dX5_tokens_2 ⟨Nat.le_of_ble_eq_true rfl, Nat.le_of_ble_eq_true rfl⟩) hS (fun E8 ce9 q9 h8 H locs hw hP hS hce hcv hcl => ?_) (fun r1 h2 H locs hw hP hS => ?_)
  · exact xg_out ht hlocks hP hS hce hcv hcl (by decide) (by decide) hw
  · obtain ⟨hk3, hw⟩ := hw
    refine xg_get (C := RX4) (TC := TX4) (N := 9) hx hb hts iX4 hown hK hP (xsS hk3) rfl 1 (by decide) f_142 (fun _ h9 => h9) rfl dX5_tokens_5 ?_
    refine vx_ret ?_
    exact xg_irets hx hb hr rfl hlocks hB0 hP hK hN hS dX5_tokens_8 (by decide) (by decide) hw
set_option maxHeartbeats 4000000 in
set_option maxRecDepth 100000 in
theorem c_X5_repeats (l : Launch) (hl9 : l.stackTraces = false) {B0 : Nat} {ad : Nat → Nat} {D : va_G} {T : Nat → ClassId} (hA : XA B0 ad) (p0 : Int32) {h : xH} {K : Int32 → xH → Prop} {KX : String → xH → Prop} (hw : w_X5_repeats p0 h K KX) : XT l yX5_repeats wsX5_repeats ({ frames := 7, cells := 1, slots := 6, locals := 121 } : Room) B0 ad D T h [.ref (ad (0)), .int (p0)] xei K KX 1 6 := by
  unfold XT
  refine vx_ofW (cc := cX5_repeats) (maxL := 2) (ret := (some .int)) (by decide) rfl ?_
  intro p e s m args below meth c s₁ B hml ht hv
  obtain ⟨rfl, hB0, hP, hK, hN⟩ := hv
  have hx := B.exec
  have hb := B.bytes
  have hr := B.returns
  have hts := atoms_spec (ws := wsX5_repeats) B.pre
  have hown : s.vm.findClass RX5 = some m.cls := findClass_of_methodNamed B.named
  have hlocks := B.notSynchronized
  have iX4 : ∀ w ∈ u_ws RX4 TX4 9, w ∈ wsX5_repeats := by decide +kernel
  have f_207 := hts (.fieldLink RX5 207 "LogSpooler$Sender" "untoldRepeats" "I") (by decide +kernel)
  have hS : va_S (fun q => B0 ≤ q) s.heap s.heap [] := va_S.rf
  have hl := lv_entry ([.ref (ad (0)), .int (p0)]) (n := 2) (Nat.le_of_ble_eq_true rfl)
  rw [lg_entry_eq]
  generalize (lg_sl ([.ref (ad (0)), .int (p0)]) ++ List.replicate (2 - (lg_sl ([.ref (ad (0)), .int (p0)])).length) Slot.unset).toArray = ls at hl ⊢
  have hl : lv_has ls 2 [(0, .ref (ad (0))), (1, .int (p0))] := hl
  unfold w_X5_repeats at hw
  refine lv_aload_n hx hb dX5_repeats_0 rfl (lv_at hl 0 rfl) ?_
  refine lv_iload_n hx hb dX5_repeats_1 rfl (lv_at hl 1 rfl) ?_
  refine xg_callXr (vx_runV (As := [.int (p0)]) (rest := []) ⟨hx, hb, hml, hown, hts⟩ (c_X5_senderAt l hl9 hA p0 hw) (cwV 1 hts gX5_repeats_X5_senderAt rfl rfl rfl (by decide +kernel) ⟨Nat.le_of_ble_eq_true rfl, Nat.le_of_ble_eq_true rfl⟩) (xg_preV hB0 hP hK hN hS xs0 rfl) rfl rfl hl.1 rfl (lv_room (Nat.le_of_ble_eq_true rfl)) dX5_repeats_2 ⟨Nat.le_of_ble_eq_true rfl, Nat.le_of_ble_eq_true rfl⟩) hS (fun E8 ce9 q9 h8 H locs hw hP hS hce hcv hcl => ?_) (fun r1 h2 H locs hw hP hS => ?_)
  · exact xg_out ht hlocks hP hS hce hcv hcl (by decide) (by decide) hw
  · obtain ⟨hk3, hw⟩ := hw
    refine xg_get (C := RX4) (TC := TX4) (N := 9) hx hb hts iX4 hown hK hP (xsS hk3) rfl 2 (by decide) f_207 (fun _ h9 => h9) rfl dX5_repeats_5 ?_
    refine vx_ret ?_
    exact xg_irets hx hb hr rfl hlocks hB0 hP hK hN hS dX5_repeats_8 (by decide) (by decide) hw
set_option maxHeartbeats 4000000 in
set_option maxRecDepth 100000 in
theorem c_X5_drops (l : Launch) (hl9 : l.stackTraces = false) {B0 : Nat} {ad : Nat → Nat} {D : va_G} {T : Nat → ClassId} (hA : XA B0 ad) (p0 : Int32) {h : xH} {K : Int32 → xH → Prop} {KX : String → xH → Prop} (hw : w_X5_drops p0 h K KX) : XT l yX5_drops wsX5_drops ({ frames := 7, cells := 1, slots := 6, locals := 121 } : Room) B0 ad D T h [.ref (ad (0)), .int (p0)] xei K KX 1 6 := by
  unfold XT
  refine vx_ofW (cc := cX5_drops) (maxL := 2) (ret := (some .int)) (by decide) rfl ?_
  intro p e s m args below meth c s₁ B hml ht hv
  obtain ⟨rfl, hB0, hP, hK, hN⟩ := hv
  have hx := B.exec
  have hb := B.bytes
  have hr := B.returns
  have hts := atoms_spec (ws := wsX5_drops) B.pre
  have hown : s.vm.findClass RX5 = some m.cls := findClass_of_methodNamed B.named
  have hlocks := B.notSynchronized
  have iX4 : ∀ w ∈ u_ws RX4 TX4 9, w ∈ wsX5_drops := by decide +kernel
  have f_145 := hts (.fieldLink RX5 145 "LogSpooler$Sender" "untoldDrops" "I") (by decide +kernel)
  have hS : va_S (fun q => B0 ≤ q) s.heap s.heap [] := va_S.rf
  have hl := lv_entry ([.ref (ad (0)), .int (p0)]) (n := 2) (Nat.le_of_ble_eq_true rfl)
  rw [lg_entry_eq]
  generalize (lg_sl ([.ref (ad (0)), .int (p0)]) ++ List.replicate (2 - (lg_sl ([.ref (ad (0)), .int (p0)])).length) Slot.unset).toArray = ls at hl ⊢
  have hl : lv_has ls 2 [(0, .ref (ad (0))), (1, .int (p0))] := hl
  unfold w_X5_drops at hw
  refine lv_aload_n hx hb dX5_drops_0 rfl (lv_at hl 0 rfl) ?_
  refine lv_iload_n hx hb dX5_drops_1 rfl (lv_at hl 1 rfl) ?_
  refine xg_callXr (vx_runV (As := [.int (p0)]) (rest := []) ⟨hx, hb, hml, hown, hts⟩ (c_X5_senderAt l hl9 hA p0 hw) (cwV 1 hts gX5_drops_X5_senderAt rfl rfl rfl (by decide +kernel) ⟨Nat.le_of_ble_eq_true rfl, Nat.le_of_ble_eq_true rfl⟩) (xg_preV hB0 hP hK hN hS xs0 rfl) rfl rfl hl.1 rfl (lv_room (Nat.le_of_ble_eq_true rfl)) dX5_drops_2 ⟨Nat.le_of_ble_eq_true rfl, Nat.le_of_ble_eq_true rfl⟩) hS (fun E8 ce9 q9 h8 H locs hw hP hS hce hcv hcl => ?_) (fun r1 h2 H locs hw hP hS => ?_)
  · exact xg_out ht hlocks hP hS hce hcv hcl (by decide) (by decide) hw
  · obtain ⟨hk3, hw⟩ := hw
    refine xg_get (C := RX4) (TC := TX4) (N := 9) hx hb hts iX4 hown hK hP (xsS hk3) rfl 4 (by decide) f_145 (fun _ h9 => h9) rfl dX5_drops_5 ?_
    refine vx_ret ?_
    exact xg_irets hx hb hr rfl hlocks hB0 hP hK hN hS dX5_drops_8 (by decide) (by decide) hw
set_option maxHeartbeats 4000000 in
set_option maxRecDepth 100000 in
theorem c_X5_size (l : Launch) (hl9 : l.stackTraces = false) {B0 : Nat} {ad : Nat → Nat} {D : va_G} {T : Nat → ClassId} (hA : XA B0 ad) (p0 : Int32) {h : xH} {K : Int32 → xH → Prop} {KX : String → xH → Prop} (hw : w_X5_size p0 h K KX) : XT l yX5_size wsX5_size ({ frames := 7, cells := 1, slots := 6, locals := 121 } : Room) B0 ad D T h [.ref (ad (0)), .int (p0)] xei K KX 1 6 := by
  unfold XT
  refine vx_ofW (cc := cX5_size) (maxL := 2) (ret := (some .int)) (by decide) rfl ?_
  intro p e s m args below meth c s₁ B hml ht hv
  obtain ⟨rfl, hB0, hP, hK, hN⟩ := hv
  have hx := B.exec
  have hb := B.bytes
  have hr := B.returns
  have hts := atoms_spec (ws := wsX5_size) B.pre
  have hown : s.vm.findClass RX5 = some m.cls := findClass_of_methodNamed B.named
  have hlocks := B.notSynchronized
  have iX2 : ∀ w ∈ u_ws RX2 TX2 10, w ∈ wsX5_size := by decide +kernel
  have f_109 := hts (.fieldLink RX5 109 "LogSpooler$LogFile" "sumOfLengths" "I") (by decide +kernel)
  have hS : va_S (fun q => B0 ≤ q) s.heap s.heap [] := va_S.rf
  have hl := lv_entry ([.ref (ad (0)), .int (p0)]) (n := 2) (Nat.le_of_ble_eq_true rfl)
  rw [lg_entry_eq]
  generalize (lg_sl ([.ref (ad (0)), .int (p0)]) ++ List.replicate (2 - (lg_sl ([.ref (ad (0)), .int (p0)])).length) Slot.unset).toArray = ls at hl ⊢
  have hl : lv_has ls 2 [(0, .ref (ad (0))), (1, .int (p0))] := hl
  unfold w_X5_size at hw
  refine lv_aload_n hx hb dX5_size_0 rfl (lv_at hl 0 rfl) ?_
  refine lv_iload_n hx hb dX5_size_1 rfl (lv_at hl 1 rfl) ?_
  refine xg_callXr (vx_runV (As := [.int (p0)]) (rest := []) ⟨hx, hb, hml, hown, hts⟩ (c_X5_fileAt l hl9 hA p0 hw) (cwV 1 hts gX5_size_X5_fileAt rfl rfl rfl (by decide +kernel) ⟨Nat.le_of_ble_eq_true rfl, Nat.le_of_ble_eq_true rfl⟩) (xg_preV hB0 hP hK hN hS xs0 rfl) rfl rfl hl.1 rfl (lv_room (Nat.le_of_ble_eq_true rfl)) dX5_size_2 ⟨Nat.le_of_ble_eq_true rfl, Nat.le_of_ble_eq_true rfl⟩) hS (fun E8 ce9 q9 h8 H locs hw hP hS hce hcv hcl => ?_) (fun r1 h2 H locs hw hP hS => ?_)
  · exact xg_out ht hlocks hP hS hce hcv hcl (by decide) (by decide) hw
  · obtain ⟨hk3, hw⟩ := hw
    refine xg_get (C := RX2) (TC := TX2) (N := 10) hx hb hts iX2 hown hK hP (xsF hk3) rfl 7 (by decide) f_109 (fun _ h9 => h9) rfl dX5_size_5 ?_
    refine vx_ret ?_
    exact xg_irets hx hb hr rfl hlocks hB0 hP hK hN hS dX5_size_8 (by decide) (by decide) hw
set_option maxHeartbeats 4000000 in
set_option maxRecDepth 100000 in
theorem c_X5_lines (l : Launch) (hl9 : l.stackTraces = false) {B0 : Nat} {ad : Nat → Nat} {D : va_G} {T : Nat → ClassId} (hA : XA B0 ad) (p0 : Int32) (p1 : Int32) {h : xH} {K : Int32 → xH → Prop} {KX : String → xH → Prop} (hw : w_X5_lines p0 p1 h K KX) : XT l yX5_lines wsX5_lines ({ frames := 7, cells := 2, slots := 12, locals := 121 } : Room) B0 ad D T h [.ref (ad (0)), .int (p0), .int (p1)] xei K KX 2 12 := by
  unfold XT
  refine vx_ofW (cc := cX5_lines) (maxL := 4) (ret := (some .int)) (by decide) rfl ?_
  intro p e s m args below meth c s₁ B hml ht hv
  obtain ⟨rfl, hB0, hP, hK, hN⟩ := hv
  have hx := B.exec
  have hb := B.bytes
  have hr := B.returns
  have hts := atoms_spec (ws := wsX5_lines) B.pre
  have hown : s.vm.findClass RX5 = some m.cls := findClass_of_methodNamed B.named
  have hlocks := B.notSynchronized
  have hS : va_S (fun q => B0 ≤ q) s.heap s.heap [] := va_S.rf
  have hl := lv_entry ([.ref (ad (0)), .int (p0), .int (p1)]) (n := 4) (Nat.le_of_ble_eq_true rfl)
  rw [lg_entry_eq]
  generalize (lg_sl ([.ref (ad (0)), .int (p0), .int (p1)]) ++ List.replicate (4 - (lg_sl ([.ref (ad (0)), .int (p0), .int (p1)])).length) Slot.unset).toArray = ls at hl ⊢
  have hl : lv_has ls 4 [(0, .ref (ad (0))), (1, .int (p0)), (2, .int (p1))] := hl
  unfold w_X5_lines at hw
  refine lv_aload_n hx hb dX5_lines_0 rfl (lv_at hl 0 rfl) ?_
  refine lv_iload_n hx hb dX5_lines_1 rfl (lv_at hl 1 rfl) ?_
  refine xg_callXr (vx_runV (As := [.int (p0)]) (rest := []) ⟨hx, hb, hml, hown, hts⟩ (c_X5_fileAt l hl9 hA p0 hw) (cwV 1 hts gX5_lines_X5_fileAt rfl rfl rfl (by decide +kernel) ⟨Nat.le_of_ble_eq_true rfl, Nat.le_of_ble_eq_true rfl⟩) (xg_preV hB0 hP hK hN hS xs0 rfl) rfl rfl hl.1 rfl (lv_room (Nat.le_of_ble_eq_true rfl)) dX5_lines_2 ⟨Nat.le_of_ble_eq_true rfl, Nat.le_of_ble_eq_true rfl⟩) hS (fun E8 ce9 q9 h8 H locs hw hP hS hce hcv hcl => ?_) (fun r1 h2 H locs hw hP hS => ?_)
  · exact xg_out ht hlocks hP hS hce hcv hcl (by decide) (by decide) hw
  · obtain ⟨hk3, hw⟩ := hw
    refine lv_astore_n (lv' := [(3, .ref (ad (r1))), (0, .ref (ad (0))), (1, .int (p0)), (2, .int (p1))]) hx hb dX5_lines_5 rfl hl (by decide) rfl (fun ls hl => ?_)
    refine lv_aload_n hx hb dX5_lines_6 rfl (lv_at hl 0 rfl) ?_
    refine lv_iload_n hx hb dX5_lines_7 rfl (lv_at hl 3 rfl) ?_
    refine xg_calli (va_runV (As := [.int (p1)]) (rest := []) ⟨hx, hb, hml, hown, hts⟩ (c_X2_has l hl9 hA r1 hk3 p1 hw) (cwV 1 hts gX5_lines_X2_has rfl rfl rfl (by decide +kernel) ⟨Nat.le_of_ble_eq_true rfl, Nat.le_of_ble_eq_true rfl⟩) (xg_preV hB0 hP hK hN hS (xsF hk3) rfl) rfl rfl hl.1 rfl (lv_room (Nat.le_of_ble_eq_true rfl)) dX5_lines_8 ⟨Nat.le_of_ble_eq_true rfl, Nat.le_of_ble_eq_true rfl⟩) hS (fun r4 h5 H locs hw hP hS => ?_)
    refine lv_if_ne (tgt := 24) hx hb dX5_lines_11 (by decide) (fun c6 => ?_) (fun c6 => ?_)
    · have hw := hw.2 c6
      refine lv_aload_n hx hb dX5_lines_24 rfl (lv_at hl 0 rfl) ?_
      refine lv_iload_n hx hb dX5_lines_25 rfl (lv_at hl 3 rfl) ?_
      refine xg_calli (va_runV (As := [.int (p1)]) (rest := []) ⟨hx, hb, hml, hown, hts⟩ (c_X2_linesOf l hl9 hA r1 hk3 p1 hw) (cwV 1 hts gX5_lines_X2_linesOf rfl rfl rfl (by decide +kernel) ⟨Nat.le_of_ble_eq_true rfl, Nat.le_of_ble_eq_true rfl⟩) (xg_preV hB0 hP hK hN hS (xsF hk3) rfl) rfl rfl hl.1 rfl (lv_room (Nat.le_of_ble_eq_true rfl)) dX5_lines_26 ⟨Nat.le_of_ble_eq_true rfl, Nat.le_of_ble_eq_true rfl⟩) hS (fun r7 h8 H locs hw hP hS => ?_)
      refine vx_ret ?_
      exact xg_irets hx hb hr rfl hlocks hB0 hP hK hN hS dX5_lines_29 (by decide) (by decide) hw
    · have hw := hw.1 c6
      exact xg_throw (cls := "java/lang/IndexOutOfBoundsException") (text := "no such generation") (ik := 80) (is := 214) (ic := 84) hx hb hl9 hown (by decide +kernel) (hts (.classLink RX5 80 "java/lang/IndexOutOfBoundsException") (by decide +kernel)) (hts (.initialized "java/lang/IndexOutOfBoundsException") (by decide +kernel)) (fun w hw9 => hts w (by revert w hw9; decide +kernel)) (by decide +kernel) (by decide +kernel) (by decide +kernel) hB0 hP hK hN hS (by rw [hml]; exact hl.1) dX5_lines_14 dX5_lines_17 dX5_lines_18 dX5_lines_20 dX5_lines_23 ht (Nat.le_of_ble_eq_true rfl) (Nat.le_of_ble_eq_true rfl) (Nat.le_of_ble_eq_true rfl) (Nat.le_of_ble_eq_true rfl) hlocks (by decide) (by decide) hw
set_option maxHeartbeats 4000000 in
set_option maxRecDepth 100000 in
theorem c_X5_line (l : Launch) (hl9 : l.stackTraces = false) {B0 : Nat} {ad : Nat → Nat} {D : va_G} {T : Nat → ClassId} (hA : XA B0 ad) (p0 : Int32) (p1 : Int32) (p2 : Int32) {h : xH} {K : Int32 → xH → Prop} {KX : String → xH → Prop} (hw : w_X5_line p0 p1 p2 h K KX) : XT l yX5_line wsX5_line ({ frames := 7, cells := 2, slots := 12, locals := 121 } : Room) B0 ad D T h [.ref (ad (0)), .int (p0), .int (p1), .int (p2)] xei K KX 2 12 := by
  unfold XT
  refine vx_ofW (cc := cX5_line) (maxL := 5) (ret := (some .int)) (by decide) rfl ?_
  intro p e s m args below meth c s₁ B hml ht hv
  obtain ⟨rfl, hB0, hP, hK, hN⟩ := hv
  have hx := B.exec
  have hb := B.bytes
  have hr := B.returns
  have hts := atoms_spec (ws := wsX5_line) B.pre
  have hown : s.vm.findClass RX5 = some m.cls := findClass_of_methodNamed B.named
  have hlocks := B.notSynchronized
  have hS : va_S (fun q => B0 ≤ q) s.heap s.heap [] := va_S.rf
  have hl := lv_entry ([.ref (ad (0)), .int (p0), .int (p1), .int (p2)]) (n := 5) (Nat.le_of_ble_eq_true rfl)
  rw [lg_entry_eq]
  generalize (lg_sl ([.ref (ad (0)), .int (p0), .int (p1), .int (p2)]) ++ List.replicate (5 - (lg_sl ([.ref (ad (0)), .int (p0), .int (p1), .int (p2)])).length) Slot.unset).toArray = ls at hl ⊢
  have hl : lv_has ls 5 [(0, .ref (ad (0))), (1, .int (p0)), (2, .int (p1)), (3, .int (p2))] := hl
  unfold w_X5_line at hw
  refine lv_aload_n hx hb dX5_line_0 rfl (lv_at hl 0 rfl) ?_
  refine lv_iload_n hx hb dX5_line_1 rfl (lv_at hl 1 rfl) ?_
  refine xg_callXr (vx_runV (As := [.int (p0)]) (rest := []) ⟨hx, hb, hml, hown, hts⟩ (c_X5_fileAt l hl9 hA p0 hw) (cwV 1 hts gX5_line_X5_fileAt rfl rfl rfl (by decide +kernel) ⟨Nat.le_of_ble_eq_true rfl, Nat.le_of_ble_eq_true rfl⟩) (xg_preV hB0 hP hK hN hS xs0 rfl) rfl rfl hl.1 rfl (lv_room (Nat.le_of_ble_eq_true rfl)) dX5_line_2 ⟨Nat.le_of_ble_eq_true rfl, Nat.le_of_ble_eq_true rfl⟩) hS (fun E8 ce9 q9 h8 H locs hw hP hS hce hcv hcl => ?_) (fun r1 h2 H locs hw hP hS => ?_)
  · exact xg_out ht hlocks hP hS hce hcv hcl (by decide) (by decide) hw
  · obtain ⟨hk3, hw⟩ := hw
    refine lv_astore (lv' := [(4, .ref (ad (r1))), (0, .ref (ad (0))), (1, .int (p0)), (2, .int (p1)), (3, .int (p2))]) hx hb dX5_line_5 hl (by decide) rfl (fun ls hl => ?_)
    refine lv_aload hx hb dX5_line_7 (lv_at hl 0 rfl) ?_
    refine lv_iload_n hx hb dX5_line_9 rfl (lv_at hl 3 rfl) ?_
    refine xg_calli (va_runV (As := [.int (p1)]) (rest := []) ⟨hx, hb, hml, hown, hts⟩ (c_X2_has l hl9 hA r1 hk3 p1 hw) (cwV 1 hts gX5_line_X2_has rfl rfl rfl (by decide +kernel) ⟨Nat.le_of_ble_eq_true rfl, Nat.le_of_ble_eq_true rfl⟩) (xg_preV hB0 hP hK hN hS (xsF hk3) rfl) rfl rfl hl.1 rfl (lv_room (Nat.le_of_ble_eq_true rfl)) dX5_line_10 ⟨Nat.le_of_ble_eq_true rfl, Nat.le_of_ble_eq_true rfl⟩) hS (fun r4 h5 H locs hw hP hS => ?_)
    refine lv_if_ne (tgt := 26) hx hb dX5_line_13 (by decide) (fun c6 => ?_) (fun c6 => ?_)
    · have hw := hw.2 c6
      refine lv_iload_n hx hb dX5_line_26 rfl (lv_at hl 4 rfl) ?_
      refine lv_iconst (v := 0) hx hb dX5_line_27 (by decide) ?_
      refine lv_aload hx hb dX5_line_28 (lv_at hl 0 rfl) ?_
      refine lv_iload_n hx hb dX5_line_30 rfl (lv_at hl 3 rfl) ?_
      refine xg_calli (va_runV (As := [.int (p1)]) (rest := [.int (0), .int (p2)]) ⟨hx, hb, hml, hown, hts⟩ (c_X2_linesOf l hl9 hA r1 hk3 p1 hw) (cwV 1 hts gX5_line_X2_linesOf rfl rfl rfl (by decide +kernel) ⟨Nat.le_of_ble_eq_true rfl, Nat.le_of_ble_eq_true rfl⟩) (xg_preV hB0 hP hK hN hS (xsF hk3) rfl) rfl rfl hl.1 rfl (lv_room (Nat.le_of_ble_eq_true rfl)) dX5_line_31 ⟨Nat.le_of_ble_eq_true rfl, Nat.le_of_ble_eq_true rfl⟩) hS (fun r7 h8 H locs hw hP hS => ?_)
      refine lv_iconst (v := 1) hx hb dX5_line_34 (by decide) ?_
      refine lv_isub hx hb dX5_line_35 ?_
      refine xg_calli (va_runS (As := [.int (p2), .int (0), .int ((r7 - 1))]) (rest := []) ⟨hx, hb, hml, hown, hts⟩ (c_X5_isWithin l hl9 hA p2 (0 : Int32) (r7 - 1) hw) (va_cwS 3 hts gX5_line_X5_isWithin rfl rfl rfl (by decide +kernel) ⟨Nat.le_of_ble_eq_true rfl, Nat.le_of_ble_eq_true rfl⟩) (xg_preS hB0 hP hK hN hS) rfl rfl hl.1 rfl (lv_room (Nat.le_of_ble_eq_true rfl)) dX5_line_36 ⟨Nat.le_of_ble_eq_true rfl, Nat.le_of_ble_eq_true rfl⟩) hS (fun r9 h10 H locs hw hP hS => ?_)
      refine lv_if_ne (tgt := 52) hx hb dX5_line_39 (by decide) (fun c11 => ?_) (fun c11 => ?_)
      · have hw := hw.2 c11
        refine lv_aload hx hb dX5_line_52 (lv_at hl 0 rfl) ?_
        refine lv_iload_n hx hb dX5_line_54 rfl (lv_at hl 3 rfl) ?_
        refine lv_iload_n hx hb dX5_line_55 rfl (lv_at hl 4 rfl) ?_
        refine xg_calli (va_runV (As := [.int (p1), .int (p2)]) (rest := []) ⟨hx, hb, hml, hown, hts⟩ (c_X2_lineAt l hl9 hA r1 hk3 p1 p2 hw) (cwV 2 hts gX5_line_X2_lineAt rfl rfl rfl (by decide +kernel) ⟨Nat.le_of_ble_eq_true rfl, Nat.le_of_ble_eq_true rfl⟩) (xg_preV hB0 hP hK hN hS (xsF hk3) rfl) rfl rfl hl.1 rfl (lv_room (Nat.le_of_ble_eq_true rfl)) dX5_line_56 ⟨Nat.le_of_ble_eq_true rfl, Nat.le_of_ble_eq_true rfl⟩) hS (fun r12 h13 H locs hw hP hS => ?_)
        refine vx_ret ?_
        exact xg_irets hx hb hr rfl hlocks hB0 hP hK hN hS dX5_line_59 (by decide) (by decide) hw
      · have hw := hw.1 c11
        exact xg_throw (cls := "java/lang/IndexOutOfBoundsException") (text := "no such place") (ik := 80) (is := 220) (ic := 84) hx hb hl9 hown (by decide +kernel) (hts (.classLink RX5 80 "java/lang/IndexOutOfBoundsException") (by decide +kernel)) (hts (.initialized "java/lang/IndexOutOfBoundsException") (by decide +kernel)) (fun w hw9 => hts w (by revert w hw9; decide +kernel)) (by decide +kernel) (by decide +kernel) (by decide +kernel) hB0 hP hK hN hS (by rw [hml]; exact hl.1) dX5_line_42 dX5_line_45 dX5_line_46 dX5_line_48 dX5_line_51 ht (Nat.le_of_ble_eq_true rfl) (Nat.le_of_ble_eq_true rfl) (Nat.le_of_ble_eq_true rfl) (Nat.le_of_ble_eq_true rfl) hlocks (by decide) (by decide) hw
    · have hw := hw.1 c6
      exact xg_throw (cls := "java/lang/IndexOutOfBoundsException") (text := "no such generation") (ik := 80) (is := 214) (ic := 84) hx hb hl9 hown (by decide +kernel) (hts (.classLink RX5 80 "java/lang/IndexOutOfBoundsException") (by decide +kernel)) (hts (.initialized "java/lang/IndexOutOfBoundsException") (by decide +kernel)) (fun w hw9 => hts w (by revert w hw9; decide +kernel)) (by decide +kernel) (by decide +kernel) (by decide +kernel) hB0 hP hK hN hS (by rw [hml]; exact hl.1) dX5_line_16 dX5_line_19 dX5_line_20 dX5_line_22 dX5_line_25 ht (Nat.le_of_ble_eq_true rfl) (Nat.le_of_ble_eq_true rfl) (Nat.le_of_ble_eq_true rfl) (Nat.le_of_ble_eq_true rfl) hlocks (by decide) (by decide) hw
set_option maxHeartbeats 4000000 in
set_option maxRecDepth 100000 in
theorem c_X5_generations (l : Launch) (hl9 : l.stackTraces = false) {B0 : Nat} {ad : Nat → Nat} {D : va_G} {T : Nat → ClassId} (hA : XA B0 ad) (p0 : Int32) {h : xH} {K : Int32 → xH → Prop} {KX : String → xH → Prop} (hw : w_X5_generations p0 h K KX) : XT l yX5_generations wsX5_generations ({ frames := 7, cells := 1, slots := 6, locals := 121 } : Room) B0 ad D T h [.ref (ad (0)), .int (p0)] xei K KX 1 6 := by
  unfold XT
  refine vx_ofW (cc := cX5_generations) (maxL := 2) (ret := (some .int)) (by decide) rfl ?_
  intro p e s m args below meth c s₁ B hml ht hv
  obtain ⟨rfl, hB0, hP, hK, hN⟩ := hv
  have hx := B.exec
  have hb := B.bytes
  have hr := B.returns
  have hts := atoms_spec (ws := wsX5_generations) B.pre
  have hown : s.vm.findClass RX5 = some m.cls := findClass_of_methodNamed B.named
  have hlocks := B.notSynchronized
  have iX2 : ∀ w ∈ u_ws RX2 TX2 10, w ∈ wsX5_generations := by decide +kernel
  have f_175 := hts (.fieldLink RX5 175 "LogSpooler$LogFile" "olderOnes" "I") (by decide +kernel)
  have hS : va_S (fun q => B0 ≤ q) s.heap s.heap [] := va_S.rf
  have hl := lv_entry ([.ref (ad (0)), .int (p0)]) (n := 2) (Nat.le_of_ble_eq_true rfl)
  rw [lg_entry_eq]
  generalize (lg_sl ([.ref (ad (0)), .int (p0)]) ++ List.replicate (2 - (lg_sl ([.ref (ad (0)), .int (p0)])).length) Slot.unset).toArray = ls at hl ⊢
  have hl : lv_has ls 2 [(0, .ref (ad (0))), (1, .int (p0))] := hl
  unfold w_X5_generations at hw
  refine lv_aload_n hx hb dX5_generations_0 rfl (lv_at hl 0 rfl) ?_
  refine lv_iload_n hx hb dX5_generations_1 rfl (lv_at hl 1 rfl) ?_
  refine xg_callXr (vx_runV (As := [.int (p0)]) (rest := []) ⟨hx, hb, hml, hown, hts⟩ (c_X5_fileAt l hl9 hA p0 hw) (cwV 1 hts gX5_generations_X5_fileAt rfl rfl rfl (by decide +kernel) ⟨Nat.le_of_ble_eq_true rfl, Nat.le_of_ble_eq_true rfl⟩) (xg_preV hB0 hP hK hN hS xs0 rfl) rfl rfl hl.1 rfl (lv_room (Nat.le_of_ble_eq_true rfl)) dX5_generations_2 ⟨Nat.le_of_ble_eq_true rfl, Nat.le_of_ble_eq_true rfl⟩) hS (fun E8 ce9 q9 h8 H locs hw hP hS hce hcv hcl => ?_) (fun r1 h2 H locs hw hP hS => ?_)
  · exact xg_out ht hlocks hP hS hce hcv hcl (by decide) (by decide) hw
  · obtain ⟨hk3, hw⟩ := hw
    refine xg_get (C := RX2) (TC := TX2) (N := 10) hx hb hts iX2 hown hK hP (xsF hk3) rfl 8 (by decide) f_175 (fun _ h9 => h9) rfl dX5_generations_5 ?_
    refine vx_ret ?_
    exact xg_irets hx hb hr rfl hlocks hB0 hP hK hN hS dX5_generations_8 (by decide) (by decide) hw
set_option maxHeartbeats 4000000 in
set_option maxRecDepth 100000 in
theorem c_X5_queued (l : Launch) (hl9 : l.stackTraces = false) {B0 : Nat} {ad : Nat → Nat} {D : va_G} {T : Nat → ClassId} (hA : XA B0 ad) {h : xH} {K : Int32 → xH → Prop} (hw : w_X5_queued h K) : XM l yX5_queued wsX5_queued ({ frames := 1, cells := 0, slots := 0, locals := 20 } : Room) B0 ad D T h [.ref (ad (0))] xei K 0 0 := by
  unfold XM
  refine Met.ofW (cc := cX5_queued) (maxL := 1) (ret := (some .int)) (by decide) rfl ?_
  intro p e s m args below meth c s₁ B hml hv
  obtain ⟨rfl, hB0, hP, hK, hN⟩ := hv
  have hx := B.exec
  have hb := B.bytes
  have hr := B.returns
  have hts := atoms_spec (ws := wsX5_queued) B.pre
  have hown : s.vm.findClass RX5 = some m.cls := findClass_of_methodNamed B.named
  have hlocks := B.notSynchronized
  have iX5 : ∀ w ∈ u_ws RX5 TX5 9, w ∈ wsX5_queued := by decide +kernel
  have f_30 := hts (.fieldLink RX5 30 "LogSpooler" "forwarder" "LLogSpooler$Forwarder;") (by decide +kernel)
  have hS : va_S (fun q => B0 ≤ q) s.heap s.heap [] := va_S.rf
  have hl := lv_entry ([.ref (ad (0))]) (n := 1) (Nat.le_of_ble_eq_true rfl)
  rw [lg_entry_eq]
  generalize (lg_sl ([.ref (ad (0))]) ++ List.replicate (1 - (lg_sl ([.ref (ad (0))])).length) Slot.unset).toArray = ls at hl ⊢
  have hl : lv_has ls 1 [(0, .ref (ad (0)))] := hl
  unfold w_X5_queued at hw
  refine lv_aload_n hx hb dX5_queued_0 rfl (lv_at hl 0 rfl) ?_
  refine xg_getr (C := RX5) (TC := TX5) (N := 9) hx hb hts iX5 hown hK hP xs0 rfl 3 (by decide) f_30 (fun _ h9 => h9) rfl dX5_queued_1 ?_
  refine xg_calli (va_runV (As := []) (rest := []) ⟨hx, hb, hml, hown, hts⟩ (c_X0_waiting l hl9 hA hw) (cwV 0 hts gX5_queued_X0_waiting rfl rfl rfl (by decide +kernel) ⟨Nat.le_of_ble_eq_true rfl, Nat.le_of_ble_eq_true rfl⟩) (xg_preV hB0 hP hK hN hS xs4 rfl) rfl rfl hl.1 rfl (lv_room (Nat.le_of_ble_eq_true rfl)) dX5_queued_4 ⟨Nat.le_of_ble_eq_true rfl, Nat.le_of_ble_eq_true rfl⟩) hS (fun r1 h2 H locs hw hP hS => ?_)
  exact xg_irets hx hb hr rfl hlocks hB0 hP hK hN hS dX5_queued_7 (by decide) (by decide) hw
set_option maxHeartbeats 4000000 in
set_option maxRecDepth 100000 in
theorem c_X5_inFlight (l : Launch) (hl9 : l.stackTraces = false) {B0 : Nat} {ad : Nat → Nat} {D : va_G} {T : Nat → ClassId} (hA : XA B0 ad) {h : xH} {K : Int32 → xH → Prop} (hw : w_X5_inFlight h K) : XM l yX5_inFlight wsX5_inFlight ({ frames := 1, cells := 0, slots := 0, locals := 20 } : Room) B0 ad D T h [.ref (ad (0))] xei K 0 0 := by
  unfold XM
  refine Met.ofW (cc := cX5_inFlight) (maxL := 1) (ret := (some .int)) (by decide) rfl ?_
  intro p e s m args below meth c s₁ B hml hv
  obtain ⟨rfl, hB0, hP, hK, hN⟩ := hv
  have hx := B.exec
  have hb := B.bytes
  have hr := B.returns
  have hts := atoms_spec (ws := wsX5_inFlight) B.pre
  have hown : s.vm.findClass RX5 = some m.cls := findClass_of_methodNamed B.named
  have hlocks := B.notSynchronized
  have iX5 : ∀ w ∈ u_ws RX5 TX5 9, w ∈ wsX5_inFlight := by decide +kernel
  have f_30 := hts (.fieldLink RX5 30 "LogSpooler" "forwarder" "LLogSpooler$Forwarder;") (by decide +kernel)
  have hS : va_S (fun q => B0 ≤ q) s.heap s.heap [] := va_S.rf
  have hl := lv_entry ([.ref (ad (0))]) (n := 1) (Nat.le_of_ble_eq_true rfl)
  rw [lg_entry_eq]
  generalize (lg_sl ([.ref (ad (0))]) ++ List.replicate (1 - (lg_sl ([.ref (ad (0))])).length) Slot.unset).toArray = ls at hl ⊢
  have hl : lv_has ls 1 [(0, .ref (ad (0)))] := hl
  unfold w_X5_inFlight at hw
  refine lv_aload_n hx hb dX5_inFlight_0 rfl (lv_at hl 0 rfl) ?_
  refine xg_getr (C := RX5) (TC := TX5) (N := 9) hx hb hts iX5 hown hK hP xs0 rfl 3 (by decide) f_30 (fun _ h9 => h9) rfl dX5_inFlight_1 ?_
  refine xg_calli (va_runV (As := []) (rest := []) ⟨hx, hb, hml, hown, hts⟩ (c_X0_flying l hl9 hA hw) (cwV 0 hts gX5_inFlight_X0_flying rfl rfl rfl (by decide +kernel) ⟨Nat.le_of_ble_eq_true rfl, Nat.le_of_ble_eq_true rfl⟩) (xg_preV hB0 hP hK hN hS xs4 rfl) rfl rfl hl.1 rfl (lv_room (Nat.le_of_ble_eq_true rfl)) dX5_inFlight_4 ⟨Nat.le_of_ble_eq_true rfl, Nat.le_of_ble_eq_true rfl⟩) hS (fun r1 h2 H locs hw hP hS => ?_)
  exact xg_irets hx hb hr rfl hlocks hB0 hP hK hN hS dX5_inFlight_7 (by decide) (by decide) hw
set_option maxHeartbeats 4000000 in
set_option maxRecDepth 100000 in
theorem c_X5_acknowledged (l : Launch) (hl9 : l.stackTraces = false) {B0 : Nat} {ad : Nat → Nat} {D : va_G} {T : Nat → ClassId} (hA : XA B0 ad) {h : xH} {K : Int32 → xH → Prop} (hw : w_X5_acknowledged h K) : XM l yX5_acknowledged wsX5_acknowledged ({ frames := 0, cells := 0, slots := 0, locals := 0 } : Room) B0 ad D T h [.ref (ad (0))] xei K 0 0 := by
  unfold XM
  refine Met.ofW (cc := cX5_acknowledged) (maxL := 1) (ret := (some .int)) (by decide) rfl ?_
  intro p e s m args below meth c s₁ B hml hv
  obtain ⟨rfl, hB0, hP, hK, hN⟩ := hv
  have hx := B.exec
  have hb := B.bytes
  have hr := B.returns
  have hts := atoms_spec (ws := wsX5_acknowledged) B.pre
  have hown : s.vm.findClass RX5 = some m.cls := findClass_of_methodNamed B.named
  have hlocks := B.notSynchronized
  have iX0 : ∀ w ∈ u_ws RX0 TX0 6, w ∈ wsX5_acknowledged := by decide +kernel
  have iX5 : ∀ w ∈ u_ws RX5 TX5 9, w ∈ wsX5_acknowledged := by decide +kernel
  have f_30 := hts (.fieldLink RX5 30 "LogSpooler" "forwarder" "LLogSpooler$Forwarder;") (by decide +kernel)
  have f_225 := hts (.fieldLink RX5 225 "LogSpooler$Forwarder" "acknowledgedOnes" "I") (by decide +kernel)
  have hS : va_S (fun q => B0 ≤ q) s.heap s.heap [] := va_S.rf
  have hl := lv_entry ([.ref (ad (0))]) (n := 1) (Nat.le_of_ble_eq_true rfl)
  rw [lg_entry_eq]
  generalize (lg_sl ([.ref (ad (0))]) ++ List.replicate (1 - (lg_sl ([.ref (ad (0))])).length) Slot.unset).toArray = ls at hl ⊢
  have hl : lv_has ls 1 [(0, .ref (ad (0)))] := hl
  unfold w_X5_acknowledged at hw
  refine lv_aload_n hx hb dX5_acknowledged_0 rfl (lv_at hl 0 rfl) ?_
  refine xg_getr (C := RX5) (TC := TX5) (N := 9) hx hb hts iX5 hown hK hP xs0 rfl 3 (by decide) f_30 (fun _ h9 => h9) rfl dX5_acknowledged_1 ?_
  refine xg_get (C := RX0) (TC := TX0) (N := 6) hx hb hts iX0 hown hK hP xs4 rfl 3 (by decide) f_225 (fun _ h9 => h9) rfl dX5_acknowledged_4 ?_
  exact xg_irets hx hb hr rfl hlocks hB0 hP hK hN hS dX5_acknowledged_7 (by decide) (by decide) hw
set_option maxHeartbeats 4000000 in
set_option maxRecDepth 100000 in
theorem c_X5_lost (l : Launch) (hl9 : l.stackTraces = false) {B0 : Nat} {ad : Nat → Nat} {D : va_G} {T : Nat → ClassId} (hA : XA B0 ad) {h : xH} {K : Int32 → xH → Prop} (hw : w_X5_lost h K) : XM l yX5_lost wsX5_lost ({ frames := 0, cells := 0, slots := 0, locals := 0 } : Room) B0 ad D T h [.ref (ad (0))] xei K 0 0 := by
  unfold XM
  refine Met.ofW (cc := cX5_lost) (maxL := 1) (ret := (some .int)) (by decide) rfl ?_
  intro p e s m args below meth c s₁ B hml hv
  obtain ⟨rfl, hB0, hP, hK, hN⟩ := hv
  have hx := B.exec
  have hb := B.bytes
  have hr := B.returns
  have hts := atoms_spec (ws := wsX5_lost) B.pre
  have hown : s.vm.findClass RX5 = some m.cls := findClass_of_methodNamed B.named
  have hlocks := B.notSynchronized
  have iX0 : ∀ w ∈ u_ws RX0 TX0 6, w ∈ wsX5_lost := by decide +kernel
  have iX5 : ∀ w ∈ u_ws RX5 TX5 9, w ∈ wsX5_lost := by decide +kernel
  have f_30 := hts (.fieldLink RX5 30 "LogSpooler" "forwarder" "LLogSpooler$Forwarder;") (by decide +kernel)
  have f_228 := hts (.fieldLink RX5 228 "LogSpooler$Forwarder" "lostOnes" "I") (by decide +kernel)
  have hS : va_S (fun q => B0 ≤ q) s.heap s.heap [] := va_S.rf
  have hl := lv_entry ([.ref (ad (0))]) (n := 1) (Nat.le_of_ble_eq_true rfl)
  rw [lg_entry_eq]
  generalize (lg_sl ([.ref (ad (0))]) ++ List.replicate (1 - (lg_sl ([.ref (ad (0))])).length) Slot.unset).toArray = ls at hl ⊢
  have hl : lv_has ls 1 [(0, .ref (ad (0)))] := hl
  unfold w_X5_lost at hw
  refine lv_aload_n hx hb dX5_lost_0 rfl (lv_at hl 0 rfl) ?_
  refine xg_getr (C := RX5) (TC := TX5) (N := 9) hx hb hts iX5 hown hK hP xs0 rfl 3 (by decide) f_30 (fun _ h9 => h9) rfl dX5_lost_1 ?_
  refine xg_get (C := RX0) (TC := TX0) (N := 6) hx hb hts iX0 hown hK hP xs4 rfl 4 (by decide) f_228 (fun _ h9 => h9) rfl dX5_lost_4 ?_
  exact xg_irets hx hb hr rfl hlocks hB0 hP hK hN hS dX5_lost_7 (by decide) (by decide) hw
set_option maxHeartbeats 4000000 in
set_option maxRecDepth 100000 in
theorem c_X5_messages (l : Launch) (hl9 : l.stackTraces = false) {B0 : Nat} {ad : Nat → Nat} {D : va_G} {T : Nat → ClassId} (hA : XA B0 ad) {h : xH} {K : Int32 → xH → Prop} (hw : w_X5_messages h K) : XM l yX5_messages wsX5_messages ({ frames := 0, cells := 0, slots := 0, locals := 0 } : Room) B0 ad D T h [.ref (ad (0))] xei K 0 0 := by
  unfold XM
  refine Met.ofW (cc := cX5_messages) (maxL := 1) (ret := (some .int)) (by decide) rfl ?_
  intro p e s m args below meth c s₁ B hml hv
  obtain ⟨rfl, hB0, hP, hK, hN⟩ := hv
  have hx := B.exec
  have hb := B.bytes
  have hr := B.returns
  have hts := atoms_spec (ws := wsX5_messages) B.pre
  have hown : s.vm.findClass RX5 = some m.cls := findClass_of_methodNamed B.named
  have hlocks := B.notSynchronized
  have iX1 : ∀ w ∈ u_ws RX1 TX1 3, w ∈ wsX5_messages := by decide +kernel
  have iX5 : ∀ w ∈ u_ws RX5 TX5 9, w ∈ wsX5_messages := by decide +kernel
  have f_37 := hts (.fieldLink RX5 37 "LogSpooler" "ledger" "LLogSpooler$Ledger;") (by decide +kernel)
  have f_154 := hts (.fieldLink RX5 154 "LogSpooler$Ledger" "entries" "I") (by decide +kernel)
  have hS : va_S (fun q => B0 ≤ q) s.heap s.heap [] := va_S.rf
  have hl := lv_entry ([.ref (ad (0))]) (n := 1) (Nat.le_of_ble_eq_true rfl)
  rw [lg_entry_eq]
  generalize (lg_sl ([.ref (ad (0))]) ++ List.replicate (1 - (lg_sl ([.ref (ad (0))])).length) Slot.unset).toArray = ls at hl ⊢
  have hl : lv_has ls 1 [(0, .ref (ad (0)))] := hl
  unfold w_X5_messages at hw
  refine lv_aload_n hx hb dX5_messages_0 rfl (lv_at hl 0 rfl) ?_
  refine xg_getr (C := RX5) (TC := TX5) (N := 9) hx hb hts iX5 hown hK hP xs0 rfl 4 (by decide) f_37 (fun _ h9 => h9) rfl dX5_messages_1 ?_
  refine xg_get (C := RX1) (TC := TX1) (N := 3) hx hb hts iX1 hown hK hP xs6 rfl 2 (by decide) f_154 (fun _ h9 => h9) rfl dX5_messages_4 ?_
  exact xg_irets hx hb hr rfl hlocks hB0 hP hK hN hS dX5_messages_7 (by decide) (by decide) hw
set_option maxHeartbeats 4000000 in
set_option maxRecDepth 100000 in
theorem c_X5_fateOf (l : Launch) (hl9 : l.stackTraces = false) {B0 : Nat} {ad : Nat → Nat} {D : va_G} {T : Nat → ClassId} (hA : XA B0 ad) (p0 : Int32) {h : xH} {K : Int32 → xH → Prop} {KX : String → xH → Prop} (hw : w_X5_fateOf p0 h K KX) : XT l yX5_fateOf wsX5_fateOf ({ frames := 6, cells := 1, slots := 6, locals := 100 } : Room) B0 ad D T h [.ref (ad (0)), .int (p0)] xei K KX 1 6 := by
  unfold XT
  refine vx_ofW (cc := cX5_fateOf) (maxL := 2) (ret := (some .int)) (by decide) rfl ?_
  intro p e s m args below meth c s₁ B hml ht hv
  obtain ⟨rfl, hB0, hP, hK, hN⟩ := hv
  have hx := B.exec
  have hb := B.bytes
  have hr := B.returns
  have hts := atoms_spec (ws := wsX5_fateOf) B.pre
  have hown : s.vm.findClass RX5 = some m.cls := findClass_of_methodNamed B.named
  have hlocks := B.notSynchronized
  have iX5 : ∀ w ∈ u_ws RX5 TX5 9, w ∈ wsX5_fateOf := by decide +kernel
  have f_37 := hts (.fieldLink RX5 37 "LogSpooler" "ledger" "LLogSpooler$Ledger;") (by decide +kernel)
  have hS : va_S (fun q => B0 ≤ q) s.heap s.heap [] := va_S.rf
  have hl := lv_entry ([.ref (ad (0)), .int (p0)]) (n := 2) (Nat.le_of_ble_eq_true rfl)
  rw [lg_entry_eq]
  generalize (lg_sl ([.ref (ad (0)), .int (p0)]) ++ List.replicate (2 - (lg_sl ([.ref (ad (0)), .int (p0)])).length) Slot.unset).toArray = ls at hl ⊢
  have hl : lv_has ls 2 [(0, .ref (ad (0))), (1, .int (p0))] := hl
  unfold w_X5_fateOf at hw
  refine lv_aload_n hx hb dX5_fateOf_0 rfl (lv_at hl 0 rfl) ?_
  refine xg_getr (C := RX5) (TC := TX5) (N := 9) hx hb hts iX5 hown hK hP xs0 rfl 4 (by decide) f_37 (fun _ h9 => h9) rfl dX5_fateOf_1 ?_
  refine lv_iload_n hx hb dX5_fateOf_4 rfl (lv_at hl 1 rfl) ?_
  refine xg_calli (va_runV (As := [.int (p0)]) (rest := []) ⟨hx, hb, hml, hown, hts⟩ (c_X1_has l hl9 hA p0 hw) (cwV 1 hts gX5_fateOf_X1_has rfl rfl rfl (by decide +kernel) ⟨Nat.le_of_ble_eq_true rfl, Nat.le_of_ble_eq_true rfl⟩) (xg_preV hB0 hP hK hN hS xs6 rfl) rfl rfl hl.1 rfl (lv_room (Nat.le_of_ble_eq_true rfl)) dX5_fateOf_5 ⟨Nat.le_of_ble_eq_true rfl, Nat.le_of_ble_eq_true rfl⟩) hS (fun r1 h2 H locs hw hP hS => ?_)
  refine lv_if_ne (tgt := 21) hx hb dX5_fateOf_8 (by decide) (fun c3 => ?_) (fun c3 => ?_)
  · have hw := hw.2 c3
    refine lv_aload_n hx hb dX5_fateOf_21 rfl (lv_at hl 0 rfl) ?_
    refine xg_getr (C := RX5) (TC := TX5) (N := 9) hx hb hts iX5 hown hK hP xs0 rfl 4 (by decide) f_37 (fun _ h9 => h9) rfl dX5_fateOf_22 ?_
    refine lv_iload_n hx hb dX5_fateOf_25 rfl (lv_at hl 1 rfl) ?_
    refine xg_calli (va_runV (As := [.int (p0)]) (rest := []) ⟨hx, hb, hml, hown, hts⟩ (c_X1_fateAt l hl9 hA p0 hw) (cwV 1 hts gX5_fateOf_X1_fateAt rfl rfl rfl (by decide +kernel) ⟨Nat.le_of_ble_eq_true rfl, Nat.le_of_ble_eq_true rfl⟩) (xg_preV hB0 hP hK hN hS xs6 rfl) rfl rfl hl.1 rfl (lv_room (Nat.le_of_ble_eq_true rfl)) dX5_fateOf_26 ⟨Nat.le_of_ble_eq_true rfl, Nat.le_of_ble_eq_true rfl⟩) hS (fun r4 h5 H locs hw hP hS => ?_)
    refine vx_ret ?_
    exact xg_irets hx hb hr rfl hlocks hB0 hP hK hN hS dX5_fateOf_29 (by decide) (by decide) hw
  · have hw := hw.1 c3
    exact xg_throw (cls := "java/lang/IndexOutOfBoundsException") (text := "no such message") (ik := 80) (is := 232) (ic := 84) hx hb hl9 hown (by decide +kernel) (hts (.classLink RX5 80 "java/lang/IndexOutOfBoundsException") (by decide +kernel)) (hts (.initialized "java/lang/IndexOutOfBoundsException") (by decide +kernel)) (fun w hw9 => hts w (by revert w hw9; decide +kernel)) (by decide +kernel) (by decide +kernel) (by decide +kernel) hB0 hP hK hN hS (by rw [hml]; exact hl.1) dX5_fateOf_11 dX5_fateOf_14 dX5_fateOf_15 dX5_fateOf_17 dX5_fateOf_20 ht (Nat.le_of_ble_eq_true rfl) (Nat.le_of_ble_eq_true rfl) (Nat.le_of_ble_eq_true rfl) (Nat.le_of_ble_eq_true rfl) hlocks (by decide) (by decide) hw
set_option maxHeartbeats 4000000 in
set_option maxRecDepth 100000 in
theorem c_X5_count (l : Launch) (hl9 : l.stackTraces = false) {B0 : Nat} {ad : Nat → Nat} {D : va_G} {T : Nat → ClassId} (hA : XA B0 ad) (p0 : Int32) {h : xH} {K : Int32 → xH → Prop} {KX : String → xH → Prop} (hw : w_X5_count p0 h K KX) : XT l yX5_count wsX5_count ({ frames := 6, cells := 1, slots := 6, locals := 100 } : Room) B0 ad D T h [.ref (ad (0)), .int (p0)] xei K KX 1 6 := by
  unfold XT
  refine vx_ofW (cc := cX5_count) (maxL := 2) (ret := (some .int)) (by decide) rfl ?_
  intro p e s m args below meth c s₁ B hml ht hv
  obtain ⟨rfl, hB0, hP, hK, hN⟩ := hv
  have hx := B.exec
  have hb := B.bytes
  have hr := B.returns
  have hts := atoms_spec (ws := wsX5_count) B.pre
  have hown : s.vm.findClass RX5 = some m.cls := findClass_of_methodNamed B.named
  have hlocks := B.notSynchronized
  have iX5 : ∀ w ∈ u_ws RX5 TX5 9, w ∈ wsX5_count := by decide +kernel
  have f_37 := hts (.fieldLink RX5 37 "LogSpooler" "ledger" "LLogSpooler$Ledger;") (by decide +kernel)
  have hS : va_S (fun q => B0 ≤ q) s.heap s.heap [] := va_S.rf
  have hl := lv_entry ([.ref (ad (0)), .int (p0)]) (n := 2) (Nat.le_of_ble_eq_true rfl)
  rw [lg_entry_eq]
  generalize (lg_sl ([.ref (ad (0)), .int (p0)]) ++ List.replicate (2 - (lg_sl ([.ref (ad (0)), .int (p0)])).length) Slot.unset).toArray = ls at hl ⊢
  have hl : lv_has ls 2 [(0, .ref (ad (0))), (1, .int (p0))] := hl
  unfold w_X5_count at hw
  refine lv_iload_n hx hb dX5_count_0 rfl (lv_at hl 1 rfl) ?_
  refine lv_iconst (v := 0) hx hb dX5_count_1 (by decide) ?_
  refine lv_iconst (v := 3) hx hb dX5_count_2 (by decide) ?_
  refine xg_calli (va_runS (As := [.int (p0), .int (0), .int (3)]) (rest := []) ⟨hx, hb, hml, hown, hts⟩ (c_X5_isWithin l hl9 hA p0 (0 : Int32) (3 : Int32) hw) (va_cwS 3 hts gX5_count_X5_isWithin rfl rfl rfl (by decide +kernel) ⟨Nat.le_of_ble_eq_true rfl, Nat.le_of_ble_eq_true rfl⟩) (xg_preS hB0 hP hK hN hS) rfl rfl hl.1 rfl (lv_room (Nat.le_of_ble_eq_true rfl)) dX5_count_3 ⟨Nat.le_of_ble_eq_true rfl, Nat.le_of_ble_eq_true rfl⟩) hS (fun r1 h2 H locs hw hP hS => ?_)
  refine lv_if_ne (tgt := 19) hx hb dX5_count_6 (by decide) (fun c3 => ?_) (fun c3 => ?_)
  · have hw := hw.2 c3
    refine lv_aload_n hx hb dX5_count_19 rfl (lv_at hl 0 rfl) ?_
    refine xg_getr (C := RX5) (TC := TX5) (N := 9) hx hb hts iX5 hown hK hP xs0 rfl 4 (by decide) f_37 (fun _ h9 => h9) rfl dX5_count_20 ?_
    refine lv_iload_n hx hb dX5_count_23 rfl (lv_at hl 1 rfl) ?_
    refine xg_calli (va_runV (As := [.int (p0)]) (rest := []) ⟨hx, hb, hml, hown, hts⟩ (c_X1_entriesWith l hl9 hA p0 hw) (cwV 1 hts gX5_count_X1_entriesWith rfl rfl rfl (by decide +kernel) ⟨Nat.le_of_ble_eq_true rfl, Nat.le_of_ble_eq_true rfl⟩) (xg_preV hB0 hP hK hN hS xs6 rfl) rfl rfl hl.1 rfl (lv_room (Nat.le_of_ble_eq_true rfl)) dX5_count_24 ⟨Nat.le_of_ble_eq_true rfl, Nat.le_of_ble_eq_true rfl⟩) hS (fun r4 h5 H locs hw hP hS => ?_)
    refine vx_ret ?_
    exact xg_irets hx hb hr rfl hlocks hB0 hP hK hN hS dX5_count_27 (by decide) (by decide) hw
  · have hw := hw.1 c3
    exact xg_throw (cls := "java/lang/IndexOutOfBoundsException") (text := "no such fate") (ik := 80) (is := 237) (ic := 84) hx hb hl9 hown (by decide +kernel) (hts (.classLink RX5 80 "java/lang/IndexOutOfBoundsException") (by decide +kernel)) (hts (.initialized "java/lang/IndexOutOfBoundsException") (by decide +kernel)) (fun w hw9 => hts w (by revert w hw9; decide +kernel)) (by decide +kernel) (by decide +kernel) (by decide +kernel) hB0 hP hK hN hS (by rw [hml]; exact hl.1) dX5_count_9 dX5_count_12 dX5_count_13 dX5_count_15 dX5_count_18 ht (Nat.le_of_ble_eq_true rfl) (Nat.le_of_ble_eq_true rfl) (Nat.le_of_ble_eq_true rfl) (Nat.le_of_ble_eq_true rfl) hlocks (by decide) (by decide) hw
set_option maxHeartbeats 4000000 in
set_option maxRecDepth 100000 in
theorem c_X5_targetsOf (l : Launch) (hl9 : l.stackTraces = false) {B0 : Nat} {ad : Nat → Nat} {D : va_G} {T : Nat → ClassId} (hA : XA B0 ad) (p0 : Int32) {h : xH} {K : Int32 → xH → Prop} {KX : String → xH → Prop} (hw : w_X5_targetsOf p0 h K KX) : XT l yX5_targetsOf wsX5_targetsOf ({ frames := 6, cells := 1, slots := 6, locals := 100 } : Room) B0 ad D T h [.ref (ad (0)), .int (p0)] xei K KX 1 6 := by
  unfold XT
  refine vx_ofW (cc := cX5_targetsOf) (maxL := 2) (ret := (some .int)) (by decide) rfl ?_
  intro p e s m args below meth c s₁ B hml ht hv
  obtain ⟨rfl, hB0, hP, hK, hN⟩ := hv
  have hx := B.exec
  have hb := B.bytes
  have hr := B.returns
  have hts := atoms_spec (ws := wsX5_targetsOf) B.pre
  have hown : s.vm.findClass RX5 = some m.cls := findClass_of_methodNamed B.named
  have hlocks := B.notSynchronized
  have iX5 : ∀ w ∈ u_ws RX5 TX5 9, w ∈ wsX5_targetsOf := by decide +kernel
  have f_37 := hts (.fieldLink RX5 37 "LogSpooler" "ledger" "LLogSpooler$Ledger;") (by decide +kernel)
  have hS : va_S (fun q => B0 ≤ q) s.heap s.heap [] := va_S.rf
  have hl := lv_entry ([.ref (ad (0)), .int (p0)]) (n := 2) (Nat.le_of_ble_eq_true rfl)
  rw [lg_entry_eq]
  generalize (lg_sl ([.ref (ad (0)), .int (p0)]) ++ List.replicate (2 - (lg_sl ([.ref (ad (0)), .int (p0)])).length) Slot.unset).toArray = ls at hl ⊢
  have hl : lv_has ls 2 [(0, .ref (ad (0))), (1, .int (p0))] := hl
  unfold w_X5_targetsOf at hw
  refine lv_aload_n hx hb dX5_targetsOf_0 rfl (lv_at hl 0 rfl) ?_
  refine xg_getr (C := RX5) (TC := TX5) (N := 9) hx hb hts iX5 hown hK hP xs0 rfl 4 (by decide) f_37 (fun _ h9 => h9) rfl dX5_targetsOf_1 ?_
  refine lv_iload_n hx hb dX5_targetsOf_4 rfl (lv_at hl 1 rfl) ?_
  refine xg_calli (va_runV (As := [.int (p0)]) (rest := []) ⟨hx, hb, hml, hown, hts⟩ (c_X1_has l hl9 hA p0 hw) (cwV 1 hts gX5_targetsOf_X1_has rfl rfl rfl (by decide +kernel) ⟨Nat.le_of_ble_eq_true rfl, Nat.le_of_ble_eq_true rfl⟩) (xg_preV hB0 hP hK hN hS xs6 rfl) rfl rfl hl.1 rfl (lv_room (Nat.le_of_ble_eq_true rfl)) dX5_targetsOf_5 ⟨Nat.le_of_ble_eq_true rfl, Nat.le_of_ble_eq_true rfl⟩) hS (fun r1 h2 H locs hw hP hS => ?_)
  refine lv_if_ne (tgt := 21) hx hb dX5_targetsOf_8 (by decide) (fun c3 => ?_) (fun c3 => ?_)
  · have hw := hw.2 c3
    refine lv_aload_n hx hb dX5_targetsOf_21 rfl (lv_at hl 0 rfl) ?_
    refine xg_getr (C := RX5) (TC := TX5) (N := 9) hx hb hts iX5 hown hK hP xs0 rfl 4 (by decide) f_37 (fun _ h9 => h9) rfl dX5_targetsOf_22 ?_
    refine lv_iload_n hx hb dX5_targetsOf_25 rfl (lv_at hl 1 rfl) ?_
    refine xg_calli (va_runV (As := [.int (p0)]) (rest := []) ⟨hx, hb, hml, hown, hts⟩ (c_X1_targetsAt l hl9 hA p0 hw) (cwV 1 hts gX5_targetsOf_X1_targetsAt rfl rfl rfl (by decide +kernel) ⟨Nat.le_of_ble_eq_true rfl, Nat.le_of_ble_eq_true rfl⟩) (xg_preV hB0 hP hK hN hS xs6 rfl) rfl rfl hl.1 rfl (lv_room (Nat.le_of_ble_eq_true rfl)) dX5_targetsOf_26 ⟨Nat.le_of_ble_eq_true rfl, Nat.le_of_ble_eq_true rfl⟩) hS (fun r4 h5 H locs hw hP hS => ?_)
    refine vx_ret ?_
    exact xg_irets hx hb hr rfl hlocks hB0 hP hK hN hS dX5_targetsOf_29 (by decide) (by decide) hw
  · have hw := hw.1 c3
    exact xg_throw (cls := "java/lang/IndexOutOfBoundsException") (text := "no such message") (ik := 80) (is := 232) (ic := 84) hx hb hl9 hown (by decide +kernel) (hts (.classLink RX5 80 "java/lang/IndexOutOfBoundsException") (by decide +kernel)) (hts (.initialized "java/lang/IndexOutOfBoundsException") (by decide +kernel)) (fun w hw9 => hts w (by revert w hw9; decide +kernel)) (by decide +kernel) (by decide +kernel) (by decide +kernel) hB0 hP hK hN hS (by rw [hml]; exact hl.1) dX5_targetsOf_11 dX5_targetsOf_14 dX5_targetsOf_15 dX5_targetsOf_17 dX5_targetsOf_20 ht (Nat.le_of_ble_eq_true rfl) (Nat.le_of_ble_eq_true rfl) (Nat.le_of_ble_eq_true rfl) (Nat.le_of_ble_eq_true rfl) hlocks (by decide) (by decide) hw
end
