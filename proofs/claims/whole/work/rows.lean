section
-- ===== PART A: goes FIRST, ahead of the names: the tables' words, and 'selects' of the private methods out of them =====
/-- a private method of a class that the tables say can be made, by its rows of tables_1 -/
def lw_okq (q : MethodName × Nat) : Prop := (q.1.cls ≠ "java/lang/invoke/MethodHandle" ∧ q.1.cls ≠ "java/lang/invoke/VarHandle") ∧ Cond.instantiable q.1.cls q.2 ∈ tables_1 ∧ Cond.privateMethod q.1 ∈ tables_1 ∧ Cond.instanceMethod q.1 ∈ tables_1
theorem lw_p0 : lw_okq (⟨"java/lang/Throwable", "fillInStackTrace", "(I)Ljava/lang/Throwable;"⟩, 6) := ⟨⟨by decide +kernel, by decide +kernel⟩, List.mem_of_getElem? (i := 158) (by decide +kernel), List.mem_of_getElem? (i := 156) (by decide +kernel), List.mem_of_getElem? (i := 157) (by decide +kernel)⟩
theorem lw_p1 : lw_okq (⟨"java/util/ArrayList", "add", "(Ljava/lang/Object;[Ljava/lang/Object;I)V"⟩, 3) := ⟨⟨by decide +kernel, by decide +kernel⟩, List.mem_of_getElem? (i := 36) (by decide +kernel), List.mem_of_getElem? (i := 244) (by decide +kernel), List.mem_of_getElem? (i := 245) (by decide +kernel)⟩
theorem lw_p2 : lw_okq (⟨"java/util/ArrayList", "grow", "()[Ljava/lang/Object;"⟩, 3) := ⟨⟨by decide +kernel, by decide +kernel⟩, List.mem_of_getElem? (i := 36) (by decide +kernel), List.mem_of_getElem? (i := 248) (by decide +kernel), List.mem_of_getElem? (i := 249) (by decide +kernel)⟩
theorem lw_p3 : lw_okq (⟨"java/util/ArrayList", "grow", "(I)[Ljava/lang/Object;"⟩, 3) := ⟨⟨by decide +kernel, by decide +kernel⟩, List.mem_of_getElem? (i := 36) (by decide +kernel), List.mem_of_getElem? (i := 252) (by decide +kernel), List.mem_of_getElem? (i := 253) (by decide +kernel)⟩
theorem lw_p4 : lw_okq (⟨"TerminalYard", "machineAt", "(I)LTerminalYard$Machine;"⟩, 11) := ⟨⟨by decide +kernel, by decide +kernel⟩, List.mem_of_getElem? (i := 26) (by decide +kernel), List.mem_of_getElem? (i := 338) (by decide +kernel), List.mem_of_getElem? (i := 339) (by decide +kernel)⟩
theorem lw_p5 : lw_okq (⟨"TerminalYard", "emptiestMachine", "(I)LTerminalYard$Machine;"⟩, 11) := ⟨⟨by decide +kernel, by decide +kernel⟩, List.mem_of_getElem? (i := 26) (by decide +kernel), List.mem_of_getElem? (i := 401) (by decide +kernel), List.mem_of_getElem? (i := 402) (by decide +kernel)⟩
theorem lw_p6 : lw_okq (⟨"TerminalYard", "checkStock", "(II)V"⟩, 11) := ⟨⟨by decide +kernel, by decide +kernel⟩, List.mem_of_getElem? (i := 26) (by decide +kernel), List.mem_of_getElem? (i := 472) (by decide +kernel), List.mem_of_getElem? (i := 473) (by decide +kernel)⟩
theorem lw_p7 : lw_okq (⟨"TerminalYard", "move", "(III)V"⟩, 11) := ⟨⟨by decide +kernel, by decide +kernel⟩, List.mem_of_getElem? (i := 26) (by decide +kernel), List.mem_of_getElem? (i := 492) (by decide +kernel), List.mem_of_getElem? (i := 493) (by decide +kernel)⟩
theorem lw_p8 : lw_okq (⟨"TerminalYard", "ownsLiveSession", "(I)Z"⟩, 11) := ⟨⟨by decide +kernel, by decide +kernel⟩, List.mem_of_getElem? (i := 26) (by decide +kernel), List.mem_of_getElem? (i := 526) (by decide +kernel), List.mem_of_getElem? (i := 527) (by decide +kernel)⟩
theorem lw_p9 : lw_okq (⟨"TerminalYard", "liveSessionAt", "(I)LTerminalYard$Session;"⟩, 11) := ⟨⟨by decide +kernel, by decide +kernel⟩, List.mem_of_getElem? (i := 26) (by decide +kernel), List.mem_of_getElem? (i := 577) (by decide +kernel), List.mem_of_getElem? (i := 578) (by decide +kernel)⟩
theorem lw_p10 : lw_okq (⟨"TerminalYard", "sessionAt", "(I)LTerminalYard$Session;"⟩, 11) := ⟨⟨by decide +kernel, by decide +kernel⟩, List.mem_of_getElem? (i := 26) (by decide +kernel), List.mem_of_getElem? (i := 581) (by decide +kernel), List.mem_of_getElem? (i := 582) (by decide +kernel)⟩
theorem lw_p11 : lw_okq (⟨"TerminalYard", "end", "(LTerminalYard$Session;C)V"⟩, 11) := ⟨⟨by decide +kernel, by decide +kernel⟩, List.mem_of_getElem? (i := 26) (by decide +kernel), List.mem_of_getElem? (i := 590) (by decide +kernel), List.mem_of_getElem? (i := 591) (by decide +kernel)⟩
theorem lw_p12 : lw_okq (⟨"TerminalYard", "passTo", "(LTerminalYard$Session;I)I"⟩, 11) := ⟨⟨by decide +kernel, by decide +kernel⟩, List.mem_of_getElem? (i := 26) (by decide +kernel), List.mem_of_getElem? (i := 613) (by decide +kernel), List.mem_of_getElem? (i := 614) (by decide +kernel)⟩
theorem lw_p13 : lw_okq (⟨"TerminalYard", "charge", "(LTerminalYard$Session;I)V"⟩, 11) := ⟨⟨by decide +kernel, by decide +kernel⟩, List.mem_of_getElem? (i := 26) (by decide +kernel), List.mem_of_getElem? (i := 633) (by decide +kernel), List.mem_of_getElem? (i := 634) (by decide +kernel)⟩
theorem lw_p14 : lw_okq (⟨"TerminalYard", "chargeLiveSessions", "()I"⟩, 11) := ⟨⟨by decide +kernel, by decide +kernel⟩, List.mem_of_getElem? (i := 26) (by decide +kernel), List.mem_of_getElem? (i := 683) (by decide +kernel), List.mem_of_getElem? (i := 684) (by decide +kernel)⟩
theorem lw_p15 : lw_okq (⟨"TerminalYard", "afterOneMinute", "(LTerminalYard$Session;)C"⟩, 11) := ⟨⟨by decide +kernel, by decide +kernel⟩, List.mem_of_getElem? (i := 26) (by decide +kernel), List.mem_of_getElem? (i := 687) (by decide +kernel), List.mem_of_getElem? (i := 688) (by decide +kernel)⟩
def lw_privs_1 : List (MethodName × Nat) := [(⟨"java/lang/Throwable", "fillInStackTrace", "(I)Ljava/lang/Throwable;"⟩, 6), (⟨"java/util/ArrayList", "add", "(Ljava/lang/Object;[Ljava/lang/Object;I)V"⟩, 3), (⟨"java/util/ArrayList", "grow", "()[Ljava/lang/Object;"⟩, 3), (⟨"java/util/ArrayList", "grow", "(I)[Ljava/lang/Object;"⟩, 3), (⟨"TerminalYard", "machineAt", "(I)LTerminalYard$Machine;"⟩, 11), (⟨"TerminalYard", "emptiestMachine", "(I)LTerminalYard$Machine;"⟩, 11), (⟨"TerminalYard", "checkStock", "(II)V"⟩, 11), (⟨"TerminalYard", "move", "(III)V"⟩, 11), (⟨"TerminalYard", "ownsLiveSession", "(I)Z"⟩, 11), (⟨"TerminalYard", "liveSessionAt", "(I)LTerminalYard$Session;"⟩, 11), (⟨"TerminalYard", "sessionAt", "(I)LTerminalYard$Session;"⟩, 11), (⟨"TerminalYard", "end", "(LTerminalYard$Session;C)V"⟩, 11), (⟨"TerminalYard", "passTo", "(LTerminalYard$Session;I)I"⟩, 11), (⟨"TerminalYard", "charge", "(LTerminalYard$Session;I)V"⟩, 11), (⟨"TerminalYard", "chargeLiveSessions", "()I"⟩, 11), (⟨"TerminalYard", "afterOneMinute", "(LTerminalYard$Session;)C"⟩, 11)]
theorem lw_r1 : ∀ q ∈ lw_privs_1, lw_okq q := List.forall_mem_cons.mpr ⟨lw_p0, List.forall_mem_cons.mpr ⟨lw_p1, List.forall_mem_cons.mpr ⟨lw_p2, List.forall_mem_cons.mpr ⟨lw_p3, List.forall_mem_cons.mpr ⟨lw_p4, List.forall_mem_cons.mpr ⟨lw_p5, List.forall_mem_cons.mpr ⟨lw_p6, List.forall_mem_cons.mpr ⟨lw_p7, List.forall_mem_cons.mpr ⟨lw_p8, List.forall_mem_cons.mpr ⟨lw_p9, List.forall_mem_cons.mpr ⟨lw_p10, List.forall_mem_cons.mpr ⟨lw_p11, List.forall_mem_cons.mpr ⟨lw_p12, List.forall_mem_cons.mpr ⟨lw_p13, List.forall_mem_cons.mpr ⟨lw_p14, List.forall_mem_cons.mpr ⟨lw_p15, fun _ h => absurd h List.not_mem_nil⟩⟩⟩⟩⟩⟩⟩⟩⟩⟩⟩⟩⟩⟩⟩⟩
theorem lw_p16 : lw_okq (⟨"TerminalYard", "chargedToAllSessions", "()I"⟩, 11) := ⟨⟨by decide +kernel, by decide +kernel⟩, List.mem_of_getElem? (i := 26) (by decide +kernel), List.mem_of_getElem? (i := 712) (by decide +kernel), List.mem_of_getElem? (i := 713) (by decide +kernel)⟩
theorem lw_p17 : lw_okq (⟨"TerminalYardModel", "goesOn", "(I)Z"⟩, 23) := ⟨⟨by decide +kernel, by decide +kernel⟩, List.mem_of_getElem? (i := 727) (by decide +kernel), List.mem_of_getElem? (i := 818) (by decide +kernel), List.mem_of_getElem? (i := 819) (by decide +kernel)⟩
theorem lw_p18 : lw_okq (⟨"TerminalYardModel", "isMachine", "(I)Z"⟩, 23) := ⟨⟨by decide +kernel, by decide +kernel⟩, List.mem_of_getElem? (i := 727) (by decide +kernel), List.mem_of_getElem? (i := 830) (by decide +kernel), List.mem_of_getElem? (i := 831) (by decide +kernel)⟩
theorem lw_p19 : lw_okq (⟨"TerminalYardModel", "empties", "()V"⟩, 23) := ⟨⟨by decide +kernel, by decide +kernel⟩, List.mem_of_getElem? (i := 727) (by decide +kernel), List.mem_of_getElem? (i := 834) (by decide +kernel), List.mem_of_getElem? (i := 835) (by decide +kernel)⟩
theorem lw_p20 : lw_okq (⟨"TerminalYardModel", "liveOn", "(I)I"⟩, 23) := ⟨⟨by decide +kernel, by decide +kernel⟩, List.mem_of_getElem? (i := 727) (by decide +kernel), List.mem_of_getElem? (i := 838) (by decide +kernel), List.mem_of_getElem? (i := 839) (by decide +kernel)⟩
theorem lw_p21 : lw_okq (⟨"TerminalYardModel", "isLive", "(I)Z"⟩, 23) := ⟨⟨by decide +kernel, by decide +kernel⟩, List.mem_of_getElem? (i := 727) (by decide +kernel), List.mem_of_getElem? (i := 842) (by decide +kernel), List.mem_of_getElem? (i := 843) (by decide +kernel)⟩
theorem lw_p22 : lw_okq (⟨"TerminalYardModel", "nextIn", "(I)I"⟩, 23) := ⟨⟨by decide +kernel, by decide +kernel⟩, List.mem_of_getElem? (i := 727) (by decide +kernel), List.mem_of_getElem? (i := 858) (by decide +kernel), List.mem_of_getElem? (i := 859) (by decide +kernel)⟩
theorem lw_p23 : lw_okq (⟨"TerminalYardModel", "owns", "(I)Z"⟩, 23) := ⟨⟨by decide +kernel, by decide +kernel⟩, List.mem_of_getElem? (i := 727) (by decide +kernel), List.mem_of_getElem? (i := 905) (by decide +kernel), List.mem_of_getElem? (i := 906) (by decide +kernel)⟩
theorem lw_p24 : lw_okq (⟨"TerminalYardModel", "liveFault", "(I)I"⟩, 23) := ⟨⟨by decide +kernel, by decide +kernel⟩, List.mem_of_getElem? (i := 727) (by decide +kernel), List.mem_of_getElem? (i := 913) (by decide +kernel), List.mem_of_getElem? (i := 914) (by decide +kernel)⟩
theorem lw_p25 : lw_okq (⟨"TerminalYardModel", "isSession", "(I)Z"⟩, 23) := ⟨⟨by decide +kernel, by decide +kernel⟩, List.mem_of_getElem? (i := 727) (by decide +kernel), List.mem_of_getElem? (i := 917) (by decide +kernel), List.mem_of_getElem? (i := 918) (by decide +kernel)⟩
theorem lw_p26 : lw_okq (⟨"TerminalYardModel", "chargedTo", "(I)I"⟩, 23) := ⟨⟨by decide +kernel, by decide +kernel⟩, List.mem_of_getElem? (i := 727) (by decide +kernel), List.mem_of_getElem? (i := 921) (by decide +kernel), List.mem_of_getElem? (i := 922) (by decide +kernel)⟩
theorem lw_p27 : lw_okq (⟨"TerminalYardModel", "charges", "(II)V"⟩, 23) := ⟨⟨by decide +kernel, by decide +kernel⟩, List.mem_of_getElem? (i := 727) (by decide +kernel), List.mem_of_getElem? (i := 941) (by decide +kernel), List.mem_of_getElem? (i := 942) (by decide +kernel)⟩
theorem lw_p28 : lw_okq (⟨"TerminalYardModel", "passes", "(I)Z"⟩, 23) := ⟨⟨by decide +kernel, by decide +kernel⟩, List.mem_of_getElem? (i := 727) (by decide +kernel), List.mem_of_getElem? (i := 969) (by decide +kernel), List.mem_of_getElem? (i := 970) (by decide +kernel)⟩
def lw_privs_2 : List (MethodName × Nat) := [(⟨"TerminalYard", "chargedToAllSessions", "()I"⟩, 11), (⟨"TerminalYardModel", "goesOn", "(I)Z"⟩, 23), (⟨"TerminalYardModel", "isMachine", "(I)Z"⟩, 23), (⟨"TerminalYardModel", "empties", "()V"⟩, 23), (⟨"TerminalYardModel", "liveOn", "(I)I"⟩, 23), (⟨"TerminalYardModel", "isLive", "(I)Z"⟩, 23), (⟨"TerminalYardModel", "nextIn", "(I)I"⟩, 23), (⟨"TerminalYardModel", "owns", "(I)Z"⟩, 23), (⟨"TerminalYardModel", "liveFault", "(I)I"⟩, 23), (⟨"TerminalYardModel", "isSession", "(I)Z"⟩, 23), (⟨"TerminalYardModel", "chargedTo", "(I)I"⟩, 23), (⟨"TerminalYardModel", "charges", "(II)V"⟩, 23), (⟨"TerminalYardModel", "passes", "(I)Z"⟩, 23)]
theorem lw_r2 : ∀ q ∈ lw_privs_2, lw_okq q := List.forall_mem_cons.mpr ⟨lw_p16, List.forall_mem_cons.mpr ⟨lw_p17, List.forall_mem_cons.mpr ⟨lw_p18, List.forall_mem_cons.mpr ⟨lw_p19, List.forall_mem_cons.mpr ⟨lw_p20, List.forall_mem_cons.mpr ⟨lw_p21, List.forall_mem_cons.mpr ⟨lw_p22, List.forall_mem_cons.mpr ⟨lw_p23, List.forall_mem_cons.mpr ⟨lw_p24, List.forall_mem_cons.mpr ⟨lw_p25, List.forall_mem_cons.mpr ⟨lw_p26, List.forall_mem_cons.mpr ⟨lw_p27, List.forall_mem_cons.mpr ⟨lw_p28, fun _ h => absurd h List.not_mem_nil⟩⟩⟩⟩⟩⟩⟩⟩⟩⟩⟩⟩⟩
def lw_privs : List (MethodName × Nat) := lw_privs_1 ++ (lw_privs_2)
def lw_tbl : List Cond := k2_sels lw_privs ++ tables_1
theorem lw_privs_ok : ∀ q ∈ lw_privs, lw_okq q := by
  show ∀ q ∈ lw_privs_1 ++ (lw_privs_2), lw_okq q
  exact List.forall_mem_append.mpr ⟨lw_r1, lw_r2⟩
/-- the streams that the claim lets the run draw from -/
abbrev lw_cs : List Choice := [Jvm.Choice.named "NaN.bits"]
theorem lw_bits : nanBits ∈ lw_cs := by first | decide | exact List.mem_cons_self | simp [lw_cs, nanBits]
-- ===== end of PART A; then your names; then what follows =====
end
section
/-! ===== BEGIN words of one list among another's, by their places ===== -/
theorem goodIn_r {big : List Cond} (ws : List Cond) (ps : List Nat) (hp : ws = ps.filterMap (fun i => big[i]?)) (h : ws.all goodWord = true) : GoodIn big ws := by
  intro w hw
  have h1 := List.all_eq_true.mp h w hw
  rw [hp] at hw
  obtain ⟨i, -, hi⟩ := List.mem_filterMap.mp hw
  have hm : w ∈ big := by first | exact List.mem_of_getElem? hi | exact List.getElem?_mem hi
  exact ⟨hm, good_of_word h1⟩
theorem goodIn_app {big a b : List Cond} (ha : GoodIn big a) (hb : GoodIn big b) : GoodIn big (a ++ b) := fun w h => (List.mem_append.mp h).elim (ha w) (hb w)
theorem goodIn_ca {big a b : List Cond} {c : Cond} (ha : GoodIn big (c :: a)) (hb : GoodIn big b) : GoodIn big (c :: (a ++ b)) := fun w h => (List.mem_cons.mp h).elim (fun e => ha w (List.mem_cons.mpr (Or.inl e))) (fun h => (List.mem_append.mp h).elim (fun h => ha w (List.mem_cons.mpr (Or.inr h))) (hb w))
theorem goodIn_sub {big ws : List Cond} (hm : ∀ w ∈ ws, w ∈ big) (h : ws.all goodWord = true) : GoodIn big ws := fun w hw => ⟨hm w hw, good_of_word (List.all_eq_true.mp h w hw)⟩
/-! ===== END ===== -/


/-! ===== BEGIN exceptions that leave a method, and their catching by the caller (launches without stack traces) ===== -/
section VXA
/-! The laws vx_back, vx_callV, vx_callS, vx_callSW, vx_throw0, vx_throwS follow proofs of the library, with one case more: JvmDerived/Free/Laws.lean (Back.of_free), Shelf42/LK1.lean (callV, callS), Shelf/KitTraced.lean (throwNew0V, throwNewS). -/
/-- where a method has thrown q: the class by its name, the cell, what was written, the world -/
def vx_T (XC : String → State → State → Prop) (st : State) (q : Addr) (t : State) (mc ms : Nat) (free : Addr → Prop) : Prop :=
  ∃ (E : String) (ce : Cell) (L : List Loc), XC E st t ∧ t.heap[q]? = some ce ∧ ce.vm = .none ∧ st.vm.findClass E = some ce.cls ∧ st.WarmedH t.vm ∧ st.sameButNew ({ t with vm := st.vm } : State) L mc ms ∧ ∀ z ∈ L, free z.base
def vx_Q (Qc : Array Value → State → Outcome → State → Prop) (XC : String → State → State → Prop) (mc ms : Nat) (free : Addr → Prop) : Array Value → State → Outcome → State → Prop := fun a st o t =>
  (Qc a st o t ∧ ∃ L, FrameEnd st o t L mc ms ∧ ∀ q ∈ L, free q.base) ∨ ∃ q, o = .threw q ∧ vx_T XC st q t mc ms free
/-- a callee that returns or throws -/
def vx_Met (l : Launch) (y : MethodName) (ws : List Cond) (rm : Room) (Pc : Array Value → State → Prop) (Qc : Array Value → State → Outcome → State → Prop) (XC : String → State → State → Prop) (mc ms : Nat) (free : Addr → Prop) : Prop :=
  MetFree l y (headSpec ws rm) Pc (fun _ _ _ _ _ => True) (vx_Q Qc XC mc ms free)
def vx_Post (XC : String → State → State → Prop) (mc ms : Nat) (free : Addr → Prop) : Pt → Array Value → Addr → Pt → Prop := fun A a q B =>
  ∃ (g : JFrame) (mk : MethodId) (t : State) (L : List Loc) (E : String) (ce : Cell), B.U.heap = t.heap ∧ B.U.vm = t.vm ∧ XC E (A.U.calling g mk a) t ∧ t.heap[q]? = some ce ∧ ce.vm = .none ∧ A.U.vm.findClass E = some ce.cls ∧ B.locs = A.locs ++ L ∧ (∀ z ∈ L, free z.base) ∧ B.cells = A.cells + mc ∧ B.slots = A.slots + ms
def vx_Back (l : Launch) (R : Room) (p : Program) (e : Env) (below : List Frame) (s : State) (sargs : Array Value) (y : MethodName) (len W9 : Nat)
    (Pre : Pt → Array Value → Prop) (Post : Pt → Array Value → Option Value → Pt → Prop) (PostX : Pt → Array Value → Addr → Pt → Prop) : Prop :=
  ∀ (m : MethodId) (meth : Method) (c : Code) (A : Pt) (g : JFrame) (ig : Instr) (mk : MethodId) (a : Array Value),
    Stand p l e R s m sargs below meth c A.U A.locs A.cells A.slots → g.method = m → g.locals.size = c.maxLocals → decode c.code g.pc = .ok (ig, len) →
    2 * g.monitorRoom + (g.stack.map fun v => v.category).sum ≤ W9 → A.U.methodNamed? y = some mk → Pre A a →
    (∃ (v : Option Value) (B : Pt), Stand p l e R s m sargs below meth c B.U B.locs B.cells B.slots ∧ Post A a v B ∧
      Steps p.tables e below (doInvoke e (A.U.setTop g) [] mk a).1 (B.U.setTop { g with pc := g.pc + len, stack := v.toList ++ g.stack })) ∨
    (∃ (q : Addr) (B : Pt), Stand p l e R s m sargs below meth c B.U B.locs B.cells B.slots ∧ PostX A a q B ∧
      Steps p.tables e below (doInvoke e (A.U.setTop g) [] mk a).1 ((B.U.setTop g).pushFrame (.throwing q)))
section Payer
variable {l : Launch} {R : Room} {p : Program} {e : Env} {below : List Frame} {s : State} {sargs : Array Value} {y : MethodName} {len W9 : Nat}
theorem vx_back {ws : List Cond} {rm : Room} {Pc : Array Value → State → Prop} {Qc : Array Value → State → Outcome → State → Prop} {XC : String → State → State → Prop} {mc ms : Nat} {free : Addr → Prop} {bytes : ByteArray} {maxL : Nat} {ret : Option FieldType}
    (hM : vx_Met l y ws rm Pc Qc XC mc ms free) (hblind : FrameBlind Pc) (hrc : rm.cells = mc) (hrs : rm.slots = ms)
    (hframes : rm.frames + 1 ≤ R.frames) (hlocals : W9 + (maxL + 11) + rm.locals ≤ R.locals)
    (hws : ∀ w ∈ ws, ∀ a' U, s.WarmedH U.vm → w.before a' U = true) (hcode : Cond.code y bytes maxL ret ∈ ws) (hinit : ∀ a' U, s.WarmedH U.vm → (Cond.initialized y.cls).before a' U = true) :
    vx_Back l R p e below s sargs y len W9 (PreOf R mc ms Pc) (PostOf Qc mc ms free) (vx_Post XC mc ms free) := by
  intro m meth c A g ig mk a X hg hsize hdg hW hn hp
  have h1 : (headSpec ws rm).pre.before a A.U = true := atoms_intro fun w hw => hws w hw _ _ X.warmed
  have h2 : (Cond.code y bytes maxL ret).before a A.U = true := hws _ hcode _ _ X.warmed
  have h3 : (Cond.initialized y.cls).before a A.U = true := hinit _ _ X.warmed
  have h4 : A.cells + (headSpec ws rm).room.cells ≤ R.cells := by rw [show (headSpec ws rm).room.cells = mc from hrc]; exact hp.1
  have h5 : A.slots + (headSpec ws rm).room.slots ≤ R.slots := by rw [show (headSpec ws rm).room.slots = ms from hrs]; exact hp.2.1
  have hPc : Pc a (A.U.calling g mk a) := hblind _ _ _ _ hp.2.2
  obtain ⟨U, Ls, c0, s0⟩ := A
  dsimp only [Pt.U, Pt.locs, Pt.cells, Pt.slots] at h1 h2 h3 h4 h5 X hn hPc ⊢
  obtain ⟨methY, cY, hmY, hcY, -, hlY, -, -, -, -⟩ := Cond.code_spec hn h2
  obtain ⟨kY, hkY, -⟩ := className_of_methodNamed hn
  have hinitY : kY.init = .initialized := Cond.initialized_spec (findClass_of_methodNamed hn) hkY h3
  have h : At U g.method c below := by rw [hg]; exact X.here
  have hlocals9 : W9 + (maxL + 11) + (headSpec ws rm).room.locals ≤ R.locals := hlocals
  have happ : (headSpec ws rm).appliesLoose y e.platform (U.calling g mk a) = true :=
    Spec.appliesLoose_calling (g := g) h hdg hn hkY hinitY
      (X.room_calling (g := g) (R' := (headSpec ws rm).room) hsize hmY hcY hframes (by rw [hlY]; omega) h4 h5) h1
  obtain ⟨mid, hmid⟩ := h.above
  have hfr : (U.setTop g).frames = (.java g :: mid) ++ below := by rw [State.frames_setTop' g h.top, hmid]; rfl
  obtain ⟨o, s₂, hsteps, -, hend, hq⟩ := Steps.callFree hM p X.admits X.cas X.clock (acts := []) hfr happ hPc trivial
  have hq' : vx_Q Qc XC mc ms free a (U.calling g mk a) o s₂ := hq
  rw [State.frames_setTop' g h.top] at hend
  obtain ⟨g₀, hg0⟩ := Option.isSome_iff_exists.mp h.top
  obtain ⟨r, hr⟩ := State.topJava?_eq_some.mp hg0
  have hr' : (({ U with heap := s₂.heap, slotsUsed := s₂.slotsUsed } : State).setVm s₂.vm).frames = .java g₀ :: r := hr
  rcases hq' with ⟨hqc, L, hfe, hL⟩ | ⟨q, rfl, E, ce, L, hx, hce, hcv, hcl, hW₂, hsm, hL⟩
  · obtain ⟨⟨v, rfl⟩, hW₂, e2, q2, q3, q4, q5, q6⟩ := id hfe
    have e3 : s₂ = ({ (U.calling g mk a).setFrames s₂.frames with heap := s₂.heap, slotsUsed := s₂.slotsUsed } : State).setVm s₂.vm := by
      have : s₂ = ({ s₂ with vm := (U.calling g mk a).vm } : State).setVm s₂.vm := rfl
      rw [e2] at this
      exact this
    obtain ⟨c₂, i₂, len₂, hc₂, hd₂, hf₂⟩ := hend
    have hW' : U.WarmedH s₂.vm := hW₂
    have hcc : c₂ = c := by
      have h1 : s₂.code? g.method = U.code? g.method := by
        rw [State.code?_eq, State.code?_eq, hW'.alike.method?]
      exact Option.some.inj (hc₂.symm.trans (h1.trans h.code))
    subst hcc
    have hlen : len₂ = len := by rw [hdg] at hd₂; cases hd₂; rfl
    subst hlen
    have hs₂ : s₂ = (({ U with heap := s₂.heap, slotsUsed := s₂.slotsUsed } : State).setVm s₂.vm).setTop { g with pc := g.pc + len₂, stack := v.toList ++ g.stack } := by
      refine e3.trans ?_
      rw [hf₂, State.calling_eq h.top, State.setFrames_setFrames, State.setTop_of_frames _ hr', hr]
      rfl
    have hsame : U.sameButNew ({ U with heap := s₂.heap, slotsUsed := s₂.slotsUsed } : State) L mc ms := by
      refine ⟨?_, q2, q3, q4, q5, q6⟩
      obtain ⟨t, ht, -⟩ := State.frames_cons hr
      show ({ U with heap := s₂.heap, slotsUsed := s₂.slotsUsed } : State) = { U.setFrames U.frames with heap := s₂.heap, slotsUsed := s₂.slotsUsed }
      rw [State.setFrames_self ht]
    subst hg
    refine Or.inl ⟨v, ⟨(({ U with heap := s₂.heap, slotsUsed := s₂.slotsUsed } : State).setVm s₂.vm), Ls ++ L, c0 + mc, s0 + ms⟩,
      ⟨X.admits, X.cas, X.clock, X.frames, X.room, X.hears, X.method, X.code, (X.here.setHeapUsed s₂.heap s₂.slotsUsed).setVm hW'.alike, X.tail, State.WarmedH.trans X.warmed hW', X.limits, X.bytes, X.same.trans (hsame.setVm s.vm)⟩,
      ⟨g, mk, s₂, L, rfl, rfl, hqc, rfl, hL, rfl, rfl⟩, ?_⟩
    show Steps p.tables e below _ ((({ U with heap := s₂.heap, slotsUsed := s₂.slotsUsed } : State).setVm s₂.vm).setTop { g with pc := g.pc + len₂, stack := v.toList ++ g.stack })
    rw [← hs₂]
    exact hsteps
  · obtain ⟨e2, q2, q3, q4, q5, q6⟩ := id hsm
    have e3 : s₂ = ({ (U.calling g mk a).setFrames s₂.frames with heap := s₂.heap, slotsUsed := s₂.slotsUsed } : State).setVm s₂.vm := by
      have : s₂ = ({ s₂ with vm := (U.calling g mk a).vm } : State).setVm s₂.vm := rfl
      rw [e2] at this
      exact this
    have hf₂ : s₂.frames = .throwing q :: .java g :: U.frames.tail := hend
    have hW' : U.WarmedH s₂.vm := hW₂
    have hs₂ : s₂ = ((({ U with heap := s₂.heap, slotsUsed := s₂.slotsUsed } : State).setVm s₂.vm).setTop g).pushFrame (.throwing q) := by
      refine e3.trans ?_
      rw [hf₂, State.calling_eq h.top, State.setFrames_setFrames, State.pushFrame, State.frames_setTop _ hr', State.setTop_of_frames _ hr', State.setFrames_setFrames, hr]
      rfl
    have hsame : U.sameButNew ({ U with heap := s₂.heap, slotsUsed := s₂.slotsUsed } : State) L mc ms := by
      refine ⟨?_, q2, q3, q4, q5, q6⟩
      obtain ⟨t, ht, -⟩ := State.frames_cons hr
      show ({ U with heap := s₂.heap, slotsUsed := s₂.slotsUsed } : State) = { U.setFrames U.frames with heap := s₂.heap, slotsUsed := s₂.slotsUsed }
      rw [State.setFrames_self ht]
    subst hg
    refine Or.inr ⟨q, ⟨(({ U with heap := s₂.heap, slotsUsed := s₂.slotsUsed } : State).setVm s₂.vm), Ls ++ L, c0 + mc, s0 + ms⟩,
      ⟨X.admits, X.cas, X.clock, X.frames, X.room, X.hears, X.method, X.code, (X.here.setHeapUsed s₂.heap s₂.slotsUsed).setVm hW'.alike, X.tail, State.WarmedH.trans X.warmed hW', X.limits, X.bytes, X.same.trans (hsame.setVm s.vm)⟩,
      ⟨g, mk, s₂, L, E, ce, rfl, rfl, hx, hce, hcv, hcl, rfl, hL, rfl, rfl⟩, ?_⟩
    show Steps p.tables e below _ (((({ U with heap := s₂.heap, slotsUsed := s₂.slotsUsed } : State).setVm s₂.vm).setTop g).pushFrame (.throwing q))
    rw [← hs₂]
    exact hsteps
end Payer
section Calls
variable {p : Program} {l : Launch} {e : Env} {R : Room} {s : State} {m : MethodId} {args : Array Value} {below : List Frame} {meth : Method} {c : Code} {T : State} {locs : List Loc} {cells slots : Nat}
theorem vx_callV (X : Stand p l e R s m args below meth c T locs cells slots) (hexec : p.tables.exec = Jvm.exec) {own C : String} {index : Nat} {y : MethodName} {bytes : ByteArray} {maxL : Nat} {ret : Option FieldType}
    (hown : s.vm.findClass own = some m.cls) (hlink : (Cond.methodLink own index y).before args s = true) (hinst : (Cond.instanceMethod y).before args s = true) (hsel : (Cond.selects C y y).before args s = true)
    (hcode : (Cond.code y bytes maxL ret).before args s = true) (hy : y.cls ≠ "java/lang/invoke/MethodHandle" ∧ y.cls ≠ "java/lang/invoke/VarHandle")
    {W9 : Nat} {Pre : Pt → Array Value → Prop} {Post : Pt → Array Value → Option Value → Pt → Prop} {PostX : Pt → Array Value → Addr → Pt → Prop} (hK : vx_Back l R p e below s args y 3 W9 Pre Post PostX)
    {b : Addr} {cellB : Cell} (hcell : T.heap[b]? = some cellB) (hobj : cellB.vm.isStatics = false) (hcls : s.vm.findClass C = some cellB.cls)
    {g : JFrame} (hg : g.method = m) (hsize : g.locals.size = c.maxLocals) {argsL rest : List Value} (hlen : ∀ sig, parseMethodDescriptor y.desc = some sig → argsL.length = sig.parameters.length)
    (hstack : g.stack = argsL.reverse ++ .ref b :: rest) (hW : 2 * g.monitorRoom + (rest.map fun v => v.category).sum ≤ W9) (hdg : decode c.code g.pc = .ok (.invokevirtual index, 3))
    (hpre : ∀ vm₁, s.WarmedH vm₁ → Pre ⟨T.setVm vm₁, locs, cells, slots⟩ (Value.ref b :: argsL).toArray) :
    (∃ (v : Option Value) (vm₁ : Vm) (B : Pt), s.WarmedH vm₁ ∧ Stand p l e R s m args below meth c B.U B.locs B.cells B.slots ∧ Post ⟨T.setVm vm₁, locs, cells, slots⟩ (Value.ref b :: argsL).toArray v B ∧
      ∀ target, Steps p.tables e below (B.U.setTop { g with pc := g.pc + 3, stack := v.toList ++ rest }) target → Steps p.tables e below (T.setTop g) target) ∨
    (∃ (q : Addr) (vm₁ : Vm) (B : Pt), s.WarmedH vm₁ ∧ Stand p l e R s m args below meth c B.U B.locs B.cells B.slots ∧ PostX ⟨T.setVm vm₁, locs, cells, slots⟩ (Value.ref b :: argsL).toArray q B ∧
      Steps p.tables e below (T.setTop g) ((B.U.setTop { g with stack := rest }).pushFrame (.throwing q))) := by
  obtain ⟨mk, methM, hnamed, hmethM, hstM, habM⟩ := Cond.instanceMethod_spec hinst
  obtain ⟨methM', cM, hmethM', -, -, -, -, -, -, hsigM⟩ := Cond.code_spec hnamed hcode
  cases hmethM.symm.trans hmethM'
  obtain ⟨c2, r2, m2, q1, q2, q3, q4, kP, hkP, hkPi⟩ := Cond.selects_spec hsel
  cases hcls.symm.trans q1
  cases (State.methodFound?_of_named hnamed hy).symm.trans q2
  cases hnamed.symm.trans q3
  have hselP : selectMethod e.platform s.vm cellB.cls mk = .method mk := by rw [Launch.admits_selectMethod X.admits]; exact q4
  obtain ⟨vm₁, X₁, hstep₁⟩ := X.invokevirtual hexec hown hlink hnamed hmethM hstM hkP hkPi hy (a := b) (cell := cellB) hcell
    (fun z h => by rw [h] at hobj; cases hobj) hselP hmethM habM hkP hkPi (g := g) hg (argsL := argsL) (rest := rest) (hlen _ hsigM) hstack hdg
  rcases hK m meth c ⟨T.setVm vm₁, locs, cells, slots⟩ { g with stack := rest } (.invokevirtual index) mk (Value.ref b :: argsL).toArray X₁ hg hsize hdg hW (X₁.named hnamed) (hpre vm₁ X₁.warmed) with ⟨v, B, X', hpost, hsteps⟩ | ⟨q, B, X', hpost, hsteps⟩
  · exact Or.inl ⟨v, vm₁, B, X₁.warmed, X', hpost, fun target h => hstep₁ _ fun acts => by rw [doInvoke_state]; exact hsteps.trans h⟩
  · exact Or.inr ⟨q, vm₁, B, X₁.warmed, X', hpost, hstep₁ _ fun acts => by rw [doInvoke_state]; exact hsteps⟩
theorem vx_callS (X : Stand p l e R s m args below meth c T locs cells slots) (hexec : p.tables.exec = Jvm.exec) {own : String} {index : Nat} {y : MethodName} {bytes : ByteArray} {maxL : Nat} {ret : Option FieldType}
    (hown : s.vm.findClass own = some m.cls) (hlink : (Cond.methodLink own index y).before args s = true) (hstat : (Cond.static y).before args s = true) (hinit : (Cond.initialized y.cls).before args s = true)
    (hcode : (Cond.code y bytes maxL ret).before args s = true) (hy : y.cls ≠ "java/lang/invoke/MethodHandle" ∧ y.cls ≠ "java/lang/invoke/VarHandle")
    {W9 : Nat} {Pre : Pt → Array Value → Prop} {Post : Pt → Array Value → Option Value → Pt → Prop} {PostX : Pt → Array Value → Addr → Pt → Prop} (hK : vx_Back l R p e below s args y 3 W9 Pre Post PostX)
    {g : JFrame} (hg : g.method = m) (hsize : g.locals.size = c.maxLocals) {argsL rest : List Value} (hlen : ∀ sig, parseMethodDescriptor y.desc = some sig → argsL.length = sig.parameters.length)
    (hstack : g.stack = argsL.reverse ++ rest) (hW : 2 * g.monitorRoom + (rest.map fun v => v.category).sum ≤ W9) (hdg : decode c.code g.pc = .ok (.invokestatic index, 3))
    (hpre : ∀ vm₁, s.WarmedH vm₁ → Pre ⟨T.setVm vm₁, locs, cells, slots⟩ argsL.toArray) :
    (∃ (v : Option Value) (vm₁ : Vm) (B : Pt), s.WarmedH vm₁ ∧ Stand p l e R s m args below meth c B.U B.locs B.cells B.slots ∧ Post ⟨T.setVm vm₁, locs, cells, slots⟩ argsL.toArray v B ∧
      ∀ target, Steps p.tables e below (B.U.setTop { g with pc := g.pc + 3, stack := v.toList ++ rest }) target → Steps p.tables e below (T.setTop g) target) ∨
    (∃ (q : Addr) (vm₁ : Vm) (B : Pt), s.WarmedH vm₁ ∧ Stand p l e R s m args below meth c B.U B.locs B.cells B.slots ∧ PostX ⟨T.setVm vm₁, locs, cells, slots⟩ argsL.toArray q B ∧
      Steps p.tables e below (T.setTop g) ((B.U.setTop { g with stack := rest }).pushFrame (.throwing q))) := by
  obtain ⟨mk, hnamed⟩ := Cond.code_named hcode
  obtain ⟨methM, cM, hmethM, -, -, -, -, -, -, hsigM⟩ := Cond.code_spec hnamed hcode
  have hstatic : methM.isStatic = true := Cond.static_spec hnamed hmethM hstat
  obtain ⟨kP, hkP, -⟩ := className_of_methodNamed hnamed
  have hinitP : kP.init = .initialized := Cond.initialized_spec (findClass_of_methodNamed hnamed) hkP hinit
  obtain ⟨vm₁, X₁, hstep₁⟩ := X.invokestatic hexec hown hlink hnamed hmethM hstatic hkP hinitP hy (g := g) hg (argsL := argsL) (rest := rest) (hlen _ hsigM) hstack hdg
  rcases hK m meth c ⟨T.setVm vm₁, locs, cells, slots⟩ { g with stack := rest } (.invokestatic index) mk argsL.toArray X₁ hg hsize hdg hW (X₁.named hnamed) (hpre vm₁ X₁.warmed) with ⟨v, B, X', hpost, hsteps⟩ | ⟨q, B, X', hpost, hsteps⟩
  · exact Or.inl ⟨v, vm₁, B, X₁.warmed, X', hpost, fun target h => hstep₁ _ fun acts => by rw [doInvoke_state]; exact hsteps.trans h⟩
  · exact Or.inr ⟨q, vm₁, B, X₁.warmed, X', hpost, hstep₁ _ fun acts => by rw [doInvoke_state]; exact hsteps⟩
end Calls
theorem vx_cls {s : State} {T : State} {vm₁ : Vm} {E : String} {k : ClassId} (hW : s.WarmedH vm₁) (h : (T.setVm vm₁).vm.findClass E = some k) : s.vm.findClass E = some k := by
  have h1 : vm₁.findClass E = some k := h
  rw [hW.alike.findClass] at h1
  exact h1
/-- the method's frame g, with q thrown over it -/
def vx_W (p : Program) (l : Launch) (e : Env) (R : Room) (s : State) (m : MethodId) (args : Array Value) (below : List Frame) (meth : Method) (c : Code) (H : Heap) (locs : List Loc) (cells slots : Nat) (Q : State → Prop) (g : JFrame) (q : Addr) : Prop :=
  ∀ T : State, T.heap = H → Stand p l e R s m args below meth c T locs cells slots → ∃ t, Steps p.tables e below ((T.setTop g).pushFrame (.throwing q)) t ∧ Q t
def vx_Run (p : Program) (l : Launch) (e : Env) (R : Room) (s : State) (m : MethodId) (args : Array Value) (below : List Frame) (meth : Method) (c : Code) (H : Heap) (locs : List Loc) (cells slots mc ms : Nat) (g : JFrame) (rest : List Value) (Qa : State → Outcome → State → Prop) (XC : String → State → State → Prop) (free : Addr → Prop) : Prop :=
  ∀ T : State, T.heap = H → Stand p l e R s m args below meth c T locs cells slots →
    (∃ (v : Option Value) (st₀ t T' : State) (L : List Loc), st₀.heap = H ∧ Stand p l e R s m args below meth c T' (locs ++ L) (cells + mc) (slots + ms) ∧ (∀ q ∈ L, free q.base) ∧ T'.heap = t.heap ∧ T'.vm = t.vm ∧ Qa st₀ (.returned v) t ∧
      Goes p e below T g T' { g with pc := g.pc + 3, stack := v.toList ++ rest }) ∨
    (∃ (q : Addr) (st₀ t T' : State) (L : List Loc) (E : String) (ce : Cell), st₀.heap = H ∧ Stand p l e R s m args below meth c T' (locs ++ L) (cells + mc) (slots + ms) ∧ (∀ z ∈ L, free z.base) ∧ T'.heap = t.heap ∧ T'.vm = t.vm ∧ XC E st₀ t ∧ t.heap[q]? = some ce ∧ ce.vm = .none ∧ s.vm.findClass E = some ce.cls ∧
      Steps p.tables e below (T.setTop g) ((T'.setTop { g with stack := rest }).pushFrame (.throwing q)))
def vx_X {S : Type} (px : S → Prop) (B : String → S → State → Prop) (A : Nat → Prop) : String → State → State → Prop := fun E st t => ∃ u : S, px u ∧ B E u t ∧ va_F A st t
section Runs
variable {p : Program} {l : Launch} {e : Env} {R : Room} {s : State} {m : MethodId} {args : Array Value} {below : List Frame} {meth : Method} {c : Code} {H : Heap} {locs : List Loc} {cells slots : Nat}
variable {y : MethodName} {bytes cc : ByteArray} {maxL nL mc ms n index : Nat} {ret : Option FieldType} {ws : List Cond} {rm : Room} {Pc : Array Value → State → Prop} {Qc : Array Value → State → Outcome → State → Prop} {XC : String → State → State → Prop} {free : Addr → Prop} {Ts : List Cond} {own C : String} {b : Addr} {As rest : List Value} {g : JFrame}
theorem vx_callBack (cb : CallB R s args own index y bytes maxL ret ws rm mc ms n) (hM : vx_Met l y ws rm Pc Qc XC mc ms free) (hbl : FrameBlind Pc) : vx_Back l R p e below s args y 3 8 (PreOf R mc ms Pc) (PostOf Qc mc ms free) (vx_Post XC mc ms free) := by
  obtain ⟨hrc, hrs, hfr, hlo, hws, hcw, -, hini, -⟩ := cb
  exact vx_back (bytes := bytes) (maxL := maxL) (ret := ret) hM hbl hrc hrs hfr hlo hws hcw (fun a' U hW => word_at hW (Or.inl (by first | rfl | simp [Cond.onTables, Cond.keeps, Cond.steady])) hini)
theorem vx_runV (S : CallFix p m c cc nL s args Ts own) (hM : vx_Met l y ws rm Pc Qc XC mc ms free) (cw : CallW R s args own C index y bytes maxL ret ws rm mc ms n) (hp : PreV s H C b Pc As)
    (hg : g.method = m) (hn : As.length = n) (hsize : g.locals.size = nL) (hstack : g.stack = As.reverse ++ .ref b :: rest) (hW : 2 * g.monitorRoom + (rest.map fun v => v.category).sum ≤ 8) (hdg : decode cc g.pc = .ok (.invokevirtual index, 3)) (hf : cells + mc ≤ R.cells ∧ slots + ms ≤ R.slots) :
    vx_Run p l e R s m args below meth c H locs cells slots mc ms g rest (Qc (Value.ref b :: As).toArray) XC free := by
  have hK : vx_Back l R p e below s args y 3 8 (PreOf R mc ms Pc) (PostOf Qc mc ms free) (vx_Post XC mc ms free) := vx_callBack cw.1 hM hp.1
  obtain ⟨⟨-, -, -, -, -, -, hcode, -, hy, hlen, hl⟩, hin, hse⟩ := cw
  obtain ⟨hx, hb, hml, ho, -⟩ := S
  obtain ⟨-, ⟨cellB, hcB, hoB, hclB⟩, hPc⟩ := hp
  intro T hT X
  rcases vx_callV X hx (C := C) (bytes := bytes) (maxL := maxL) (ret := ret) ho hl hin hse hcode hy hK (by rw [hT]; exact hcB) hoB hclB hg (hsize.trans hml.symm) (argsL := As) (rest := rest) (fun sig h => hn.trans (hlen sig h)) hstack hW (by rw [hb]; exact hdg)
    (fun vm₁ hW₁ => ⟨hf.1, hf.2, hPc (T.setVm vm₁) hT hW₁⟩) with ⟨v, vm₁, ⟨U', l2, c2, s2⟩, hW₁, X', ⟨g', mk, t, L, e1, e2, hq, h1, hL, h2, h3⟩, st⟩ | ⟨q, vm₁, ⟨U', l2, c2, s2⟩, hW₁, X', ⟨g', mk, t, L, E, ce, e1, e2, hq, hce, hcv, hcl, h1, hL, h2, h3⟩, st⟩
  · dsimp only [Pt.U, Pt.locs, Pt.cells, Pt.slots] at X' e1 e2 h1 h2 h3 st
    subst h1; subst h2; subst h3
    exact Or.inl ⟨v, (T.setVm vm₁).calling g' mk (Value.ref b :: As).toArray, t, U', L, hT, X', hL, e1, e2, hq, st⟩
  · dsimp only [Pt.U, Pt.locs, Pt.cells, Pt.slots] at X' e1 e2 h1 h2 h3 st hcl
    subst h1; subst h2; subst h3
    exact Or.inr ⟨q, (T.setVm vm₁).calling g' mk (Value.ref b :: As).toArray, t, U', L, E, ce, hT, X', hL, e1, e2, hq, hce, hcv, vx_cls hW₁ hcl, st⟩
theorem vx_runS (S : CallFix p m c cc nL s args Ts own) (hM : vx_Met l y ws rm Pc Qc XC mc ms free) (cw : CallB R s args own index y bytes maxL ret ws rm mc ms n ∧ (Cond.static y).before args s = true) (hp : PreS s H Pc As)
    (hg : g.method = m) (hn : As.length = n) (hsize : g.locals.size = nL) (hstack : g.stack = As.reverse ++ rest) (hW : 2 * g.monitorRoom + (rest.map fun v => v.category).sum ≤ 8) (hdg : decode cc g.pc = .ok (.invokestatic index, 3)) (hf : cells + mc ≤ R.cells ∧ slots + ms ≤ R.slots) :
    vx_Run p l e R s m args below meth c H locs cells slots mc ms g rest (Qc As.toArray) XC free := by
  have hK : vx_Back l R p e below s args y 3 8 (PreOf R mc ms Pc) (PostOf Qc mc ms free) (vx_Post XC mc ms free) := vx_callBack cw.1 hM hp.1
  obtain ⟨⟨-, -, -, -, -, -, hcode, hini, hy, hlen, hl⟩, hstt⟩ := cw
  obtain ⟨hx, hb, hml, ho, -⟩ := S
  intro T hT X
  rcases vx_callS X hx (bytes := bytes) (maxL := maxL) (ret := ret) ho hl hstt hini hcode hy hK hg (hsize.trans hml.symm) (argsL := As) (rest := rest) (fun sig h => hn.trans (hlen sig h)) hstack hW (by rw [hb]; exact hdg)
    (fun vm₁ hW₁ => ⟨hf.1, hf.2, hp.2 (T.setVm vm₁) hT hW₁⟩) with ⟨v, vm₁, ⟨U', l2, c2, s2⟩, hW₁, X', ⟨g', mk, t, L, e1, e2, hq, h1, hL, h2, h3⟩, st⟩ | ⟨q, vm₁, ⟨U', l2, c2, s2⟩, hW₁, X', ⟨g', mk, t, L, E, ce, e1, e2, hq, hce, hcv, hcl, h1, hL, h2, h3⟩, st⟩
  · dsimp only [Pt.U, Pt.locs, Pt.cells, Pt.slots] at X' e1 e2 h1 h2 h3 st
    subst h1; subst h2; subst h3
    exact Or.inl ⟨v, (T.setVm vm₁).calling g' mk As.toArray, t, U', L, hT, X', hL, e1, e2, hq, st⟩
  · dsimp only [Pt.U, Pt.locs, Pt.cells, Pt.slots] at X' e1 e2 h1 h2 h3 st hcl
    subst h1; subst h2; subst h3
    exact Or.inr ⟨q, (T.setVm vm₁).calling g' mk As.toArray, t, U', L, E, ce, hT, X', hL, e1, e2, hq, hce, hcv, vx_cls hW₁ hcl, st⟩
end Runs
section Rows
variable {p : Program} {l : Launch} {e : Env} {R : Room} {s : State} {m : MethodId} {args : Array Value} {below : List Frame} {meth : Method} {c : Code} {H : Heap} {locs : List Loc} {cells slots : Nat} {Q : State → Prop}
variable {mc ms : Nat} {free : Addr → Prop} {A0 A1 : Nat → Prop} {H0 : Heap} {a : Array Value} {pc : Nat} {ls : Array Slot} {st0 rest : List Value}
theorem vx_keep {st₀ t T' : State} {L : List Loc} (h0 : st₀.heap = H) (e1 : T'.heap = t.heap) (hS : va_S A0 H0 H locs) (hA : ∀ q, q < H.size → A1 q → A0 q) (hf : ∀ q, free q → A0 q) (hL : ∀ q ∈ L, free q.base) (hF : va_F A1 st₀ t) :
    H.size ≤ T'.heap.size ∧ (∀ q : Nat, q < H.size → ¬ A1 q → T'.heap[q]? = H[q]?) ∧ va_S A0 H0 T'.heap (locs ++ L) := by
  obtain ⟨hz, hk⟩ := hF
  rw [h0] at hz hk
  exact ⟨by rw [e1]; exact hz, fun q h1 h2 => by rw [e1]; exact hk q h1 h2,
    ⟨Nat.le_trans hS.1 (by rw [e1]; exact hz), fun q h1 h2 => by rw [e1, hk q (Nat.lt_of_lt_of_le h1 hS.1) (fun z => h2 (hA q (Nat.lt_of_lt_of_le h1 hS.1) z))]; exact hS.2.1 q h1 h2, fun q hq => by
      rcases List.mem_append.mp hq with h | h
      · exact hS.2.2 q h
      · exact hf _ (hL q h)⟩⟩
theorem vx_calli {S SX : Type} {post : Int32 → S → Prop} {px : SX → Prop} {B : S → State → Prop} {BX : String → SX → State → Prop} {AX : Nat → Prop} (hr : vx_Run p l e R s m args below meth c H locs cells slots mc ms (F0 m pc ls st0) rest (va_Qi post B A1 a) (vx_X px BX AX) free) (hS : va_S A0 H0 H locs) (hA : ∀ q, q < H.size → A1 q → A0 q) (hf : ∀ q, free q → A0 q) (hAX : ∀ q, q < H.size → AX q → A0 q)
    (kx : ∀ (E : String) (ce : Cell) (q9 : Addr) (u : SX) (t : State) (H1 : Heap) (locs1 : List Loc), t.heap = H1 → s.vm.Alike t.vm → px u → BX E u t → H.size ≤ H1.size → (∀ q : Nat, q < H.size → ¬ AX q → H1[q]? = H[q]?) → va_S A0 H0 H1 locs1 → H1[q9]? = some ce → ce.vm = .none → s.vm.findClass E = some ce.cls → vx_W p l e R s m args below meth c H1 locs1 (cells + mc) (slots + ms) Q (F0 m pc ls rest) q9)
    (kk : ∀ (r : Int32) (u : S) (t : State) (H1 : Heap) (locs1 : List Loc), t.heap = H1 → s.vm.Alike t.vm → post r u → B u t → H.size ≤ H1.size → (∀ q : Nat, q < H.size → ¬ A1 q → H1[q]? = H[q]?) → va_S A0 H0 H1 locs1 → W p l e R s m args below meth c H1 locs1 (cells + mc) (slots + ms) Q (F0 m (pc + 3) ls (.int r :: rest))) : W p l e R s m args below meth c H locs cells slots Q (F0 m pc ls st0) := by
  intro T hT X
  rcases hr T hT X with ⟨v, st₀, t, T', L, h0, X', hL, e1, e2, ⟨⟨r, u, hv, hp, hb⟩, hF⟩, st⟩ | ⟨q, st₀, t, T', L, E, ce, h0, X', hL, e1, e2, ⟨u, hp, hb, hF⟩, hce, hcv, hcl, st⟩
  · cases hv
    obtain ⟨k1, k2, k3⟩ := vx_keep h0 e1 hS hA hf hL hF
    obtain ⟨t2, a1, b1⟩ := kk r u t T'.heap (locs ++ L) e1.symm (by rw [← e2]; exact X'.warmed.alike) hp hb k1 k2 k3 T' rfl X'
    exact ⟨t2, st t2 a1, b1⟩
  · obtain ⟨k1, k2, k3⟩ := vx_keep h0 e1 hS hAX hf hL hF
    obtain ⟨t2, a1, b1⟩ := kx E ce q u t T'.heap (locs ++ L) e1.symm (by rw [← e2]; exact X'.warmed.alike) hp hb k1 k2 k3 (by rw [e1]; exact hce) hcv hcl T' rfl X'
    exact ⟨t2, st.trans a1, b1⟩
theorem vx_calll {S SX : Type} {post : Int64 → S → Prop} {px : SX → Prop} {B : S → State → Prop} {BX : String → SX → State → Prop} {AX : Nat → Prop} (hr : vx_Run p l e R s m args below meth c H locs cells slots mc ms (F0 m pc ls st0) rest (va_Ql post B A1 a) (vx_X px BX AX) free) (hS : va_S A0 H0 H locs) (hA : ∀ q, q < H.size → A1 q → A0 q) (hf : ∀ q, free q → A0 q) (hAX : ∀ q, q < H.size → AX q → A0 q)
    (kx : ∀ (E : String) (ce : Cell) (q9 : Addr) (u : SX) (t : State) (H1 : Heap) (locs1 : List Loc), t.heap = H1 → s.vm.Alike t.vm → px u → BX E u t → H.size ≤ H1.size → (∀ q : Nat, q < H.size → ¬ AX q → H1[q]? = H[q]?) → va_S A0 H0 H1 locs1 → H1[q9]? = some ce → ce.vm = .none → s.vm.findClass E = some ce.cls → vx_W p l e R s m args below meth c H1 locs1 (cells + mc) (slots + ms) Q (F0 m pc ls rest) q9)
    (kk : ∀ (r : Int64) (u : S) (t : State) (H1 : Heap) (locs1 : List Loc), t.heap = H1 → s.vm.Alike t.vm → post r u → B u t → H.size ≤ H1.size → (∀ q : Nat, q < H.size → ¬ A1 q → H1[q]? = H[q]?) → va_S A0 H0 H1 locs1 → W p l e R s m args below meth c H1 locs1 (cells + mc) (slots + ms) Q (F0 m (pc + 3) ls (.long r :: rest))) : W p l e R s m args below meth c H locs cells slots Q (F0 m pc ls st0) := by
  intro T hT X
  rcases hr T hT X with ⟨v, st₀, t, T', L, h0, X', hL, e1, e2, ⟨⟨r, u, hv, hp, hb⟩, hF⟩, st⟩ | ⟨q, st₀, t, T', L, E, ce, h0, X', hL, e1, e2, ⟨u, hp, hb, hF⟩, hce, hcv, hcl, st⟩
  · cases hv
    obtain ⟨k1, k2, k3⟩ := vx_keep h0 e1 hS hA hf hL hF
    obtain ⟨t2, a1, b1⟩ := kk r u t T'.heap (locs ++ L) e1.symm (by rw [← e2]; exact X'.warmed.alike) hp hb k1 k2 k3 T' rfl X'
    exact ⟨t2, st t2 a1, b1⟩
  · obtain ⟨k1, k2, k3⟩ := vx_keep h0 e1 hS hAX hf hL hF
    obtain ⟨t2, a1, b1⟩ := kx E ce q u t T'.heap (locs ++ L) e1.symm (by rw [← e2]; exact X'.warmed.alike) hp hb k1 k2 k3 (by rw [e1]; exact hce) hcv hcl T' rfl X'
    exact ⟨t2, st.trans a1, b1⟩
theorem vx_callf {S SX : Type} {post : UInt32 → S → Prop} {px : SX → Prop} {B : S → State → Prop} {BX : String → SX → State → Prop} {AX : Nat → Prop} (hr : vx_Run p l e R s m args below meth c H locs cells slots mc ms (F0 m pc ls st0) rest (va_Qf post B A1 a) (vx_X px BX AX) free) (hS : va_S A0 H0 H locs) (hA : ∀ q, q < H.size → A1 q → A0 q) (hf : ∀ q, free q → A0 q) (hAX : ∀ q, q < H.size → AX q → A0 q)
    (kx : ∀ (E : String) (ce : Cell) (q9 : Addr) (u : SX) (t : State) (H1 : Heap) (locs1 : List Loc), t.heap = H1 → s.vm.Alike t.vm → px u → BX E u t → H.size ≤ H1.size → (∀ q : Nat, q < H.size → ¬ AX q → H1[q]? = H[q]?) → va_S A0 H0 H1 locs1 → H1[q9]? = some ce → ce.vm = .none → s.vm.findClass E = some ce.cls → vx_W p l e R s m args below meth c H1 locs1 (cells + mc) (slots + ms) Q (F0 m pc ls rest) q9)
    (kk : ∀ (r : UInt32) (u : S) (t : State) (H1 : Heap) (locs1 : List Loc), t.heap = H1 → s.vm.Alike t.vm → post r u → B u t → H.size ≤ H1.size → (∀ q : Nat, q < H.size → ¬ A1 q → H1[q]? = H[q]?) → va_S A0 H0 H1 locs1 → W p l e R s m args below meth c H1 locs1 (cells + mc) (slots + ms) Q (F0 m (pc + 3) ls (.float r :: rest))) : W p l e R s m args below meth c H locs cells slots Q (F0 m pc ls st0) := by
  intro T hT X
  rcases hr T hT X with ⟨v, st₀, t, T', L, h0, X', hL, e1, e2, ⟨⟨r, u, hv, hp, hb⟩, hF⟩, st⟩ | ⟨q, st₀, t, T', L, E, ce, h0, X', hL, e1, e2, ⟨u, hp, hb, hF⟩, hce, hcv, hcl, st⟩
  · cases hv
    obtain ⟨k1, k2, k3⟩ := vx_keep h0 e1 hS hA hf hL hF
    obtain ⟨t2, a1, b1⟩ := kk r u t T'.heap (locs ++ L) e1.symm (by rw [← e2]; exact X'.warmed.alike) hp hb k1 k2 k3 T' rfl X'
    exact ⟨t2, st t2 a1, b1⟩
  · obtain ⟨k1, k2, k3⟩ := vx_keep h0 e1 hS hAX hf hL hF
    obtain ⟨t2, a1, b1⟩ := kx E ce q u t T'.heap (locs ++ L) e1.symm (by rw [← e2]; exact X'.warmed.alike) hp hb k1 k2 k3 (by rw [e1]; exact hce) hcv hcl T' rfl X'
    exact ⟨t2, st.trans a1, b1⟩
theorem vx_calld {S SX : Type} {post : UInt64 → S → Prop} {px : SX → Prop} {B : S → State → Prop} {BX : String → SX → State → Prop} {AX : Nat → Prop} (hr : vx_Run p l e R s m args below meth c H locs cells slots mc ms (F0 m pc ls st0) rest (va_Qd post B A1 a) (vx_X px BX AX) free) (hS : va_S A0 H0 H locs) (hA : ∀ q, q < H.size → A1 q → A0 q) (hf : ∀ q, free q → A0 q) (hAX : ∀ q, q < H.size → AX q → A0 q)
    (kx : ∀ (E : String) (ce : Cell) (q9 : Addr) (u : SX) (t : State) (H1 : Heap) (locs1 : List Loc), t.heap = H1 → s.vm.Alike t.vm → px u → BX E u t → H.size ≤ H1.size → (∀ q : Nat, q < H.size → ¬ AX q → H1[q]? = H[q]?) → va_S A0 H0 H1 locs1 → H1[q9]? = some ce → ce.vm = .none → s.vm.findClass E = some ce.cls → vx_W p l e R s m args below meth c H1 locs1 (cells + mc) (slots + ms) Q (F0 m pc ls rest) q9)
    (kk : ∀ (r : UInt64) (u : S) (t : State) (H1 : Heap) (locs1 : List Loc), t.heap = H1 → s.vm.Alike t.vm → post r u → B u t → H.size ≤ H1.size → (∀ q : Nat, q < H.size → ¬ A1 q → H1[q]? = H[q]?) → va_S A0 H0 H1 locs1 → W p l e R s m args below meth c H1 locs1 (cells + mc) (slots + ms) Q (F0 m (pc + 3) ls (.double r :: rest))) : W p l e R s m args below meth c H locs cells slots Q (F0 m pc ls st0) := by
  intro T hT X
  rcases hr T hT X with ⟨v, st₀, t, T', L, h0, X', hL, e1, e2, ⟨⟨r, u, hv, hp, hb⟩, hF⟩, st⟩ | ⟨q, st₀, t, T', L, E, ce, h0, X', hL, e1, e2, ⟨u, hp, hb, hF⟩, hce, hcv, hcl, st⟩
  · cases hv
    obtain ⟨k1, k2, k3⟩ := vx_keep h0 e1 hS hA hf hL hF
    obtain ⟨t2, a1, b1⟩ := kk r u t T'.heap (locs ++ L) e1.symm (by rw [← e2]; exact X'.warmed.alike) hp hb k1 k2 k3 T' rfl X'
    exact ⟨t2, st t2 a1, b1⟩
  · obtain ⟨k1, k2, k3⟩ := vx_keep h0 e1 hS hAX hf hL hF
    obtain ⟨t2, a1, b1⟩ := kx E ce q u t T'.heap (locs ++ L) e1.symm (by rw [← e2]; exact X'.warmed.alike) hp hb k1 k2 k3 (by rw [e1]; exact hce) hcv hcl T' rfl X'
    exact ⟨t2, st.trans a1, b1⟩
theorem vx_callv {S SX : Type} {post : S → Prop} {px : SX → Prop} {B : S → State → Prop} {BX : String → SX → State → Prop} {AX : Nat → Prop} (hr : vx_Run p l e R s m args below meth c H locs cells slots mc ms (F0 m pc ls st0) rest (va_Qv post B A1 a) (vx_X px BX AX) free) (hS : va_S A0 H0 H locs) (hA : ∀ q, q < H.size → A1 q → A0 q) (hf : ∀ q, free q → A0 q) (hAX : ∀ q, q < H.size → AX q → A0 q)
    (kx : ∀ (E : String) (ce : Cell) (q9 : Addr) (u : SX) (t : State) (H1 : Heap) (locs1 : List Loc), t.heap = H1 → s.vm.Alike t.vm → px u → BX E u t → H.size ≤ H1.size → (∀ q : Nat, q < H.size → ¬ AX q → H1[q]? = H[q]?) → va_S A0 H0 H1 locs1 → H1[q9]? = some ce → ce.vm = .none → s.vm.findClass E = some ce.cls → vx_W p l e R s m args below meth c H1 locs1 (cells + mc) (slots + ms) Q (F0 m pc ls rest) q9)
    (kk : ∀ (u : S) (t : State) (H1 : Heap) (locs1 : List Loc), t.heap = H1 → s.vm.Alike t.vm → post u → B u t → H.size ≤ H1.size → (∀ q : Nat, q < H.size → ¬ A1 q → H1[q]? = H[q]?) → va_S A0 H0 H1 locs1 → W p l e R s m args below meth c H1 locs1 (cells + mc) (slots + ms) Q (F0 m (pc + 3) ls (rest))) : W p l e R s m args below meth c H locs cells slots Q (F0 m pc ls st0) := by
  intro T hT X
  rcases hr T hT X with ⟨v, st₀, t, T', L, h0, X', hL, e1, e2, ⟨⟨u, hv, hp, hb⟩, hF⟩, st⟩ | ⟨q, st₀, t, T', L, E, ce, h0, X', hL, e1, e2, ⟨u, hp, hb, hF⟩, hce, hcv, hcl, st⟩
  · cases hv
    obtain ⟨k1, k2, k3⟩ := vx_keep h0 e1 hS hA hf hL hF
    obtain ⟨t2, a1, b1⟩ := kk u t T'.heap (locs ++ L) e1.symm (by rw [← e2]; exact X'.warmed.alike) hp hb k1 k2 k3 T' rfl X'
    exact ⟨t2, st t2 a1, b1⟩
  · obtain ⟨k1, k2, k3⟩ := vx_keep h0 e1 hS hAX hf hL hF
    obtain ⟨t2, a1, b1⟩ := kx E ce q u t T'.heap (locs ++ L) e1.symm (by rw [← e2]; exact X'.warmed.alike) hp hb k1 k2 k3 (by rw [e1]; exact hce) hcv hcl T' rfl X'
    exact ⟨t2, st.trans a1, b1⟩
/-- caught by the row x of this method's table; the rows ahead don't take it -/
theorem vx_catch {own name : String} {E : String} {ce : Cell} {q : Addr} (hown : s.vm.findClass own = some m.cls) (pre : List ExceptionTableEntry) (x : ExceptionTableEntry) (suf : List ExceptionTableEntry) (hsplit : c.exceptionTable.toList = pre ++ x :: suf)
    (hpass : ∀ z ∈ pre, covers z pc = false ∨ (z.catchType ≠ 0 ∧ ∃ nm : String, (Cond.classLink own z.catchType nm).before args s = true ∧ va_Nc E nm s)) (hx : covers x pc = true) (h0 : x.catchType ≠ 0)
    (hlink : (Cond.classLink own x.catchType name).before args s = true) (hcast : (Cond.castable E name).before args s = true) (hcell : H[q]? = some ce) (hv : ce.vm = .none) (hcl : s.vm.findClass E = some ce.cls)
    (kk : W p l e R s m args below meth c H locs cells slots Q (F0 m x.handlerPc ls [.ref q])) : vx_W p l e R s m args below meth c H locs cells slots Q (F0 m pc ls rest) q := by
  intro T hT X
  have hpl : e.platform.magicAccessors = ({} : Platform).magicAccessors := by rw [X.admits.platform]
  obtain ⟨c3, c4, hc3, hc4, hasg⟩ := Cond.castable_spec hcast
  cases Option.some.inj (hc3.symm.trans hcl)
  obtain ⟨c5, hc5, hcl5⟩ := Cond.classLink_spec hown hlink e.platform hpl
  cases Option.some.inj (hc4.symm.trans hc5)
  obtain ⟨vm', X', st⟩ := X.thenCaughtThrough q (g := F0 m pc ls rest) rfl (Steps.refl _) (by rw [hT]; exact hcell) (by rw [hv]; rfl) (by obtain ⟨k9, h9, -⟩ := Vm.findClass_spec hcl; exact ⟨k9, h9⟩) pre x suf hsplit
    (fun z hz => by
      rcases hpass z hz with h | ⟨hz0, nm, hl1, hn1⟩
      · exact Or.inl h
      · obtain ⟨c6, hc6, hcl6⟩ := Cond.classLink_spec hown hl1 e.platform hpl
        obtain ⟨a8, b8, h1, h2, h3⟩ := hn1
        cases Option.some.inj (h1.symm.trans hcl)
        cases Option.some.inj (h2.symm.trans hc6)
        exact Or.inr ⟨hz0, _, hcl6, h3⟩) hx (Or.inr ⟨h0, c4, hcl5, hasg⟩)
  obtain ⟨t, a1, b1⟩ := kk (T.setVm vm') hT X'
  exact ⟨t, st.trans a1, b1⟩
end Rows
section Ends
variable {p : Program} {l : Launch} {e : Env} {R : Room} {s : State} {m : MethodId} {args : Array Value} {below : List Frame} {meth : Method} {c : Code} {H : Heap} {locs : List Loc} {cells slots : Nat} {Q : State → Prop}
variable {mc ms : Nat} {free : Addr → Prop} {A0 A1 : Nat → Prop} {H0 : Heap} {a : Array Value} {ls : Array Slot} {st0 rest : List Value}
variable {Qc : Array Value → State → Outcome → State → Prop} {XC : String → State → State → Prop}
/-- what a body that may throw owes at its end -/
def vx_MQ (below : List Frame) (Qc : Array Value → State → Outcome → State → Prop) (XC : String → State → State → Prop) (a : Array Value) (s : State) (mc ms : Nat) (free : Addr → Prop) : State → Prop := fun t =>
  ∃ o, t.status = .running ∧ Ended t below o ∧ vx_Q Qc XC mc ms free a s o t
theorem vx_ret {g : JFrame} {mc ms : Nat} (k : W p l e R s m args below meth c H locs cells slots (MQ below Qc args s mc ms free) g) : W p l e R s m args below meth c H locs cells slots (vx_MQ below Qc XC args s mc ms free) g := by
  intro T hT X
  obtain ⟨t, a1, o, b1, b2, b3, b4⟩ := k T hT X
  exact ⟨t, a1, o, b1, b2, Or.inl ⟨b3, b4⟩⟩
/-- not caught here: it goes on to the caller -/
theorem vx_widen {g : JFrame} {q : Addr} {k n : Nat} (h1 : cells ≤ k) (h2 : slots ≤ n) (kk : vx_W p l e R s m args below meth c H locs k n Q g q) : vx_W p l e R s m args below meth c H locs cells slots Q g q := fun T hT X => kk T hT (stand_widen X h1 h2)
theorem vx_out {pc : Nat} {E : String} {ce : Cell} {q : Addr} {mc ms : Nat} (hout : ∀ x ∈ c.exceptionTable.toList, covers x pc = false) (hlocks : meth.locks = false) (hcell : H[q]? = some ce) (hv : ce.vm = .none) (hcl : s.vm.findClass E = some ce.cls)
    (hx : ∀ t : State, t.heap = H → s.vm.Alike t.vm → XC E s t) (hf : ∀ z ∈ locs, free z.base) (hc : cells ≤ mc) (hs : slots ≤ ms) :
    vx_W p l e R s m args below meth c H locs cells slots (vx_MQ below Qc XC args s mc ms free) (F0 m pc ls rest) q := by
  intro T hT X
  obtain ⟨st1, hrun, hend, hW, hsm⟩ := X.leaveThrown q (g := F0 m pc ls rest) rfl rfl rfl hout hlocks
  have hcell9 : (T.setFrames (.throwing q :: below)).heap[q]? = some ce := by
    show T.heap[q]? = some ce
    rw [hT]; exact hcell
  exact ⟨_, st1, .threw q, hrun, hend, Or.inr ⟨q, rfl, E, ce, locs, hx _ hT hW.alike, hcell9, hv, hcl, hW, hsm.mono hc hs, hf⟩⟩
theorem vx_frame {U : State} {k n : Nat} (h : s.sameButNew ({ U with vm := s.vm } : State) locs k n) : s.heap.size ≤ U.heap.size ∧ ∀ q : Nat, q < s.heap.size → (∀ z ∈ locs, z.base ≠ q) → U.heap[q]? = s.heap[q]? := by
  obtain ⟨-, h2, -, -, -, h6⟩ := h
  refine ⟨h2, fun q hq hz => ?_⟩
  obtain ⟨c9, e1, e2, e3, e4⟩ := h6 q _ (Array.getElem?_eq_getElem hq)
  have hs : c9.slots = (s.heap[q]).slots := Array.ext_getElem? fun i => e4 i fun hm => hz _ hm rfl
  have h9 : c9 = s.heap[q] := by
    rw [hs] at e2
    exact e2
  have e5 : U.heap[q]? = some c9 := e1
  rw [e5, h9, Array.getElem?_eq_getElem hq]
/-- the words of a throw but the four that speak of the heap -/
def vx_no (w : Cond) : Bool := decide (w ≠ .isRef (.static Bundle.tN "UNASSIGNED_STACK" Bundle.steD)) && decide (w ≠ .isRef (.static Bundle.tN "SUPPRESSED_SENTINEL" Bundle.listD)) && decide (w ≠ .laysStatic Bundle.tN "UNASSIGNED_STACK" Bundle.steD) && decide (w ≠ .laysStatic Bundle.tN "SUPPRESSED_SENTINEL" Bundle.listD)
def vx_at0 (own : String) (ic : Nat) (X : String) (names : List String) : List Cond := (Bundle.ownAtoms0 own ic X names).filter vx_no
def vx_atS (own : String) (ic : Nat) (X : String) (names : List String) : List Cond := (Bundle.ownAtoms own ic X names).filter vx_no
/-- a word that the tables alone decide, or a good one -/
def vx_ot (w : Cond) : Bool := w.onTables || goodWord w
theorem vx_ot_at {args a' : Array Value} {s U : State} {w : Cond} (hW : s.WarmedH U.vm) (hvm : s.vm = U.vm) (hg : vx_ot w = true) (h : w.before args s = true) : w.before a' U = true := by
  simp only [vx_ot, Bool.or_eq_true] at hg
  rcases hg with hg | hg
  · exact va_tabs hg hvm h
  · exact word_at hW (good_of_word hg) h
/-- a list's words: the good ones out of the method's own list, the others by premises of their own -/
theorem vx_hat {args : Array Value} {s : State} {L B : List Cond} (h1 : ∀ w ∈ L.filter goodWord, w.before args s = true) (h2 : ∀ w ∈ L.filter (fun w => !goodWord w), w ∈ B) (h3 : ∀ w ∈ B, w.before args s = true) : ∀ w ∈ L, w.before args s = true := by
  intro w hw
  by_cases g : goodWord w = true
  · exact h1 w (List.mem_filter.mpr ⟨hw, g⟩)
  · refine h3 w (h2 w (List.mem_filter.mpr ⟨hw, ?_⟩))
    show (!goodWord w) = true
    cases hgw : goodWord w
    · rfl
    · exact absurd hgw g
theorem vx_c {args : Array Value} {s : State} {w : Cond} {B : List Cond} (h : w.before args s = true) (t : ∀ w ∈ B, w.before args s = true) : ∀ w' ∈ w :: B, w'.before args s = true := fun w' h' => (List.mem_cons.mp h').elim (fun e => by rw [e]; exact h) (t w')
theorem vx_n {args : Array Value} {s : State} : ∀ w ∈ ([] : List Cond), w.before args s = true := fun _ h => nomatch h
theorem vx_own {args : Array Value} {s : State} {L : List Cond} (h1 : ∀ w ∈ L.filter vx_no, w.before args s = true)
    (hU : (Cond.isRef (.static Bundle.tN "UNASSIGNED_STACK" Bundle.steD)).before args s = true) (hN : (Cond.isRef (.static Bundle.tN "SUPPRESSED_SENTINEL" Bundle.listD)).before args s = true)
    (lU : (Cond.laysStatic Bundle.tN "UNASSIGNED_STACK" Bundle.steD).before args s = true) (lN : (Cond.laysStatic Bundle.tN "SUPPRESSED_SENTINEL" Bundle.listD).before args s = true) : ∀ w ∈ L, w.before args s = true := by
  intro w hw
  by_cases e1 : w = .isRef (.static Bundle.tN "UNASSIGNED_STACK" Bundle.steD)
  · rw [e1]; exact hU
  · by_cases e2 : w = .isRef (.static Bundle.tN "SUPPRESSED_SENTINEL" Bundle.listD)
    · rw [e2]; exact hN
    · by_cases e3 : w = .laysStatic Bundle.tN "UNASSIGNED_STACK" Bundle.steD
      · rw [e3]; exact lU
      · by_cases e4 : w = .laysStatic Bundle.tN "SUPPRESSED_SENTINEL" Bundle.listD
        · rw [e4]; exact lN
        · exact h1 w (List.mem_filter.mpr ⟨hw, by unfold vx_no; rw [decide_eq_true e1, decide_eq_true e2, decide_eq_true e3, decide_eq_true e4]; rfl⟩)
/-- where a static field lies, its class's statics cell in H -/
def vx_L (C n d : String) (A : Nat → Prop) (U : State) (H : Heap) : Prop := ∃ (c : ClassId) (k : Class) (i : Nat) (f : Field) (a : Nat) (cell : Cell), U.vm.findClass C = some c ∧ U.fieldFound? C n d = some (c, k, i, f) ∧ f.isStatic = true ∧ k.statics = some a ∧ H[a]? = some cell ∧ cell.vm.isStatics = true ∧ cell.cls = c ∧ f.slot < cell.slots.size ∧ k.staticTypes[f.slot]? = some f.type ∧ ¬ A a
theorem vx_L.moved {C n d : String} {A : Nat → Prop} {u U : State} {H : Heap} (hvm : u.vm.Alike U.vm) (h : vx_L C n d A u H) : vx_L C n d A U H := by
  obtain ⟨c, k, i, f, a, cell, h1, h2, h3, h4, h5, h6, h7, h8, h9, h10⟩ := h
  obtain ⟨k', hi', he⟩ := State.fieldFound?_setVm hvm h2
  exact ⟨c, k', i, f, a, cell, by rw [hvm.findClass]; exact h1, hi', h3, by rw [he]; exact h4, h5, h6, h7, h8, by rw [he]; exact h9, h10⟩
theorem vx_L.kept {C n d : String} {A : Nat → Prop} {U : State} {H H1 : Heap} (h : vx_L C n d A U H) (hq : ∀ a : Nat, a < H.size → ¬ A a → H1[a]? = H[a]?) : vx_L C n d A U H1 := by
  obtain ⟨c, k, i, f, a, cell, h1, h2, h3, h4, h5, h6, h7, h8, h9, h10⟩ := h
  exact ⟨c, k, i, f, a, cell, h1, h2, h3, h4, by rw [hq a (Array.getElem?_eq_some_iff.mp h5).1 h10]; exact h5, h6, h7, h8, h9, h10⟩
theorem vx_L.narrow {C n d : String} {A B : Nat → Prop} {U : State} {H : Heap} (h : vx_L C n d A U H) (hAB : ∀ q, B q → A q) : vx_L C n d B U H := by
  obtain ⟨c, k, i, f, a, cell, h1, h2, h3, h4, h5, h6, h7, h8, h9, h10⟩ := h
  exact ⟨c, k, i, f, a, cell, h1, h2, h3, h4, h5, h6, h7, h8, h9, fun z => h10 (hAB _ z)⟩
theorem vx_L.word {C n d : String} {A : Nat → Prop} {s : State} {args : Array Value} (h : vx_L C n d A s s.heap) : (Cond.laysStatic C n d).before args s = true := by
  obtain ⟨c, k, i, f, a, cell, h1, h2, h3, h4, h5, h6, h7, h8, h9, -⟩ := h
  show (Cond.laysStatic C n d).holds args s none s [] = true
  exact Cond.laysStatic_of h1 h2 h3 h4 h5 h6 h7 h8 h9
/-- .. and what it holds: null or some reference -/
def vx_Zq (C n d : String) (A : Nat → Prop) (U : State) (H : Heap) : Prop := va_Zq C n d A U H ∧ vx_L C n d A U H
theorem vx_Zq.moved {C n d : String} {A : Nat → Prop} {u U : State} {H : Heap} (hvm : u.vm.Alike U.vm) (h : vx_Zq C n d A u H) : vx_Zq C n d A U H := ⟨va_Zq.moved hvm h.1, vx_L.moved hvm h.2⟩
theorem vx_Zq.kept {C n d : String} {A : Nat → Prop} {U : State} {H H1 : Heap} (h : vx_Zq C n d A U H) (hq : ∀ a : Nat, a < H.size → ¬ A a → H1[a]? = H[a]?) : vx_Zq C n d A U H1 := ⟨va_Zq.kept h.1 hq, vx_L.kept h.2 hq⟩
theorem vx_Zq.narrow {C n d : String} {A B : Nat → Prop} {U : State} {H : Heap} (h : vx_Zq C n d A U H) (hAB : ∀ q, B q → A q) : vx_Zq C n d B U H := ⟨va_Zq.narrow h.1 hAB, vx_L.narrow h.2 hAB⟩
theorem vx_Zqof {args : Array Value} {s : State} {C n d : String} {A : Nat → Prop} (hl : (Cond.laysStatic C n d).before args s = true) (hini : (Cond.initialized C).before args s = true) (h : (Cond.isRef (.static C n d)).before args s = true) (hA : ∀ a : Nat, a < s.heap.size → ¬ A a) : vx_Zq C n d A s s.heap := by
  refine ⟨va_Zqof hl hini h hA, ?_⟩
  obtain ⟨c, k, i, f, a, cell, h1, h2, h3, h4, h5, h6, h7, h8, h9⟩ := Cond.laysStatic_spec hl
  exact ⟨c, k, i, f, a, cell, h1, h2, h3, h4, h5, h6, h7, h8, h9, hA a (Array.getElem?_eq_some_iff.mp h5).1⟩
theorem vx_isRef {C n d : String} {v : Value} {A : Nat → Prop} {s : State} {args : Array Value} (h : va_Z C n d v A s s.heap) (hv : v.isRef = true) : (Cond.isRef (.static C n d)).before args s = true := by
  obtain ⟨cf, kf, fi, f, a, cell, h1, h2, h3, h4, h5, h6, h7, -⟩ := h
  have he : (Term.static C n d).eval args s none [] s = some v := by
    simp [Term.eval, State.fieldNamed?, h1, h2, h4, h5, h6, h7]
  simp only [Cond.before, Cond.holds, Cond.value, he]
  cases v <;> simp_all [Value.isRef]
theorem vx_isRefq {C n d : String} {A : Nat → Prop} {s : State} {args : Array Value} (h : va_Zq C n d A s s.heap) : (Cond.isRef (.static C n d)).before args s = true := by
  rcases h with h | ⟨t, h⟩
  · exact vx_isRef h rfl
  · exact vx_isRef h rfl
/-- the same frame, seen from here: as if the method were called anew in this heap -/
theorem vx_rebase {T : State} (X : Stand p l e R s m args below meth c T locs cells slots) {R' : Room} (hf : R'.frames ≤ R.frames) (hl : R'.locals ≤ R.locals) (hc : cells + R'.cells ≤ R.cells) (hs : slots + R'.slots ≤ R.slots) :
    Stand p l e R' ((T.setVm s.vm).setFrames (.invoking m args :: below)) m args below meth c T [] 0 0 := by
  have htop : (T.setVm s.vm).topJava?.isSome := X.here.top
  have hF : ((T.setVm s.vm).setFrames (.invoking m args :: below)).frames = .invoking m args :: below := State.frames_setFrames _ (State.cur_lt_of_top htop)
  obtain ⟨g₀, hg0⟩ := Option.isSome_iff_exists.mp htop
  obtain ⟨r, hr⟩ := State.topJava?_eq_some.mp hg0
  have hl9 : e.platform.stackLimits (T.setVm s.vm).me = e.platform.stackLimits s.me := X.limits
  have hb9 : (T.setVm s.vm).me.stackBytes = s.me.stackBytes := X.bytes
  refine ⟨X.admits, X.cas, X.clock, hF, ?_, X.hears, X.method, X.code, X.here, X.tail, X.warmed, ?_, ?_, ?_⟩
  · have h := X.room
    have hU : ((T.setVm s.vm).setFrames (.invoking m args :: below)).localsInUse = s.localsInUse := by
      rw [State.localsInUse_invoking hF (meth := meth) (c := c) X.method X.code, State.localsInUse_invoking X.frames X.method X.code]
    simp only [State.hasRoom, Bool.and_eq_true, decide_eq_true_eq] at h ⊢
    obtain ⟨⟨⟨⟨h1, h2, h3, h4, h5, h6⟩, h7⟩, h8⟩, h9⟩ := h
    rw [X.frames, List.length_cons] at h2 h3
    have q1 := X.heapSize
    have q2 := X.used
    simp only [hF, hU, List.length_cons, State.stackLimits_setFrames, State.stackBytes_setFrames, hl9, hb9]
    refine ⟨⟨⟨⟨by omega, by omega, by omega, by omega, by omega, h6⟩, ?_⟩, ?_⟩, X.book⟩
    · show T.heap.size + R'.cells ≤ e.platform.maxCells
      omega
    · show T.slotsUsed + R'.slots ≤ e.platform.maxSlots
      omega
  · rw [State.stackLimits_setFrames]; rfl
  · rw [State.stackBytes_setFrames]; rfl
  · refine ⟨?_, Nat.le_refl _, Nat.le_refl _, ?_, ?_, fun a c9 h9 => ⟨c9, h9, rfl, rfl, fun _ _ => rfl⟩⟩
    · obtain ⟨t, ht, -⟩ := State.frames_cons hr
      show T.setVm s.vm = { ((T.setVm s.vm).setFrames (.invoking m args :: below)).setFrames (T.setVm s.vm).frames with heap := T.heap, slotsUsed := T.slotsUsed }
      rw [State.setFrames_setFrames, State.setFrames_self ht]
      rfl
    · show T.slotsUsed = T.slotsUsed + ((T.heap.toList.drop T.heap.size).map (·.slots.size)).sum
      rw [List.drop_eq_nil_of_le (Nat.le_of_eq Array.length_toList)]
      rfl
    · show ((T.heap.toList.drop T.heap.size).map (·.slots.size)).sum ≤ 0
      rw [List.drop_eq_nil_of_le (Nat.le_of_eq Array.length_toList)]
      exact Nat.le_refl _
/-- 'throw new E()': new; dup; invokespecial; athrow -/
theorem vx_throw0 {cc : ByteArray} {pc : Nat} (hexec : p.tables.exec = Jvm.exec) (hb : c.code = cc) (hl : l.stackTraces = false) {own cls : String} {names : List String} {ik ic mc ms : Nat} {A : Nat → Prop}
    (hown : s.vm.findClass own = some m.cls) (hcls : Bundle.fit cls = true) (hnames : ∀ n ∈ names, Bundle.fit n = true)
    (hk : (Cond.classLink own ik cls).before args s = true) (hini : (Cond.initialized cls).before args s = true) (hat : ∀ w ∈ vx_at0 own ic cls names, w.before args s = true)
    (hgood : ∀ w ∈ Cond.classLink own ik cls :: Cond.initialized cls :: vx_at0 own ic cls names, vx_ot w = true)
    (hU : vx_Zq Bundle.tN "UNASSIGNED_STACK" Bundle.steD A s s.heap) (hN : vx_Zq Bundle.tN "SUPPRESSED_SENTINEL" Bundle.listD A s s.heap) (hS : va_S A s.heap H locs) (hsize : ls.size = c.maxLocals)
    (d0 : decode cc pc = .ok (.new ik, 3)) (d3 : decode cc (pc + 3) = .ok (.dup, 1)) (d4 : decode cc (pc + 4) = .ok (.invokespecial ic, 3)) (d7 : decode cc (pc + 7) = .ok (.athrow, 1))
    (hout : ∀ x ∈ c.exceptionTable.toList, covers x (pc + 7) = false)
    (hRframes : names.length + 3 < R.frames) (hRlocals : (rest.map fun v => v.category).sum + (13 * (names.length + 1) + 42) ≤ R.locals) (hRcells : cells + 1 ≤ R.cells) (hRslots : slots + 6 ≤ R.slots) (hlocks : meth.locks = false)
    (hx : ∀ t : State, s.vm.Alike t.vm → H.size ≤ t.heap.size → (∀ q : Nat, q < H.size → t.heap[q]? = H[q]?) → XC cls s t)
    (hf : ∀ z ∈ locs, free z.base) (hc : cells + 1 ≤ mc) (hs : slots + 6 ≤ ms) :
    W p l e R s m args below meth c H locs cells slots (vx_MQ below Qc XC args s mc ms free) (F0 m pc ls rest) := by
  intro T hT X
  have htr : e.platform.stackTraces = false := (show e.platform.stackTraces = l.stackTraces by rw [X.admits.platform]).trans hl
  have Y := vx_rebase X (R' := { frames := R.frames, locals := R.locals, cells := 1, slots := 6 }) (Nat.le_refl _) (Nat.le_refl _) hRcells hRslots
  obtain ⟨s', hA⟩ : ∃ z, z = (T.setVm s.vm).setFrames (.invoking m args :: below) := ⟨_, rfl⟩
  rw [← hA] at Y
  have hvm : s'.vm = s.vm := by rw [hA]; rfl
  have hhp : s'.heap = H := by rw [hA]; exact hT
  have hW0 : s.WarmedH s'.vm := by rw [hvm]; exact State.WarmedH.refl s
  have hat' : ∀ w ∈ vx_at0 own ic cls names, w.before args s' = true := fun w hw => vx_ot_at hW0 hvm.symm (hgood w (List.mem_cons_of_mem _ (List.mem_cons_of_mem _ hw))) (hat w hw)
  have hk' : (Cond.classLink own ik cls).before args s' = true := vx_ot_at hW0 hvm.symm (hgood _ List.mem_cons_self) hk
  have hini' : (Cond.initialized cls).before args s' = true := vx_ot_at hW0 hvm.symm (hgood _ (List.mem_cons_of_mem _ List.mem_cons_self)) hini
  have hU' : vx_Zq Bundle.tN "UNASSIGNED_STACK" Bundle.steD A s' s'.heap := by rw [hhp]; exact vx_Zq.moved hW0.alike (hU.kept hS.2.1)
  have hN' : vx_Zq Bundle.tN "SUPPRESSED_SENTINEL" Bundle.listD A s' s'.heap := by rw [hhp]; exact vx_Zq.moved hW0.alike (hN.kept hS.2.1)
  have h : ∀ w ∈ Bundle.ownAtoms0 own ic cls names, w.before args s' = true := vx_own hat' (vx_isRefq hU'.1) (vx_isRefq hN'.1) hU'.2.word hN'.2.word
  have hown' : s'.vm.findClass own = some m.cls := by rw [hvm]; exact hown
  have hins : (Cond.instantiable cls 6).before args s' = true := h _ (by simp [Bundle.ownAtoms0])
  obtain ⟨vm₁, cX, kX, hfX, hkX, -, -, X₁, st1⟩ := Y.newCold hexec (own := own) (C := cls) (index := ik) (n := 6) hown' hk' hins hini'
    (g := F0 m pc ls rest) rfl (by rw [hb]; exact d0) (Nat.le_refl _) (Nat.le_refl _)
  generalize hT1 : (T.setVm vm₁).pushCell { cls := cX, slots := kX.instanceTypes.map defaultValue, vm := .none } = T1 at X₁ st1
  have hcat : (Value.ref T.heap.size).category = 1 := rfl
  have hcellA : T1.heap[T.heap.size]? = some (freshCell cX kX) := by rw [← hT1]; exact State.heap_pushCell_size _ _
  have d3' : decode c.code (pc + 3) = .ok (.dup, 1) := by rw [hb]; exact d3
  obtain ⟨U, hsteps, hrun, hend, hW, hsame, ce, hce, hO⟩ := X₁.ctorThrow0 hexec htr (own := own) (cls := cls) (names := names) (ic := ic) hown' hcls hnames h (fun x hx => nomatch hx) hfX hkX hcellA (by rw [hhp, hT]; exact Nat.le_refl _)
    (g := { method := m, pc := pc + 4, locals := ls, stack := .ref T.heap.size :: .ref T.heap.size :: rest, locked := none }) rfl hsize rfl rfl (rest := rest) rfl
    (by rw [hb]; exact d4) (by rw [hb]; exact d7) hout hRframes (by simp only [List.map_cons, List.sum_cons, hcat]; omega) hlocks
  obtain ⟨f1, f2⟩ := vx_frame hsame
  rw [hhp] at f1 f2
  have hWs : s.WarmedH U.vm := State.WarmedH.trans hW0 hW
  have hcl : s.vm.findClass cls = some ce.cls := by
    have h9 := hO.cls
    rw [hvm] at h9
    exact h9
  have hall : s.sameButNew ({ U with vm := s.vm } : State) locs mc ms := by
    subst hA
    obtain ⟨e1, e2⟩ := hsame
    rw [State.setFrames_setFrames] at e1
    have h2 : (T.setVm s.vm).sameButNew ({ U with vm := s.vm } : State) [] (0 + 1) (0 + 6) := ⟨e1, e2⟩
    have h3 := X.same.trans h2
    rw [List.append_nil] at h3
    exact h3.mono hc hs
  refine ⟨U, ?_, .threw T.heap.size, hrun, hend, Or.inr ⟨T.heap.size, rfl, cls, ce, locs, hx U hWs.alike f1 (fun q hq => f2 q hq (fun z hz => nomatch hz)), hce, hO.vm, hcl, hWs, hall, hf⟩⟩
  refine st1 _ ?_
  show Steps p.tables e below (T1.setTop { method := m, pc := pc + 3, locals := ls, stack := .ref T.heap.size :: rest, locked := none }) _
  jvm_step X₁.here [X₁.here.top, hexec, d3', Value.category]
  exact hsteps
/-- 'throw new E("text")': new; dup; ldc; invokespecial; athrow -/
theorem vx_throwS {cc : ByteArray} {pc : Nat} (hexec : p.tables.exec = Jvm.exec) (hb : c.code = cc) (hl : l.stackTraces = false) {own cls text : String} {names : List String} {ik is ic mc ms sa : Nat} {A : Nat → Prop}
    (hown : s.vm.findClass own = some m.cls) (hcls : Bundle.fit cls = true) (hnames : ∀ n ∈ names, Bundle.fit n = true)
    (hk : (Cond.classLink own ik cls).before args s = true) (hini : (Cond.initialized cls).before args s = true) (hstr : vk_R own is text sa s) (hat : ∀ w ∈ vx_atS own ic cls names, w.before args s = true)
    (hgood : ∀ w ∈ Cond.classLink own ik cls :: Cond.initialized cls :: vx_atS own ic cls names, vx_ot w = true)
    (hU : vx_Zq Bundle.tN "UNASSIGNED_STACK" Bundle.steD A s s.heap) (hN : vx_Zq Bundle.tN "SUPPRESSED_SENTINEL" Bundle.listD A s s.heap) (hS : va_S A s.heap H locs) (hsize : ls.size = c.maxLocals)
    (d0 : decode cc pc = .ok (.new ik, 3)) (d3 : decode cc (pc + 3) = .ok (.dup, 1)) (d4 : decode cc (pc + 4) = .ok (.ldc is, 2)) (d6 : decode cc (pc + 6) = .ok (.invokespecial ic, 3)) (d9 : decode cc (pc + 9) = .ok (.athrow, 1))
    (hout : ∀ x ∈ c.exceptionTable.toList, covers x (pc + 9) = false)
    (hRframes : names.length + 3 < R.frames) (hRlocals : (rest.map fun v => v.category).sum + (13 * (names.length + 1) + 43) ≤ R.locals) (hRcells : cells + 1 ≤ R.cells) (hRslots : slots + 6 ≤ R.slots) (hlocks : meth.locks = false)
    (hx : ∀ t : State, s.vm.Alike t.vm → H.size ≤ t.heap.size → (∀ q : Nat, q < H.size → t.heap[q]? = H[q]?) → XC cls s t)
    (hf : ∀ z ∈ locs, free z.base) (hc : cells + 1 ≤ mc) (hs : slots + 6 ≤ ms) :
    W p l e R s m args below meth c H locs cells slots (vx_MQ below Qc XC args s mc ms free) (F0 m pc ls rest) := by
  intro T hT X
  have htr : e.platform.stackTraces = false := (show e.platform.stackTraces = l.stackTraces by rw [X.admits.platform]).trans hl
  have Y := vx_rebase X (R' := { frames := R.frames, locals := R.locals, cells := 1, slots := 6 }) (Nat.le_refl _) (Nat.le_refl _) hRcells hRslots
  obtain ⟨s', hA⟩ : ∃ z, z = (T.setVm s.vm).setFrames (.invoking m args :: below) := ⟨_, rfl⟩
  rw [← hA] at Y
  have hvm : s'.vm = s.vm := by rw [hA]; rfl
  have hhp : s'.heap = H := by rw [hA]; exact hT
  have hW0 : s.WarmedH s'.vm := by rw [hvm]; exact State.WarmedH.refl s
  have hat' : ∀ w ∈ vx_atS own ic cls names, w.before args s' = true := fun w hw => vx_ot_at hW0 hvm.symm (hgood w (List.mem_cons_of_mem _ (List.mem_cons_of_mem _ hw))) (hat w hw)
  have hk' : (Cond.classLink own ik cls).before args s' = true := vx_ot_at hW0 hvm.symm (hgood _ List.mem_cons_self) hk
  have hini' : (Cond.initialized cls).before args s' = true := vx_ot_at hW0 hvm.symm (hgood _ (List.mem_cons_of_mem _ List.mem_cons_self)) hini
  have hU' : vx_Zq Bundle.tN "UNASSIGNED_STACK" Bundle.steD A s' s'.heap := by rw [hhp]; exact vx_Zq.moved hW0.alike (hU.kept hS.2.1)
  have hN' : vx_Zq Bundle.tN "SUPPRESSED_SENTINEL" Bundle.listD A s' s'.heap := by rw [hhp]; exact vx_Zq.moved hW0.alike (hN.kept hS.2.1)
  have h : ∀ w ∈ Bundle.ownAtoms own ic cls names, w.before args s' = true := vx_own hat' (vx_isRefq hU'.1) (vx_isRefq hN'.1) hU'.2.word hN'.2.word
  have hown' : s'.vm.findClass own = some m.cls := by rw [hvm]; exact hown
  have hins : (Cond.instantiable cls 6).before args s' = true := h _ (by simp [Bundle.ownAtoms])
  obtain ⟨vm₁, cX, kX, hfX, hkX, -, -, X₁, st1⟩ := Y.newCold hexec (own := own) (C := cls) (index := ik) (n := 6) hown' hk' hins hini'
    (g := F0 m pc ls rest) rfl (by rw [hb]; exact d0) (Nat.le_refl _) (Nat.le_refl _)
  generalize hT1 : (T.setVm vm₁).pushCell { cls := cX, slots := kX.instanceTypes.map defaultValue, vm := .none } = T1 at X₁ st1
  have hcat : (Value.ref T.heap.size).category = 1 := rfl
  have hcellA : T1.heap[T.heap.size]? = some (freshCell cX kX) := by rw [← hT1]; exact State.heap_pushCell_size _ _
  have d3' : decode c.code (pc + 3) = .ok (.dup, 1) := by rw [hb]; exact d3
  have d4' : decode c.code (pc + 4) = .ok (.ldc is, 2) := by rw [hb]; exact d4
  have hstr' : vk_R own is text sa s' := vk_R.warm hW0 hstr
  obtain ⟨U, hsteps, hrun, hend, hW, hsame, ce, hce, hO⟩ := X₁.ctorThrowS hexec htr (own := own) (cls := cls) (names := names) (ic := ic) hown' hcls hnames h (fun x hx => nomatch hx) hfX hkX hcellA (by rw [hhp, hT]; exact Nat.le_refl _) (msg := .ref sa) rfl
    (g := { method := m, pc := pc + 6, locals := ls, stack := .ref sa :: .ref T.heap.size :: .ref T.heap.size :: rest, locked := none }) rfl hsize rfl rfl (rest := rest) rfl
    (by rw [hb]; exact d6) (by rw [hb]; exact d9) hout hRframes (by simp only [List.map_cons, List.sum_cons, hcat]; omega) hlocks
  obtain ⟨f1, f2⟩ := vx_frame hsame
  rw [hhp] at f1 f2
  have hWs : s.WarmedH U.vm := State.WarmedH.trans hW0 hW
  have hcl : s.vm.findClass cls = some ce.cls := by
    have h9 := hO.cls
    rw [hvm] at h9
    exact h9
  have hall : s.sameButNew ({ U with vm := s.vm } : State) locs mc ms := by
    subst hA
    obtain ⟨e1, e2⟩ := hsame
    rw [State.setFrames_setFrames] at e1
    have h2 : (T.setVm s.vm).sameButNew ({ U with vm := s.vm } : State) [] (0 + 1) (0 + 6) := ⟨e1, e2⟩
    have h3 := X.same.trans h2
    rw [List.append_nil] at h3
    exact h3.mono hc hs
  refine ⟨U, ?_, .threw T.heap.size, hrun, hend, Or.inr ⟨T.heap.size, rfl, cls, ce, locs, hx U hWs.alike f1 (fun q hq => f2 q hq (fun z hz => nomatch hz)), hce, hO.vm, hcl, hWs, hall, hf⟩⟩
  refine st1 _ ?_
  show Steps p.tables e below (T1.setTop { method := m, pc := pc + 3, locals := ls, stack := .ref T.heap.size :: rest, locked := none }) _
  jvm_step X₁.here [X₁.here.top, hexec, d3', Value.category]
  exact X₁.ldcString hexec (own := own) (text := text) (index := is) (a := sa) hown' hstr'.1 hstr'.2
    (g := { method := m, pc := pc + 4, locals := ls, stack := .ref T.heap.size :: .ref T.heap.size :: rest, locked := none }) rfl d4' _ hsteps
/-- 'throw new E("text")', the text by a wide index -/
theorem vx_throwSW {cc : ByteArray} {pc : Nat} (hexec : p.tables.exec = Jvm.exec) (hb : c.code = cc) (hl : l.stackTraces = false) {own cls text : String} {names : List String} {ik is ic mc ms sa : Nat} {A : Nat → Prop}
    (hown : s.vm.findClass own = some m.cls) (hcls : Bundle.fit cls = true) (hnames : ∀ n ∈ names, Bundle.fit n = true)
    (hk : (Cond.classLink own ik cls).before args s = true) (hini : (Cond.initialized cls).before args s = true) (hstr : vk_R own is text sa s) (hat : ∀ w ∈ vx_atS own ic cls names, w.before args s = true)
    (hgood : ∀ w ∈ Cond.classLink own ik cls :: Cond.initialized cls :: vx_atS own ic cls names, vx_ot w = true)
    (hU : vx_Zq Bundle.tN "UNASSIGNED_STACK" Bundle.steD A s s.heap) (hN : vx_Zq Bundle.tN "SUPPRESSED_SENTINEL" Bundle.listD A s s.heap) (hS : va_S A s.heap H locs) (hsize : ls.size = c.maxLocals)
    (d0 : decode cc pc = .ok (.new ik, 3)) (d3 : decode cc (pc + 3) = .ok (.dup, 1)) (d4 : decode cc (pc + 4) = .ok (.ldc_w is, 3)) (d7 : decode cc (pc + 7) = .ok (.invokespecial ic, 3)) (d10 : decode cc (pc + 10) = .ok (.athrow, 1))
    (hout : ∀ x ∈ c.exceptionTable.toList, covers x (pc + 10) = false)
    (hRframes : names.length + 3 < R.frames) (hRlocals : (rest.map fun v => v.category).sum + (13 * (names.length + 1) + 43) ≤ R.locals) (hRcells : cells + 1 ≤ R.cells) (hRslots : slots + 6 ≤ R.slots) (hlocks : meth.locks = false)
    (hx : ∀ t : State, s.vm.Alike t.vm → H.size ≤ t.heap.size → (∀ q : Nat, q < H.size → t.heap[q]? = H[q]?) → XC cls s t)
    (hf : ∀ z ∈ locs, free z.base) (hc : cells + 1 ≤ mc) (hs : slots + 6 ≤ ms) :
    W p l e R s m args below meth c H locs cells slots (vx_MQ below Qc XC args s mc ms free) (F0 m pc ls rest) := by
  intro T hT X
  have htr : e.platform.stackTraces = false := (show e.platform.stackTraces = l.stackTraces by rw [X.admits.platform]).trans hl
  have Y := vx_rebase X (R' := { frames := R.frames, locals := R.locals, cells := 1, slots := 6 }) (Nat.le_refl _) (Nat.le_refl _) hRcells hRslots
  obtain ⟨s', hA⟩ : ∃ z, z = (T.setVm s.vm).setFrames (.invoking m args :: below) := ⟨_, rfl⟩
  rw [← hA] at Y
  have hvm : s'.vm = s.vm := by rw [hA]; rfl
  have hhp : s'.heap = H := by rw [hA]; exact hT
  have hW0 : s.WarmedH s'.vm := by rw [hvm]; exact State.WarmedH.refl s
  have hat' : ∀ w ∈ vx_atS own ic cls names, w.before args s' = true := fun w hw => vx_ot_at hW0 hvm.symm (hgood w (List.mem_cons_of_mem _ (List.mem_cons_of_mem _ hw))) (hat w hw)
  have hk' : (Cond.classLink own ik cls).before args s' = true := vx_ot_at hW0 hvm.symm (hgood _ List.mem_cons_self) hk
  have hini' : (Cond.initialized cls).before args s' = true := vx_ot_at hW0 hvm.symm (hgood _ (List.mem_cons_of_mem _ List.mem_cons_self)) hini
  have hU' : vx_Zq Bundle.tN "UNASSIGNED_STACK" Bundle.steD A s' s'.heap := by rw [hhp]; exact vx_Zq.moved hW0.alike (hU.kept hS.2.1)
  have hN' : vx_Zq Bundle.tN "SUPPRESSED_SENTINEL" Bundle.listD A s' s'.heap := by rw [hhp]; exact vx_Zq.moved hW0.alike (hN.kept hS.2.1)
  have h : ∀ w ∈ Bundle.ownAtoms own ic cls names, w.before args s' = true := vx_own hat' (vx_isRefq hU'.1) (vx_isRefq hN'.1) hU'.2.word hN'.2.word
  have hown' : s'.vm.findClass own = some m.cls := by rw [hvm]; exact hown
  have hins : (Cond.instantiable cls 6).before args s' = true := h _ (by simp [Bundle.ownAtoms])
  obtain ⟨vm₁, cX, kX, hfX, hkX, -, -, X₁, st1⟩ := Y.newCold hexec (own := own) (C := cls) (index := ik) (n := 6) hown' hk' hins hini'
    (g := F0 m pc ls rest) rfl (by rw [hb]; exact d0) (Nat.le_refl _) (Nat.le_refl _)
  generalize hT1 : (T.setVm vm₁).pushCell { cls := cX, slots := kX.instanceTypes.map defaultValue, vm := .none } = T1 at X₁ st1
  have hcat : (Value.ref T.heap.size).category = 1 := rfl
  have hcellA : T1.heap[T.heap.size]? = some (freshCell cX kX) := by rw [← hT1]; exact State.heap_pushCell_size _ _
  have d3' : decode c.code (pc + 3) = .ok (.dup, 1) := by rw [hb]; exact d3
  have d4' : decode c.code (pc + 4) = .ok (.ldc_w is, 3) := by rw [hb]; exact d4
  have hstr' : vk_R own is text sa s' := vk_R.warm hW0 hstr
  obtain ⟨U, hsteps, hrun, hend, hW, hsame, ce, hce, hO⟩ := X₁.ctorThrowS hexec htr (own := own) (cls := cls) (names := names) (ic := ic) hown' hcls hnames h (fun x hx => nomatch hx) hfX hkX hcellA (by rw [hhp, hT]; exact Nat.le_refl _) (msg := .ref sa) rfl
    (g := { method := m, pc := pc + 7, locals := ls, stack := .ref sa :: .ref T.heap.size :: .ref T.heap.size :: rest, locked := none }) rfl hsize rfl rfl (rest := rest) rfl
    (by rw [hb]; exact d7) (by rw [hb]; exact d10) hout hRframes (by simp only [List.map_cons, List.sum_cons, hcat]; omega) hlocks
  obtain ⟨f1, f2⟩ := vx_frame hsame
  rw [hhp] at f1 f2
  have hWs : s.WarmedH U.vm := State.WarmedH.trans hW0 hW
  have hcl : s.vm.findClass cls = some ce.cls := by
    have h9 := hO.cls
    rw [hvm] at h9
    exact h9
  have hall : s.sameButNew ({ U with vm := s.vm } : State) locs mc ms := by
    subst hA
    obtain ⟨e1, e2⟩ := hsame
    rw [State.setFrames_setFrames] at e1
    have h2 : (T.setVm s.vm).sameButNew ({ U with vm := s.vm } : State) [] (0 + 1) (0 + 6) := ⟨e1, e2⟩
    have h3 := X.same.trans h2
    rw [List.append_nil] at h3
    exact h3.mono hc hs
  refine ⟨U, ?_, .threw T.heap.size, hrun, hend, Or.inr ⟨T.heap.size, rfl, cls, ce, locs, hx U hWs.alike f1 (fun q hq => f2 q hq (fun z hz => nomatch hz)), hce, hO.vm, hcl, hWs, hall, hf⟩⟩
  refine st1 _ ?_
  show Steps p.tables e below (T1.setTop { method := m, pc := pc + 3, locals := ls, stack := .ref T.heap.size :: rest, locked := none }) _
  jvm_step X₁.here [X₁.here.top, hexec, d3', Value.category]
  exact X₁.ldcStringW hexec (own := own) (text := text) (index := is) (a := sa) hown' hstr'.1 hstr'.2
    (g := { method := m, pc := pc + 4, locals := ls, stack := .ref T.heap.size :: .ref T.heap.size :: rest, locked := none }) rfl d4' _ hsteps
end Ends
section Bodies
variable {l : Launch}
theorem vx_ofW {y : MethodName} {ws ws' : List Cond} {rm : Room} {Pc : Array Value → State → Prop} {Qc : Array Value → State → Outcome → State → Prop} {XC : String → State → State → Prop} {mc ms : Nat} {free : Addr → Prop} {cc : ByteArray} {maxL : Nat} {ret : Option FieldType}
    (hy : plainName y.cls = true) (hw : ws = Cond.code y cc maxL ret :: ws')
    (body : ∀ p e s m args below meth c s₁, BodyLoose p l y (headSpec ws rm) cc maxL ret e s m args below meth c s₁ → c.maxLocals = maxL → (∀ x ∈ c.exceptionTable.toList, False) → Pc args s →
      W p l e (headSpec ws rm).room s m args below meth c s.heap [] 0 0 (vx_MQ below Qc XC args s mc ms free) (entryFrame m args maxL)) : vx_Met l y ws rm Pc Qc XC mc ms free := by
  refine MetFree.of_bodyS (code := cc) (maxLocals := maxL) (ret := ret) hy ?_ ?_
  · intro args s m h hn
    obtain ⟨meth, c, h1, h2, h3, h4, h5, h6, -, -⟩ := Cond.code_spec hn (atoms_spec (ws := ws) h _ (by rw [hw]; exact List.mem_cons_self))
    exact ⟨meth, c, h1, h2, h3, h4, h5, h6⟩
  · intro p e s m args below meth c s₁ B hml hP _
    have hh0 : s₁.heap = s.heap := by rw [B.state]; rfl
    have ht : ∀ x ∈ c.exceptionTable.toList, False := by
      obtain ⟨meth9, c9, h1, h2, -, -, -, -, h7, -⟩ := Cond.code_spec B.named (atoms_spec (ws := ws) B.pre _ (by rw [hw]; exact List.mem_cons_self))
      cases Option.some.inj (h1.symm.trans B.method)
      cases Option.some.inj (h2.symm.trans (Stand.of_body B).code)
      intro x hx
      rw [Array.isEmpty_iff.mp h7] at hx
      cases hx
    obtain ⟨t, a1, o, b1, b2, b3⟩ := body p e s m args below meth c s₁ B hml ht hP s₁ hh0 (Stand.of_body B)
    exact ⟨t, o, a1, b1, b2, b3⟩
/-- the table of a body with handlers -/
theorem vx_table {p : Program} {x y : MethodName} {S : Spec} {cc bytes : ByteArray} {maxL maxL' : Nat} {ret ret' : Option FieldType} {e : Env} {s s₁ : State} {m : MethodId} {args : Array Value} {below : List Frame} {meth : Method} {c : Code} {hh : List (Nat × Nat × Nat × Nat)}
    (B : BodyLoose p l y S cc maxL ret e s m args below meth c s₁) (h : (Cond.codeWith y bytes maxL' ret' hh).before args s = true) : c.exceptionTable.toList = tableOf hh := by
  obtain ⟨m9, meth9, c9, hn9, h1, h2, -, -, h6, -⟩ := Cond.codeWith_spec h
  cases Option.some.inj (hn9.symm.trans B.named)
  cases Option.some.inj (h1.symm.trans B.method)
  cases Option.some.inj (h2.symm.trans (Stand.of_body B).code)
  rw [← h6, table_eq]
end Bodies
end VXA
/-! ===== END ===== -/
/-! ===== BEGIN a static call of a method with an exception table ===== -/
section VXS
variable {p : Program} {l : Launch} {e : Env} {R : Room} {s : State} {m : MethodId} {args : Array Value} {below : List Frame} {meth : Method} {c : Code} {T : State} {H : Heap} {locs : List Loc} {cells slots : Nat}
abbrev vx_CSW (R : Room) (s : State) (args : Array Value) (own : String) (index : Nat) (y : MethodName) (bytes : ByteArray) (maxL : Nat) (ret : Option FieldType) (hh : List (Nat × Nat × Nat × Nat)) (ws : List Cond) (rm : Room) (mc ms n : Nat) : Prop :=
  (rm.cells = mc ∧ rm.slots = ms ∧ rm.frames + 1 ≤ R.frames ∧ 8 + (maxL + 11) + rm.locals ≤ R.locals ∧ (∀ w ∈ ws, ∀ (a' : Array Value) (U : State), s.WarmedH U.vm → w.before a' U = true) ∧ Cond.codeWith y bytes maxL ret hh ∈ ws) ∧
  (Cond.codeWith y bytes maxL ret hh).before args s = true ∧ (Cond.initialized y.cls).before args s = true ∧ (y.cls ≠ "java/lang/invoke/MethodHandle" ∧ y.cls ≠ "java/lang/invoke/VarHandle") ∧
  (∀ sig, parseMethodDescriptor y.desc = some sig → n = sig.parameters.length) ∧ (Cond.methodLink own index y).before args s = true ∧ (Cond.static y).before args s = true
theorem vx_cwSW {own : String} {index maxL mc ms : Nat} {y : MethodName} {bytes : ByteArray} {ret : Option FieldType} {hh : List (Nat × Nat × Nat × Nat)} {Ts ws ws' : List Cond} {rm : Room} (n : Nat) (ht : ∀ w ∈ Ts, w.before args s = true) (hT : GoodIn Ts (va_wsS own index y ws)) (hw : ws = Cond.codeWith y bytes maxL ret hh :: ws') (hrc : rm.cells = mc) (hrs : rm.slots = ms)
    (hd : y.cls ≠ "java/lang/invoke/MethodHandle" ∧ y.cls ≠ "java/lang/invoke/VarHandle" ∧ (parseMethodDescriptor y.desc).map (fun d => d.parameters.length) = some n) (hR : rm.frames + 1 ≤ R.frames ∧ 8 + (maxL + 11) + rm.locals ≤ R.locals) :
    vx_CSW R s args own index y bytes maxL ret hh ws rm mc ms n := by
  have ok : ∀ w ∈ va_wsS own index y ws, w.before args s = true := fun w h => ht w (hT w h).1
  have hG : GoodIn Ts ws := fun w h => hT w (by unfold va_wsS; exact List.mem_append_right _ h)
  have hc : Cond.codeWith y bytes maxL ret hh ∈ ws := by rw [hw]; exact List.mem_cons_self
  refine ⟨⟨hrc, hrs, hR.1, hR.2, pay_in ht hG, hc⟩, ht _ (hG _ hc).1, ok _ (by simp [va_wsS]), ⟨hd.1, hd.2.1⟩, fun sig h => ?_, ok _ (by simp [va_wsS]), ok _ (by simp [va_wsS])⟩
  have h2 := hd.2.2
  rw [h] at h2
  exact (Option.some.inj h2).symm
theorem vx_callSW (X : Stand p l e R s m args below meth c T locs cells slots) (hexec : p.tables.exec = Jvm.exec) {own : String} {index : Nat} {y : MethodName} {bytes : ByteArray} {maxL : Nat} {ret : Option FieldType} {hh : List (Nat × Nat × Nat × Nat)}
    (hown : s.vm.findClass own = some m.cls) (hlink : (Cond.methodLink own index y).before args s = true) (hstat : (Cond.static y).before args s = true) (hinit : (Cond.initialized y.cls).before args s = true)
    (hcode : (Cond.codeWith y bytes maxL ret hh).before args s = true) (hy : y.cls ≠ "java/lang/invoke/MethodHandle" ∧ y.cls ≠ "java/lang/invoke/VarHandle")
    {W9 : Nat} {Pre : Pt → Array Value → Prop} {Post : Pt → Array Value → Option Value → Pt → Prop} (hK : Back l R p e below s args y 3 W9 Pre Post)
    {g : JFrame} (hg : g.method = m) (hsize : g.locals.size = c.maxLocals) {argsL rest : List Value} (hlen : ∀ sig, parseMethodDescriptor y.desc = some sig → argsL.length = sig.parameters.length)
    (hstack : g.stack = argsL.reverse ++ rest) (hW : 2 * g.monitorRoom + (rest.map fun v => v.category).sum ≤ W9) (hdg : decode c.code g.pc = .ok (.invokestatic index, 3))
    (hpre : ∀ vm₁, s.WarmedH vm₁ → Pre ⟨T.setVm vm₁, locs, cells, slots⟩ argsL.toArray) :
    ∃ (v : Option Value) (vm₁ : Vm) (B : Pt), s.WarmedH vm₁ ∧ Stand p l e R s m args below meth c B.U B.locs B.cells B.slots ∧ Post ⟨T.setVm vm₁, locs, cells, slots⟩ argsL.toArray v B ∧
      ∀ target, Steps p.tables e below (B.U.setTop { g with pc := g.pc + 3, stack := v.toList ++ rest }) target → Steps p.tables e below (T.setTop g) target := by
  obtain ⟨mk, methM, cM, hnamed, hmethM, -, -, -, -, -, -, hsigM⟩ := Cond.codeWith_spec hcode
  have hstatic : methM.isStatic = true := Cond.static_spec hnamed hmethM hstat
  obtain ⟨kP, hkP, -⟩ := className_of_methodNamed hnamed
  have hinitP : kP.init = .initialized := Cond.initialized_spec (findClass_of_methodNamed hnamed) hkP hinit
  obtain ⟨vm₁, X₁, hstep₁⟩ := X.invokestatic hexec hown hlink hnamed hmethM hstatic hkP hinitP hy (g := g) hg (argsL := argsL) (rest := rest) (hlen _ hsigM) hstack hdg
  obtain ⟨v, B, X', hpost, hsteps⟩ := hK m meth c ⟨T.setVm vm₁, locs, cells, slots⟩ { g with stack := rest } (.invokestatic index) mk argsL.toArray X₁ hg hsize hdg hW (X₁.named hnamed) (hpre vm₁ X₁.warmed)
  exact ⟨v, vm₁, B, X₁.warmed, X', hpost, fun target h => hstep₁ _ fun acts => by rw [doInvoke_state]; exact hsteps.trans h⟩
theorem vx_runSW {y : MethodName} {bytes cc : ByteArray} {maxL nL mc ms n index : Nat} {ret : Option FieldType} {hh : List (Nat × Nat × Nat × Nat)} {ws : List Cond} {rm : Room} {Pc : Array Value → State → Prop} {Qc : Array Value → State → Outcome → State → Prop} {free : Addr → Prop} {Ts : List Cond} {own : String} {As rest : List Value} {g : JFrame}
    (S : CallFix p m c cc nL s args Ts own) (hM : Met l y ws rm Pc Qc mc ms free) (cw : vx_CSW R s args own index y bytes maxL ret hh ws rm mc ms n) (hp : PreS s H Pc As)
    (hg : g.method = m) (hn : As.length = n) (hsize : g.locals.size = nL) (hstack : g.stack = As.reverse ++ rest) (hW : 2 * g.monitorRoom + (rest.map fun v => v.category).sum ≤ 8) (hdg : decode cc g.pc = .ok (.invokestatic index, 3)) (hf : cells + mc ≤ R.cells ∧ slots + ms ≤ R.slots) :
    va_Run p l e R s m args below meth c H locs cells slots mc ms g rest (Qc As.toArray) (free) := by
  obtain ⟨⟨hrc, hrs, hfr, hlo, hws, hcw⟩, hcode, hini, hy, hlen, hl, hstt⟩ := cw
  have hK : Back l R p e below s args y 3 8 (PreOf R mc ms Pc) (PostOf Qc mc ms free) := va_backW (hh := hh) (bytes := bytes) (maxL := maxL) (ret := ret) hM hp.1 hrc hrs hfr hlo hws hcw (fun a' U hW => word_at hW (Or.inl (by first | rfl | simp [Cond.onTables, Cond.keeps, Cond.steady])) hini)
  obtain ⟨hx, hb, hml, ho, -⟩ := S
  intro T hT X
  obtain ⟨v, vm₁, ⟨U', l2, c2, s2⟩, hW₁, X', ⟨g', mk, t, L, e1, e2, hq, h1, hL, h2, h3⟩, st⟩ := vx_callSW X hx (hh := hh) (bytes := bytes) (maxL := maxL) (ret := ret) ho hl hstt hini hcode hy hK hg (hsize.trans hml.symm) (argsL := As) (rest := rest) (fun sig h => hn.trans (hlen sig h)) hstack hW (by rw [hb]; exact hdg)
    (fun vm₁ hW₁ => ⟨hf.1, hf.2, hp.2 (T.setVm vm₁) hT hW₁⟩)
  dsimp only [Pt.U, Pt.locs, Pt.cells, Pt.slots] at X' e1 e2 h1 h2 h3 st
  subst h1; subst h2; subst h3
  exact ⟨v, (T.setVm vm₁).calling g' mk As.toArray, t, U', L, hT, X', hL, e1, e2, hq, st⟩
/-- not caught here, past rows that name other classes: it goes on to the caller -/
theorem vx_outP {p : Program} {l : Launch} {e : Env} {R : Room} {s : State} {m : MethodId} {args : Array Value} {below : List Frame} {meth : Method} {c : Code} {H : Heap} {locs : List Loc} {cells slots : Nat} {free : Addr → Prop} {ls : Array Slot} {rest : List Value} {Qc : Array Value → State → Outcome → State → Prop} {XC : String → State → State → Prop}
    {pc : Nat} {own E : String} {ce : Cell} {q : Addr} {mc ms : Nat} (hown : s.vm.findClass own = some m.cls) (hlocks : meth.locks = false)
    (hpass : ∀ z ∈ c.exceptionTable.toList, covers z pc = false ∨ (z.catchType ≠ 0 ∧ ∃ nm : String, (Cond.classLink own z.catchType nm).before args s = true ∧ va_Nc E nm s)) (hcell : H[q]? = some ce) (hv : ce.vm = .none) (hcl : s.vm.findClass E = some ce.cls)
    (hx : ∀ t : State, t.heap = H → s.vm.Alike t.vm → XC E s t) (hf : ∀ z ∈ locs, free z.base) (hc : cells ≤ mc) (hs : slots ≤ ms) :
    vx_W p l e R s m args below meth c H locs cells slots (vx_MQ below Qc XC args s mc ms free) (F0 m pc ls rest) q := by
  intro T hT X
  have hpl : e.platform.magicAccessors = ({} : Platform).magicAccessors := by rw [X.admits.platform]
  obtain ⟨vm', hW', X', st⟩ := X.outThrough hlocks q (g := F0 m pc ls rest) rfl rfl rfl (cell := ce) (by rw [hT]; exact hcell) (by rw [hv]; rfl)
    (by obtain ⟨k9, h9, -⟩ := Vm.findClass_spec hcl; exact ⟨k9, h9⟩) (fun z hz => by
      rcases hpass z hz with h | ⟨hz0, nm, hl1, hn1⟩
      · exact Or.inl h
      · obtain ⟨c6, hc6, hcl6⟩ := Cond.classLink_spec hown hl1 e.platform hpl
        obtain ⟨a8, b8, h1, h2, h3⟩ := hn1
        cases Option.some.inj (h1.symm.trans hcl)
        cases Option.some.inj (h2.symm.trans hc6)
        exact Or.inr ⟨hz0, _, hcl6, h3⟩)
  obtain ⟨g₀, hfr⟩ := X'.frames_eq
  have hcell9 : ((T.setVm vm').setFrames (.throwing q :: below)).heap[q]? = some ce := by
    show T.heap[q]? = some ce
    rw [hT]; exact hcell
  have hend : Ended ((T.setVm vm').setFrames (.throwing q :: below)) below (.threw q) := State.frames_setFrames _ (State.cur_lt_of_frames hfr)
  refine ⟨(T.setVm vm').setFrames (.throwing q :: below), ?_, .threw q, X'.here.running, hend, Or.inr ⟨q, rfl, E, ce, locs, hx _ hT (X'.ends _).1.alike, hcell9, hv, hcl, (X'.ends _).1, (X'.ends _).2.mono hc hs, hf⟩⟩
  rw [X.pushThrowing_eq]
  exact st
/-- a thing of a world lies in the heap -/
theorem vx_lt {D : va_G} {cl : List vw_C} {ws : va_W} {H1 : Heap} (h : va_P D cl ws H1) {k : Nat} {q : Nat × va_E} (hk : ws[k]? = some q) : q.1 < H1.size := (h k q hk).lt
end VXS
/-! ===== END ===== -/
/-! ===== BEGIN methods with a table of their own: called by a name, returning or throwing ===== -/
section VXH
/-! vx_backW, vx_callVX, vx_callSX, vx_callVW, vx_runVW, vx_runVX, vx_runSX, vx_ofWH follow the same proofs as their sisters above (Free/Laws.lean, Shelf42/LK1.lean); vx_outP calls Shelf42/NT130.lean (outThrough). -/
section
variable {l : Launch} {R : Room} {p : Program} {e : Env} {below : List Frame} {s : State} {sargs : Array Value} {y : MethodName} {len W9 : Nat}
theorem vx_backW {ws : List Cond} {rm : Room} {Pc : Array Value → State → Prop} {Qc : Array Value → State → Outcome → State → Prop} {XC : String → State → State → Prop} {mc ms : Nat} {free : Addr → Prop} {bytes : ByteArray} {maxL : Nat} {ret : Option FieldType} {hh : List (Nat × Nat × Nat × Nat)}
    (hM : vx_Met l y ws rm Pc Qc XC mc ms free) (hblind : FrameBlind Pc) (hrc : rm.cells = mc) (hrs : rm.slots = ms)
    (hframes : rm.frames + 1 ≤ R.frames) (hlocals : W9 + (maxL + 11) + rm.locals ≤ R.locals)
    (hws : ∀ w ∈ ws, ∀ a' U, s.WarmedH U.vm → w.before a' U = true) (hcode : Cond.codeWith y bytes maxL ret hh ∈ ws) (hinit : ∀ a' U, s.WarmedH U.vm → (Cond.initialized y.cls).before a' U = true) :
    vx_Back l R p e below s sargs y len W9 (PreOf R mc ms Pc) (PostOf Qc mc ms free) (vx_Post XC mc ms free) := by
  intro m meth c A g ig mk a X hg hsize hdg hW hn hp
  have h1 : (headSpec ws rm).pre.before a A.U = true := atoms_intro fun w hw => hws w hw _ _ X.warmed
  have h2 : (Cond.codeWith y bytes maxL ret hh).before a A.U = true := hws _ hcode _ _ X.warmed
  have h3 : (Cond.initialized y.cls).before a A.U = true := hinit _ _ X.warmed
  have h4 : A.cells + (headSpec ws rm).room.cells ≤ R.cells := by rw [show (headSpec ws rm).room.cells = mc from hrc]; exact hp.1
  have h5 : A.slots + (headSpec ws rm).room.slots ≤ R.slots := by rw [show (headSpec ws rm).room.slots = ms from hrs]; exact hp.2.1
  have hPc : Pc a (A.U.calling g mk a) := hblind _ _ _ _ hp.2.2
  obtain ⟨U, Ls, c0, s0⟩ := A
  dsimp only [Pt.U, Pt.locs, Pt.cells, Pt.slots] at h1 h2 h3 h4 h5 X hn hPc ⊢
  obtain ⟨m9, methY, cY, hn9, hmY, hcY, -, hlY, -⟩ := Cond.codeWith_spec h2
  cases Option.some.inj (hn9.symm.trans hn)
  obtain ⟨kY, hkY, -⟩ := className_of_methodNamed hn
  have hinitY : kY.init = .initialized := Cond.initialized_spec (findClass_of_methodNamed hn) hkY h3
  have h : At U g.method c below := by rw [hg]; exact X.here
  have hlocals9 : W9 + (maxL + 11) + (headSpec ws rm).room.locals ≤ R.locals := hlocals
  have happ : (headSpec ws rm).appliesLoose y e.platform (U.calling g mk a) = true :=
    Spec.appliesLoose_calling (g := g) h hdg hn hkY hinitY
      (X.room_calling (g := g) (R' := (headSpec ws rm).room) hsize hmY hcY hframes (by rw [hlY]; omega) h4 h5) h1
  obtain ⟨mid, hmid⟩ := h.above
  have hfr : (U.setTop g).frames = (.java g :: mid) ++ below := by rw [State.frames_setTop' g h.top, hmid]; rfl
  obtain ⟨o, s₂, hsteps, -, hend, hq⟩ := Steps.callFree hM p X.admits X.cas X.clock (acts := []) hfr happ hPc trivial
  have hq' : vx_Q Qc XC mc ms free a (U.calling g mk a) o s₂ := hq
  rw [State.frames_setTop' g h.top] at hend
  obtain ⟨g₀, hg0⟩ := Option.isSome_iff_exists.mp h.top
  obtain ⟨r, hr⟩ := State.topJava?_eq_some.mp hg0
  have hr' : (({ U with heap := s₂.heap, slotsUsed := s₂.slotsUsed } : State).setVm s₂.vm).frames = .java g₀ :: r := hr
  rcases hq' with ⟨hqc, L, hfe, hL⟩ | ⟨q, rfl, E, ce, L, hx, hce, hcv, hcl, hW₂, hsm, hL⟩
  · obtain ⟨⟨v, rfl⟩, hW₂, e2, q2, q3, q4, q5, q6⟩ := id hfe
    have e3 : s₂ = ({ (U.calling g mk a).setFrames s₂.frames with heap := s₂.heap, slotsUsed := s₂.slotsUsed } : State).setVm s₂.vm := by
      have : s₂ = ({ s₂ with vm := (U.calling g mk a).vm } : State).setVm s₂.vm := rfl
      rw [e2] at this
      exact this
    obtain ⟨c₂, i₂, len₂, hc₂, hd₂, hf₂⟩ := hend
    have hW' : U.WarmedH s₂.vm := hW₂
    have hcc : c₂ = c := by
      have h1 : s₂.code? g.method = U.code? g.method := by
        rw [State.code?_eq, State.code?_eq, hW'.alike.method?]
      exact Option.some.inj (hc₂.symm.trans (h1.trans h.code))
    subst hcc
    have hlen : len₂ = len := by rw [hdg] at hd₂; cases hd₂; rfl
    subst hlen
    have hs₂ : s₂ = (({ U with heap := s₂.heap, slotsUsed := s₂.slotsUsed } : State).setVm s₂.vm).setTop { g with pc := g.pc + len₂, stack := v.toList ++ g.stack } := by
      refine e3.trans ?_
      rw [hf₂, State.calling_eq h.top, State.setFrames_setFrames, State.setTop_of_frames _ hr', hr]
      rfl
    have hsame : U.sameButNew ({ U with heap := s₂.heap, slotsUsed := s₂.slotsUsed } : State) L mc ms := by
      refine ⟨?_, q2, q3, q4, q5, q6⟩
      obtain ⟨t, ht, -⟩ := State.frames_cons hr
      show ({ U with heap := s₂.heap, slotsUsed := s₂.slotsUsed } : State) = { U.setFrames U.frames with heap := s₂.heap, slotsUsed := s₂.slotsUsed }
      rw [State.setFrames_self ht]
    subst hg
    refine Or.inl ⟨v, ⟨(({ U with heap := s₂.heap, slotsUsed := s₂.slotsUsed } : State).setVm s₂.vm), Ls ++ L, c0 + mc, s0 + ms⟩,
      ⟨X.admits, X.cas, X.clock, X.frames, X.room, X.hears, X.method, X.code, (X.here.setHeapUsed s₂.heap s₂.slotsUsed).setVm hW'.alike, X.tail, State.WarmedH.trans X.warmed hW', X.limits, X.bytes, X.same.trans (hsame.setVm s.vm)⟩,
      ⟨g, mk, s₂, L, rfl, rfl, hqc, rfl, hL, rfl, rfl⟩, ?_⟩
    show Steps p.tables e below _ ((({ U with heap := s₂.heap, slotsUsed := s₂.slotsUsed } : State).setVm s₂.vm).setTop { g with pc := g.pc + len₂, stack := v.toList ++ g.stack })
    rw [← hs₂]
    exact hsteps
  · obtain ⟨e2, q2, q3, q4, q5, q6⟩ := id hsm
    have e3 : s₂ = ({ (U.calling g mk a).setFrames s₂.frames with heap := s₂.heap, slotsUsed := s₂.slotsUsed } : State).setVm s₂.vm := by
      have : s₂ = ({ s₂ with vm := (U.calling g mk a).vm } : State).setVm s₂.vm := rfl
      rw [e2] at this
      exact this
    have hf₂ : s₂.frames = .throwing q :: .java g :: U.frames.tail := hend
    have hW' : U.WarmedH s₂.vm := hW₂
    have hs₂ : s₂ = ((({ U with heap := s₂.heap, slotsUsed := s₂.slotsUsed } : State).setVm s₂.vm).setTop g).pushFrame (.throwing q) := by
      refine e3.trans ?_
      rw [hf₂, State.calling_eq h.top, State.setFrames_setFrames, State.pushFrame, State.frames_setTop _ hr', State.setTop_of_frames _ hr', State.setFrames_setFrames, hr]
      rfl
    have hsame : U.sameButNew ({ U with heap := s₂.heap, slotsUsed := s₂.slotsUsed } : State) L mc ms := by
      refine ⟨?_, q2, q3, q4, q5, q6⟩
      obtain ⟨t, ht, -⟩ := State.frames_cons hr
      show ({ U with heap := s₂.heap, slotsUsed := s₂.slotsUsed } : State) = { U.setFrames U.frames with heap := s₂.heap, slotsUsed := s₂.slotsUsed }
      rw [State.setFrames_self ht]
    subst hg
    refine Or.inr ⟨q, ⟨(({ U with heap := s₂.heap, slotsUsed := s₂.slotsUsed } : State).setVm s₂.vm), Ls ++ L, c0 + mc, s0 + ms⟩,
      ⟨X.admits, X.cas, X.clock, X.frames, X.room, X.hears, X.method, X.code, (X.here.setHeapUsed s₂.heap s₂.slotsUsed).setVm hW'.alike, X.tail, State.WarmedH.trans X.warmed hW', X.limits, X.bytes, X.same.trans (hsame.setVm s.vm)⟩,
      ⟨g, mk, s₂, L, E, ce, rfl, rfl, hx, hce, hcv, hcl, rfl, hL, rfl, rfl⟩, ?_⟩
    show Steps p.tables e below _ (((({ U with heap := s₂.heap, slotsUsed := s₂.slotsUsed } : State).setVm s₂.vm).setTop g).pushFrame (.throwing q))
    rw [← hs₂]
    exact hsteps
end
variable {p : Program} {l : Launch} {e : Env} {R : Room} {s : State} {m : MethodId} {args : Array Value} {below : List Frame} {meth : Method} {c : Code} {T : State} {H : Heap} {locs : List Loc} {cells slots : Nat}
theorem vx_callVX (X : Stand p l e R s m args below meth c T locs cells slots) (hexec : p.tables.exec = Jvm.exec) {own C : String} {index : Nat} {y : MethodName} {bytes : ByteArray} {maxL : Nat} {ret : Option FieldType} {hh : List (Nat × Nat × Nat × Nat)}
    (hown : s.vm.findClass own = some m.cls) (hlink : (Cond.methodLink own index y).before args s = true) (hinst : (Cond.instanceMethod y).before args s = true) (hsel : (Cond.selects C y y).before args s = true)
    (hcode : (Cond.codeWith y bytes maxL ret hh).before args s = true) (hy : y.cls ≠ "java/lang/invoke/MethodHandle" ∧ y.cls ≠ "java/lang/invoke/VarHandle")
    {W9 : Nat} {Pre : Pt → Array Value → Prop} {Post : Pt → Array Value → Option Value → Pt → Prop} {PostX : Pt → Array Value → Addr → Pt → Prop} (hK : vx_Back l R p e below s args y 3 W9 Pre Post PostX)
    {b : Addr} {cellB : Cell} (hcell : T.heap[b]? = some cellB) (hobj : cellB.vm.isStatics = false) (hcls : s.vm.findClass C = some cellB.cls)
    {g : JFrame} (hg : g.method = m) (hsize : g.locals.size = c.maxLocals) {argsL rest : List Value} (hlen : ∀ sig, parseMethodDescriptor y.desc = some sig → argsL.length = sig.parameters.length)
    (hstack : g.stack = argsL.reverse ++ .ref b :: rest) (hW : 2 * g.monitorRoom + (rest.map fun v => v.category).sum ≤ W9) (hdg : decode c.code g.pc = .ok (.invokevirtual index, 3))
    (hpre : ∀ vm₁, s.WarmedH vm₁ → Pre ⟨T.setVm vm₁, locs, cells, slots⟩ (Value.ref b :: argsL).toArray) :
    (∃ (v : Option Value) (vm₁ : Vm) (B : Pt), s.WarmedH vm₁ ∧ Stand p l e R s m args below meth c B.U B.locs B.cells B.slots ∧ Post ⟨T.setVm vm₁, locs, cells, slots⟩ (Value.ref b :: argsL).toArray v B ∧
      ∀ target, Steps p.tables e below (B.U.setTop { g with pc := g.pc + 3, stack := v.toList ++ rest }) target → Steps p.tables e below (T.setTop g) target) ∨
    (∃ (q : Addr) (vm₁ : Vm) (B : Pt), s.WarmedH vm₁ ∧ Stand p l e R s m args below meth c B.U B.locs B.cells B.slots ∧ PostX ⟨T.setVm vm₁, locs, cells, slots⟩ (Value.ref b :: argsL).toArray q B ∧
      Steps p.tables e below (T.setTop g) ((B.U.setTop { g with stack := rest }).pushFrame (.throwing q))) := by
  obtain ⟨mk, methM, hnamed, hmethM, hstM, habM⟩ := Cond.instanceMethod_spec hinst
  obtain ⟨m8, methM', cM, hn8, hmethM', -, -, -, -, -, -, hsigM⟩ := Cond.codeWith_spec hcode
  cases Option.some.inj (hn8.symm.trans hnamed)
  cases hmethM.symm.trans hmethM'
  obtain ⟨c2, r2, m2, q1, q2, q3, q4, kP, hkP, hkPi⟩ := Cond.selects_spec hsel
  cases hcls.symm.trans q1
  cases (State.methodFound?_of_named hnamed hy).symm.trans q2
  cases hnamed.symm.trans q3
  have hselP : selectMethod e.platform s.vm cellB.cls mk = .method mk := by rw [Launch.admits_selectMethod X.admits]; exact q4
  obtain ⟨vm₁, X₁, hstep₁⟩ := X.invokevirtual hexec hown hlink hnamed hmethM hstM hkP hkPi hy (a := b) (cell := cellB) hcell
    (fun z h => by rw [h] at hobj; cases hobj) hselP hmethM habM hkP hkPi (g := g) hg (argsL := argsL) (rest := rest) (hlen _ hsigM) hstack hdg
  rcases hK m meth c ⟨T.setVm vm₁, locs, cells, slots⟩ { g with stack := rest } (.invokevirtual index) mk (Value.ref b :: argsL).toArray X₁ hg hsize hdg hW (X₁.named hnamed) (hpre vm₁ X₁.warmed) with ⟨v, B, X', hpost, hsteps⟩ | ⟨q, B, X', hpost, hsteps⟩
  · exact Or.inl ⟨v, vm₁, B, X₁.warmed, X', hpost, fun target h => hstep₁ _ fun acts => by rw [doInvoke_state]; exact hsteps.trans h⟩
  · exact Or.inr ⟨q, vm₁, B, X₁.warmed, X', hpost, hstep₁ _ fun acts => by rw [doInvoke_state]; exact hsteps⟩
theorem vx_callSX (X : Stand p l e R s m args below meth c T locs cells slots) (hexec : p.tables.exec = Jvm.exec) {own : String} {index : Nat} {y : MethodName} {bytes : ByteArray} {maxL : Nat} {ret : Option FieldType} {hh : List (Nat × Nat × Nat × Nat)}
    (hown : s.vm.findClass own = some m.cls) (hlink : (Cond.methodLink own index y).before args s = true) (hstat : (Cond.static y).before args s = true) (hinit : (Cond.initialized y.cls).before args s = true)
    (hcode : (Cond.codeWith y bytes maxL ret hh).before args s = true) (hy : y.cls ≠ "java/lang/invoke/MethodHandle" ∧ y.cls ≠ "java/lang/invoke/VarHandle")
    {W9 : Nat} {Pre : Pt → Array Value → Prop} {Post : Pt → Array Value → Option Value → Pt → Prop} {PostX : Pt → Array Value → Addr → Pt → Prop} (hK : vx_Back l R p e below s args y 3 W9 Pre Post PostX)
    {g : JFrame} (hg : g.method = m) (hsize : g.locals.size = c.maxLocals) {argsL rest : List Value} (hlen : ∀ sig, parseMethodDescriptor y.desc = some sig → argsL.length = sig.parameters.length)
    (hstack : g.stack = argsL.reverse ++ rest) (hW : 2 * g.monitorRoom + (rest.map fun v => v.category).sum ≤ W9) (hdg : decode c.code g.pc = .ok (.invokestatic index, 3))
    (hpre : ∀ vm₁, s.WarmedH vm₁ → Pre ⟨T.setVm vm₁, locs, cells, slots⟩ argsL.toArray) :
    (∃ (v : Option Value) (vm₁ : Vm) (B : Pt), s.WarmedH vm₁ ∧ Stand p l e R s m args below meth c B.U B.locs B.cells B.slots ∧ Post ⟨T.setVm vm₁, locs, cells, slots⟩ argsL.toArray v B ∧
      ∀ target, Steps p.tables e below (B.U.setTop { g with pc := g.pc + 3, stack := v.toList ++ rest }) target → Steps p.tables e below (T.setTop g) target) ∨
    (∃ (q : Addr) (vm₁ : Vm) (B : Pt), s.WarmedH vm₁ ∧ Stand p l e R s m args below meth c B.U B.locs B.cells B.slots ∧ PostX ⟨T.setVm vm₁, locs, cells, slots⟩ argsL.toArray q B ∧
      Steps p.tables e below (T.setTop g) ((B.U.setTop { g with stack := rest }).pushFrame (.throwing q))) := by
  obtain ⟨mk, methM, cM, hnamed, hmethM, -, -, -, -, -, -, hsigM⟩ := Cond.codeWith_spec hcode
  have hstatic : methM.isStatic = true := Cond.static_spec hnamed hmethM hstat
  obtain ⟨kP, hkP, -⟩ := className_of_methodNamed hnamed
  have hinitP : kP.init = .initialized := Cond.initialized_spec (findClass_of_methodNamed hnamed) hkP hinit
  obtain ⟨vm₁, X₁, hstep₁⟩ := X.invokestatic hexec hown hlink hnamed hmethM hstatic hkP hinitP hy (g := g) hg (argsL := argsL) (rest := rest) (hlen _ hsigM) hstack hdg
  rcases hK m meth c ⟨T.setVm vm₁, locs, cells, slots⟩ { g with stack := rest } (.invokestatic index) mk argsL.toArray X₁ hg hsize hdg hW (X₁.named hnamed) (hpre vm₁ X₁.warmed) with ⟨v, B, X', hpost, hsteps⟩ | ⟨q, B, X', hpost, hsteps⟩
  · exact Or.inl ⟨v, vm₁, B, X₁.warmed, X', hpost, fun target h => hstep₁ _ fun acts => by rw [doInvoke_state]; exact hsteps.trans h⟩
  · exact Or.inr ⟨q, vm₁, B, X₁.warmed, X', hpost, hstep₁ _ fun acts => by rw [doInvoke_state]; exact hsteps⟩
theorem vx_callVW (X : Stand p l e R s m args below meth c T locs cells slots) (hexec : p.tables.exec = Jvm.exec) {own C : String} {index : Nat} {y : MethodName} {bytes : ByteArray} {maxL : Nat} {ret : Option FieldType} {hh : List (Nat × Nat × Nat × Nat)}
    (hown : s.vm.findClass own = some m.cls) (hlink : (Cond.methodLink own index y).before args s = true) (hinst : (Cond.instanceMethod y).before args s = true) (hsel : (Cond.selects C y y).before args s = true)
    (hcode : (Cond.codeWith y bytes maxL ret hh).before args s = true) (hy : y.cls ≠ "java/lang/invoke/MethodHandle" ∧ y.cls ≠ "java/lang/invoke/VarHandle")
    {W9 : Nat} {Pre : Pt → Array Value → Prop} {Post : Pt → Array Value → Option Value → Pt → Prop} (hK : Back l R p e below s args y 3 W9 Pre Post)
    {b : Addr} {cellB : Cell} (hcell : T.heap[b]? = some cellB) (hobj : cellB.vm.isStatics = false) (hcls : s.vm.findClass C = some cellB.cls)
    {g : JFrame} (hg : g.method = m) (hsize : g.locals.size = c.maxLocals) {argsL rest : List Value} (hlen : ∀ sig, parseMethodDescriptor y.desc = some sig → argsL.length = sig.parameters.length)
    (hstack : g.stack = argsL.reverse ++ .ref b :: rest) (hW : 2 * g.monitorRoom + (rest.map fun v => v.category).sum ≤ W9) (hdg : decode c.code g.pc = .ok (.invokevirtual index, 3))
    (hpre : ∀ vm₁, s.WarmedH vm₁ → Pre ⟨T.setVm vm₁, locs, cells, slots⟩ (Value.ref b :: argsL).toArray) :
    ∃ (v : Option Value) (vm₁ : Vm) (B : Pt), s.WarmedH vm₁ ∧ Stand p l e R s m args below meth c B.U B.locs B.cells B.slots ∧ Post ⟨T.setVm vm₁, locs, cells, slots⟩ (Value.ref b :: argsL).toArray v B ∧
      ∀ target, Steps p.tables e below (B.U.setTop { g with pc := g.pc + 3, stack := v.toList ++ rest }) target → Steps p.tables e below (T.setTop g) target := by
  obtain ⟨mk, methM, hnamed, hmethM, hstM, habM⟩ := Cond.instanceMethod_spec hinst
  obtain ⟨m8, methM', cM, hn8, hmethM', -, -, -, -, -, -, hsigM⟩ := Cond.codeWith_spec hcode
  cases Option.some.inj (hn8.symm.trans hnamed)
  cases hmethM.symm.trans hmethM'
  obtain ⟨c2, r2, m2, q1, q2, q3, q4, kP, hkP, hkPi⟩ := Cond.selects_spec hsel
  cases hcls.symm.trans q1
  cases (State.methodFound?_of_named hnamed hy).symm.trans q2
  cases hnamed.symm.trans q3
  have hselP : selectMethod e.platform s.vm cellB.cls mk = .method mk := by rw [Launch.admits_selectMethod X.admits]; exact q4
  obtain ⟨vm₁, X₁, hstep₁⟩ := X.invokevirtual hexec hown hlink hnamed hmethM hstM hkP hkPi hy (a := b) (cell := cellB) hcell
    (fun z h => by rw [h] at hobj; cases hobj) hselP hmethM habM hkP hkPi (g := g) hg (argsL := argsL) (rest := rest) (hlen _ hsigM) hstack hdg
  obtain ⟨v, B, X', hpost, hsteps⟩ := hK m meth c ⟨T.setVm vm₁, locs, cells, slots⟩ { g with stack := rest } (.invokevirtual index) mk (Value.ref b :: argsL).toArray X₁ hg hsize hdg hW (X₁.named hnamed) (hpre vm₁ X₁.warmed)
  exact ⟨v, vm₁, B, X₁.warmed, X', hpost, fun target h => hstep₁ _ fun acts => by rw [doInvoke_state]; exact hsteps.trans h⟩
abbrev vx_CVW (R : Room) (s : State) (args : Array Value) (own C : String) (index : Nat) (y : MethodName) (bytes : ByteArray) (maxL : Nat) (ret : Option FieldType) (hh : List (Nat × Nat × Nat × Nat)) (ws : List Cond) (rm : Room) (mc ms n : Nat) : Prop :=
  (rm.cells = mc ∧ rm.slots = ms ∧ rm.frames + 1 ≤ R.frames ∧ 8 + (maxL + 11) + rm.locals ≤ R.locals ∧ (∀ w ∈ ws, ∀ (a' : Array Value) (U : State), s.WarmedH U.vm → w.before a' U = true) ∧ Cond.codeWith y bytes maxL ret hh ∈ ws) ∧
  (Cond.codeWith y bytes maxL ret hh).before args s = true ∧ (Cond.initialized y.cls).before args s = true ∧ (y.cls ≠ "java/lang/invoke/MethodHandle" ∧ y.cls ≠ "java/lang/invoke/VarHandle") ∧
  (∀ sig, parseMethodDescriptor y.desc = some sig → n = sig.parameters.length) ∧ (Cond.methodLink own index y).before args s = true ∧ (Cond.instanceMethod y).before args s = true ∧ (Cond.selects C y y).before args s = true
theorem vx_cwVW {own C : String} {index maxL mc ms : Nat} {y : MethodName} {bytes : ByteArray} {ret : Option FieldType} {hh : List (Nat × Nat × Nat × Nat)} {Ts ws ws' : List Cond} {rm : Room} (n : Nat) (ht : ∀ w ∈ Ts, w.before args s = true) (hT : GoodIn Ts (wsV own index C y ws)) (hw : ws = Cond.codeWith y bytes maxL ret hh :: ws') (hrc : rm.cells = mc) (hrs : rm.slots = ms)
    (hd : y.cls = C ∧ y.cls ≠ "java/lang/invoke/MethodHandle" ∧ y.cls ≠ "java/lang/invoke/VarHandle" ∧ (parseMethodDescriptor y.desc).map (fun d => d.parameters.length) = some n) (hR : rm.frames + 1 ≤ R.frames ∧ 8 + (maxL + 11) + rm.locals ≤ R.locals) :
    vx_CVW R s args own C index y bytes maxL ret hh ws rm mc ms n := by
  obtain ⟨hC, hd⟩ := hd
  subst hC
  have ok : ∀ w ∈ wsV own index y.cls y ws, w.before args s = true := fun w h => ht w (hT w h).1
  have hG : GoodIn Ts ws := fun w h => hT w (by unfold wsV; exact List.mem_append_right _ h)
  have hc : Cond.codeWith y bytes maxL ret hh ∈ ws := by rw [hw]; exact List.mem_cons_self
  refine ⟨⟨hrc, hrs, hR.1, hR.2, pay_in ht hG, hc⟩, ht _ (hG _ hc).1, ok _ (by simp [wsV]), ⟨hd.1, hd.2.1⟩, fun sig h => ?_, ok _ (by simp [wsV]), ok _ (by simp [wsV]), ok _ (by simp [wsV])⟩
  have h2 := hd.2.2
  rw [h] at h2
  exact (Option.some.inj h2).symm
theorem vx_runVW {y : MethodName} {bytes cc : ByteArray} {maxL nL mc ms n index : Nat} {ret : Option FieldType} {hh : List (Nat × Nat × Nat × Nat)} {ws : List Cond} {rm : Room} {Pc : Array Value → State → Prop} {Qc : Array Value → State → Outcome → State → Prop} {free : Addr → Prop} {Ts : List Cond} {own C : String} {b : Addr} {As rest : List Value} {g : JFrame}
    (S : CallFix p m c cc nL s args Ts own) (hM : Met l y ws rm Pc Qc mc ms free) (cw : vx_CVW R s args own C index y bytes maxL ret hh ws rm mc ms n) (hp : PreV s H C b Pc As)
    (hg : g.method = m) (hn : As.length = n) (hsize : g.locals.size = nL) (hstack : g.stack = As.reverse ++ .ref b :: rest) (hW : 2 * g.monitorRoom + (rest.map fun v => v.category).sum ≤ 8) (hdg : decode cc g.pc = .ok (.invokevirtual index, 3)) (hf : cells + mc ≤ R.cells ∧ slots + ms ≤ R.slots) :
    va_Run p l e R s m args below meth c H locs cells slots mc ms g rest (Qc (Value.ref b :: As).toArray) free := by
  obtain ⟨⟨hrc, hrs, hfr, hlo, hws, hcw⟩, hcode, hini, hy, hlen, hl, hin, hse⟩ := cw
  have hK : Back l R p e below s args y 3 8 (PreOf R mc ms Pc) (PostOf Qc mc ms free) := va_backW (hh := hh) (bytes := bytes) (maxL := maxL) (ret := ret) hM hp.1 hrc hrs hfr hlo hws hcw (fun a' U hW => word_at hW (Or.inl (by first | rfl | simp [Cond.onTables, Cond.keeps, Cond.steady])) hini)
  obtain ⟨hx, hb, hml, ho, -⟩ := S
  obtain ⟨-, ⟨cellB, hcB, hoB, hclB⟩, hPc⟩ := hp
  intro T hT X
  obtain ⟨v, vm₁, ⟨U', l2, c2, s2⟩, hW₁, X', ⟨g', mk, t, L, e1, e2, hq, h1, hL, h2, h3⟩, st⟩ := vx_callVW X hx (C := C) (hh := hh) (bytes := bytes) (maxL := maxL) (ret := ret) ho hl hin hse hcode hy hK (by rw [hT]; exact hcB) hoB hclB hg (hsize.trans hml.symm) (argsL := As) (rest := rest) (fun sig h => hn.trans (hlen sig h)) hstack hW (by rw [hb]; exact hdg)
    (fun vm₁ hW₁ => ⟨hf.1, hf.2, hPc (T.setVm vm₁) hT hW₁⟩)
  dsimp only [Pt.U, Pt.locs, Pt.cells, Pt.slots] at X' e1 e2 h1 h2 h3 st
  subst h1; subst h2; subst h3
  exact ⟨v, (T.setVm vm₁).calling g' mk (Value.ref b :: As).toArray, t, U', L, hT, X', hL, e1, e2, hq, st⟩
section
variable {y : MethodName} {bytes cc : ByteArray} {maxL nL mc ms n index : Nat} {ret : Option FieldType} {ws : List Cond} {rm : Room} {Pc : Array Value → State → Prop} {Qc : Array Value → State → Outcome → State → Prop} {XC : String → State → State → Prop} {free : Addr → Prop} {Ts : List Cond} {own C : String} {b : Addr} {As rest : List Value} {g : JFrame}
theorem vx_runVX {hh : List (Nat × Nat × Nat × Nat)} (S : CallFix p m c cc nL s args Ts own) (hM : vx_Met l y ws rm Pc Qc XC mc ms free) (cw : vx_CVW R s args own C index y bytes maxL ret hh ws rm mc ms n) (hp : PreV s H C b Pc As)
    (hg : g.method = m) (hn : As.length = n) (hsize : g.locals.size = nL) (hstack : g.stack = As.reverse ++ .ref b :: rest) (hW : 2 * g.monitorRoom + (rest.map fun v => v.category).sum ≤ 8) (hdg : decode cc g.pc = .ok (.invokevirtual index, 3)) (hf : cells + mc ≤ R.cells ∧ slots + ms ≤ R.slots) :
    vx_Run p l e R s m args below meth c H locs cells slots mc ms g rest (Qc (Value.ref b :: As).toArray) XC free := by
  obtain ⟨⟨hrc, hrs, hfr, hlo, hws, hcw⟩, hcode, hini, hy, hlen, hl, hin, hse⟩ := cw
  have hK : vx_Back l R p e below s args y 3 8 (PreOf R mc ms Pc) (PostOf Qc mc ms free) (vx_Post XC mc ms free) := vx_backW (hh := hh) (bytes := bytes) (maxL := maxL) (ret := ret) hM hp.1 hrc hrs hfr hlo hws hcw (fun a' U hW => word_at hW (Or.inl (by first | rfl | simp [Cond.onTables, Cond.keeps, Cond.steady])) hini)
  obtain ⟨hx, hb, hml, ho, -⟩ := S
  obtain ⟨-, ⟨cellB, hcB, hoB, hclB⟩, hPc⟩ := hp
  intro T hT X
  rcases vx_callVX X hx (C := C) (hh := hh) (bytes := bytes) (maxL := maxL) (ret := ret) ho hl hin hse hcode hy hK (by rw [hT]; exact hcB) hoB hclB hg (hsize.trans hml.symm) (argsL := As) (rest := rest) (fun sig h => hn.trans (hlen sig h)) hstack hW (by rw [hb]; exact hdg)
    (fun vm₁ hW₁ => ⟨hf.1, hf.2, hPc (T.setVm vm₁) hT hW₁⟩) with ⟨v, vm₁, ⟨U', l2, c2, s2⟩, hW₁, X', ⟨g', mk, t, L, e1, e2, hq, h1, hL, h2, h3⟩, st⟩ | ⟨q, vm₁, ⟨U', l2, c2, s2⟩, hW₁, X', ⟨g', mk, t, L, E, ce, e1, e2, hq, hce, hcv, hcl, h1, hL, h2, h3⟩, st⟩
  · dsimp only [Pt.U, Pt.locs, Pt.cells, Pt.slots] at X' e1 e2 h1 h2 h3 st
    subst h1; subst h2; subst h3
    exact Or.inl ⟨v, (T.setVm vm₁).calling g' mk (Value.ref b :: As).toArray, t, U', L, hT, X', hL, e1, e2, hq, st⟩
  · dsimp only [Pt.U, Pt.locs, Pt.cells, Pt.slots] at X' e1 e2 h1 h2 h3 st hcl
    subst h1; subst h2; subst h3
    exact Or.inr ⟨q, (T.setVm vm₁).calling g' mk (Value.ref b :: As).toArray, t, U', L, E, ce, hT, X', hL, e1, e2, hq, hce, hcv, vx_cls hW₁ hcl, st⟩
theorem vx_runSX {hh : List (Nat × Nat × Nat × Nat)} (S : CallFix p m c cc nL s args Ts own) (hM : vx_Met l y ws rm Pc Qc XC mc ms free) (cw : vx_CSW R s args own index y bytes maxL ret hh ws rm mc ms n) (hp : PreS s H Pc As)
    (hg : g.method = m) (hn : As.length = n) (hsize : g.locals.size = nL) (hstack : g.stack = As.reverse ++ rest) (hW : 2 * g.monitorRoom + (rest.map fun v => v.category).sum ≤ 8) (hdg : decode cc g.pc = .ok (.invokestatic index, 3)) (hf : cells + mc ≤ R.cells ∧ slots + ms ≤ R.slots) :
    vx_Run p l e R s m args below meth c H locs cells slots mc ms g rest (Qc As.toArray) XC free := by
  obtain ⟨⟨hrc, hrs, hfr, hlo, hws, hcw⟩, hcode, hini, hy, hlen, hl, hstt⟩ := cw
  have hK : vx_Back l R p e below s args y 3 8 (PreOf R mc ms Pc) (PostOf Qc mc ms free) (vx_Post XC mc ms free) := vx_backW (hh := hh) (bytes := bytes) (maxL := maxL) (ret := ret) hM hp.1 hrc hrs hfr hlo hws hcw (fun a' U hW => word_at hW (Or.inl (by first | rfl | simp [Cond.onTables, Cond.keeps, Cond.steady])) hini)
  obtain ⟨hx, hb, hml, ho, -⟩ := S
  intro T hT X
  rcases vx_callSX X hx (hh := hh) (bytes := bytes) (maxL := maxL) (ret := ret) ho hl hstt hini hcode hy hK hg (hsize.trans hml.symm) (argsL := As) (rest := rest) (fun sig h => hn.trans (hlen sig h)) hstack hW (by rw [hb]; exact hdg)
    (fun vm₁ hW₁ => ⟨hf.1, hf.2, hp.2 (T.setVm vm₁) hT hW₁⟩) with ⟨v, vm₁, ⟨U', l2, c2, s2⟩, hW₁, X', ⟨g', mk, t, L, e1, e2, hq, h1, hL, h2, h3⟩, st⟩ | ⟨q, vm₁, ⟨U', l2, c2, s2⟩, hW₁, X', ⟨g', mk, t, L, E, ce, e1, e2, hq, hce, hcv, hcl, h1, hL, h2, h3⟩, st⟩
  · dsimp only [Pt.U, Pt.locs, Pt.cells, Pt.slots] at X' e1 e2 h1 h2 h3 st
    subst h1; subst h2; subst h3
    exact Or.inl ⟨v, (T.setVm vm₁).calling g' mk As.toArray, t, U', L, hT, X', hL, e1, e2, hq, st⟩
  · dsimp only [Pt.U, Pt.locs, Pt.cells, Pt.slots] at X' e1 e2 h1 h2 h3 st hcl
    subst h1; subst h2; subst h3
    exact Or.inr ⟨q, (T.setVm vm₁).calling g' mk As.toArray, t, U', L, E, ce, hT, X', hL, e1, e2, hq, hce, hcv, vx_cls hW₁ hcl, st⟩
end
end VXH
theorem vx_ofWH {l : Launch} {y : MethodName} {ws ws' : List Cond} {rm : Room} {Pc : Array Value → State → Prop} {Qc : Array Value → State → Outcome → State → Prop} {XC : String → State → State → Prop} {mc ms : Nat} {free : Addr → Prop} {cc : ByteArray} {maxL : Nat} {ret : Option FieldType} {hh : List (Nat × Nat × Nat × Nat)}
    (hy : plainName y.cls = true) (hw : ws = Cond.codeWith y cc maxL ret hh :: ws')
    (body : ∀ p e s m args below meth c s₁, BodyLoose p l y (headSpec ws rm) cc maxL ret e s m args below meth c s₁ → c.maxLocals = maxL → Pc args s →
      W p l e (headSpec ws rm).room s m args below meth c s.heap [] 0 0 (vx_MQ below Qc XC args s mc ms free) (entryFrame m args maxL)) : vx_Met l y ws rm Pc Qc XC mc ms free := by
  refine MetFree.of_bodyS (code := cc) (maxLocals := maxL) (ret := ret) hy ?_ ?_
  · intro args s m h hn
    obtain ⟨m9, meth, c, hn9, h1, h2, h3, h4, -, h5, h6, -⟩ := Cond.codeWith_spec (atoms_spec (ws := ws) h _ (by rw [hw]; exact List.mem_cons_self))
    cases hn.symm.trans hn9
    exact ⟨meth, c, h1, h2, h3, h4, h5, h6⟩
  · intro p e s m args below meth c s₁ B hml hP _
    have hh0 : s₁.heap = s.heap := by rw [B.state]; rfl
    obtain ⟨t, a1, o, b1, b2, b3⟩ := body p e s m args below meth c s₁ B hml hP s₁ hh0 (Stand.of_body B)
    exact ⟨t, o, a1, b1, b2, b3⟩
/-! ===== END ===== -/

/-! ===== BEGIN what the machine throws by itself, no traces kept ===== -/
section VXM
set_option maxHeartbeats 1000000 in
/-- the machine throws cls with the message text, no traces kept: from its note over the frame g to 'throwing' over the same frame (follows the proofs of Stand.vmThrowsMessage, Shelf/KitTracedVmS.lean, and Stand.throwsMessageColdBareV, StandMessageColdV.lean, without the step out of the frame) -/
theorem vx_vmAt {p : Program} {l : Launch} {e : Env} {R : Room} {s : State} {m₀ : MethodId} {args : Array Value} {below : List Frame} {meth : Method} {c : Code} {W : State} {locs : List Loc} {cells slots : Nat}
    (X : Stand p l e R s m₀ args below meth c W locs cells slots) (hexec : p.tables.exec = Jvm.exec) (htr : e.platform.stackTraces = false) {cls : String} {names : List String} {text : String}
    (hcls : Bundle.fit cls = true) (hnames : ∀ n ∈ names, Bundle.fit n = true) (hsoe : (cls == "java/lang/StackOverflowError") = false) (hoom : (cls == "java/lang/OutOfMemoryError") = false)
    (h : ∀ a ∈ Bundle.messageArmAtoms cls names, a.before args s = true)
    (hlocs : ∀ x ∈ locs, ∀ cell, s.heap[x.base]? = some cell → cell.vm.isStatics = false)
    (htext : (text == notModelled) = false) (hlimit : ¬ (stringBytes (stringToUtf16 text)).size > e.platform.arrayLengthLimit) (hheap : ¬ (stringBytes (stringToUtf16 text)).size * componentBytes .byte > e.platform.maxHeapBytes)
    {g : JFrame} (hg : g.method = m₀) (hsize : g.locals.size = c.maxLocals)
    (hRframes : names.length + 4 < R.frames) (hRlocals : 2 * g.monitorRoom + (g.stack.map fun v => v.category).sum + 10240 ≤ R.locals) (hshort : 13 * names.length + 55 ≤ 10240)
    (hRcells : cells + 3 ≤ R.cells) (hRslots : slots + ((stringBytes (stringToUtf16 text)).size + 4 + 6) ≤ R.slots) (hlocks : meth.locks = false) :
    ∃ (S : State) (q : Addr) (ce : Cell), (∀ target, Steps p.tables e below ((S.setTop g).pushFrame (.throwing q)) target → Steps p.tables e below ((W.setTop g).pushFrame (.throwNew cls (some text) none)) target) ∧
      Stand p l e R s m₀ args below meth c S locs (cells + 3) (slots + ((stringBytes (stringToUtf16 text)).size + 4 + 6)) ∧ S.heap[q]? = some ce ∧ s.vm.findClass cls = some ce.cls ∧ ce.vm = .none := by
  have howns : e.platform.frameOwnsMonitors = true := by rw [X.admits.platform]
  have hfin : e.platform.finalization = false := by rw [X.admits.platform]
  have hpl : e.platform.magicAccessors = ({} : Platform).magicAccessors := by rw [X.admits.platform]
  have a : ∀ x, x ∈ Bundle.messageArmAtoms cls names → x.holds args s none s [] = true := fun x hx => h x hx
  obtain ⟨T, Z0, L, -, Y⟩ := ThrowableC.of_atoms (args := args) howns hfin hpl (fun x hx => h x (by simp [Bundle.messageArmAtoms, hx]))
  obtain ⟨Z, M, LZ, LM, hnZ⟩ := Init0T.ofS_atoms (args := args) hpl L Y (fun x hx => h x (by simp [Bundle.messageArmAtoms, hx]))
  obtain ⟨P1, Ps, hlen, L1, hL, hP1m, hlink1, hlink⟩ := Bundle.chainS (args := args) hpl hnZ names cls hcls hnames (fun x hx => h x (by simp [Bundle.messageArmAtoms, hx]))
  obtain ⟨Zs, LZs, hn4, hfitv, hfitc⟩ := StringT.of_atoms (args := args) (fun x hx => h x (by simp [Bundle.messageArmAtoms, hx]))
  have hfound : s.vm.findClass cls = some P1.m.cls := findClass_of_methodNamed hP1m
  obtain ⟨c1, kX, hc1, hk, hord, -, -, hn6⟩ := Cond.instantiable_spec (a (.instantiable cls 6) (by simp [Bundle.messageArmAtoms]))
  cases Option.some.inj (hc1.symm.trans hfound)
  have hinit := Cond.initialized_spec hfound hk (a (.initialized cls) (by simp [Bundle.messageArmAtoms]))
  have hctor : kX.findMethod "<init>" "(Ljava/lang/String;)V" = some P1.m.idx := findMethod_of_methodNamed hP1m hk
  have hsel0 : selectMethod e.platform s.vm P1.m.cls T.fill0 = .method T.fill0 := by
    obtain ⟨c2, r2, m2, q1, q2, q3, q4, -⟩ := Cond.selects_spec (a (.selects cls Bundle.tFill0 Bundle.tFill0) (by simp [Bundle.messageArmAtoms]))
    cases Option.some.inj (q1.symm.trans hfound)
    cases Option.some.inj (q2.symm.trans (State.methodFound?_of_named Y.fill0 (by decide)))
    cases Option.some.inj (q3.symm.trans Y.fill0)
    rw [Launch.admits_selectMethod X.admits]; exact q4
  have hselF : selectMethod e.platform s.vm P1.m.cls T.fill = .method T.fill := by
    obtain ⟨c2, r2, m2, q1, q2, q3, q4, -⟩ := Cond.selects_spec (a (.selects cls Bundle.tFill Bundle.tFill) (by simp [Bundle.messageArmAtoms]))
    cases Option.some.inj (q1.symm.trans hfound)
    cases Option.some.inj (q2.symm.trans (State.methodFound?_of_named Y.fill (by decide)))
    cases Option.some.inj (q3.symm.trans Y.fill)
    rw [Launch.admits_selectMethod X.admits]; exact q4
  obtain ⟨cellS0, hcS0, hiss⟩ := Y.statics
  obtain ⟨u0, hu0⟩ := Cond.staticRefV Y.unassigned L.unassignedStatic L.statics hcS0 hiss (a (.isRef (.static Bundle.tN "UNASSIGNED_STACK" Bundle.steD)) (by simp [Bundle.messageArmAtoms]))
  obtain ⟨sen, hsen⟩ := Cond.staticRefV Y.sentinel L.sentinelStatic L.statics hcS0 hiss (a (.isRef (.static Bundle.tN "SUPPRESSED_SENTINEL" Bundle.listD)) (by simp [Bundle.messageArmAtoms]))
  obtain ⟨ci198, i198, fB, hk198, hg198, ha198, hsB, -, hnB, htB, hffB⟩ := Cond.ownField (t := .object "java/lang/Object") Y.found L.cls (by decide +kernel) (a (.fieldLink Bundle.tN 198 Bundle.tN "backtrace" "Ljava/lang/Object;") (by simp [Bundle.messageArmAtoms])) (a (.lays Bundle.tN Bundle.tN "backtrace" "Ljava/lang/Object;") (by simp [Bundle.messageArmAtoms])) e.platform hpl
  obtain ⟨cellS, hcS', heS, -, hkeep⟩ := X.same.2.2.2.2.2 T.aS cellS0 hcS0
  have hcellS : W.heap[T.aS]? = some cellS := hcS'
  have hout' : ∀ i, (⟨T.aS, i⟩ : Loc) ∉ locs := fun i hmem => by
    have := hlocs _ hmem cellS0 hcS0
    rw [hiss] at this; cases this
  have hknownS : cellS.vm ≠ .unknown := by
    rw [heS]; intro hu
    rw [show cellS0.vm = .unknown from hu] at hiss
    cases hiss
  have hvU : cellS.slots[T.fUnassigned.slot]? = some u0.v := by rw [hkeep _ (hout' _)]; exact hu0
  have hvSen : cellS.slots[T.fSentinel.slot]? = some sen.v := by rw [hkeep _ (hout' _)]; exact hsen
  obtain ⟨iM, hffM⟩ := Y.msg
  obtain ⟨tyC, dC, hdC, hdnC⟩ := Cond.laysAt hfound hk Y.cause (a (.lays cls Bundle.tN "cause" "Ljava/lang/Throwable;") (by simp [Bundle.messageArmAtoms]))
  obtain ⟨tyS, dS, hdS, hdnS⟩ := Cond.laysAt hfound hk Y.stack (a (.lays cls Bundle.tN "stackTrace" Bundle.steD) (by simp [Bundle.messageArmAtoms]))
  obtain ⟨tyP, dP, hdP, hdnP⟩ := Cond.laysAt hfound hk Y.supp (a (.lays cls Bundle.tN "suppressedExceptions" Bundle.listD) (by simp [Bundle.messageArmAtoms]))
  obtain ⟨tyM, dM, hdM, hdnM⟩ := Cond.laysAt hfound hk hffM (a (.lays cls Bundle.tN "detailMessage" "Ljava/lang/String;") (by simp [Bundle.messageArmAtoms]))
  obtain ⟨tyB, dB, hdB, hdnB⟩ := Cond.laysAt hfound hk hffB (a (.lays cls Bundle.tN "backtrace" "Ljava/lang/Object;") (by simp [Bundle.messageArmAtoms]))
  have bC := Cond.laysApart hdB hdC hdnB hdnC (by rw [hnB, Y.causeName]; decide)
  have bS := Cond.laysApart hdB hdS hdnB hdnS (by rw [hnB, Y.stackName]; decide)
  have bP := Cond.laysApart hdB hdP hdnB hdnP (by rw [hnB, Y.suppName]; decide)
  have hbk : ((preparedCellV T.toThrowableT (freshCell P1.m.cls kX) (W.heap.size + 2) u0 sen).withEntry W.cur).slots[fB.slot]? = some .null := by
    have := fresh_default (c := P1.m.cls) tyB
    rw [htB] at this
    simpa [preparedCellV, Cell.setSlot, Cell.withEntry, Array.getElem?_setIfInBounds, bC, bS, bP, bC.symm, bS.symm, bP.symm, defaultValue] using this
  have tkC := Takes.of_laid (v := .ref (W.heap.size + 2)) hk hord tyC (by rw [Y.causeType]; rfl)
  have tkS := Takes.of_laid (v := u0.v) hk hord tyS (by rw [Y.stackType]; exact fits_refV_array _ u0)
  have tkP := Takes.of_laid (v := sen.v) hk hord tyP (by rw [Y.suppType]; exact fits_refV_object _ sen)
  have tkM := Takes.of_laid (v := .ref (W.heap.size + 1)) hk hord tyM (by rw [Y.msgType]; rfl)
  have hskip : SkipFacts T e.platform s (fun u => u) u0 ((preparedCellV T.toThrowableT (freshCell P1.m.cls kX) (W.heap.size + 2) u0 sen).withEntry W.cur) := ⟨{ ci198 := ci198, i198 := i198, fBack := fB }, ⟨hk198, hg198, ha198, hsB⟩, hbk, fun _ _ => rfl⟩
  have h0 : At W g.method c below := by rw [hg]; exact X.here
  obtain ⟨hbeyond, hfreeW⟩ := X.vmMayThrow hsize (.throwNew cls (some text) none) (fun f hf => by cases hf) rfl hRlocals
  have hfr' : W.frames.length + Ps.length + 4 < (e.platform.stackLimits W.me).1 := by have := X.framesAbove hRframes; omega
  have hwd' : (stackUse (.java g :: W.frames.tail)).2 + 13 * Ps.length + 55 ≤ (e.platform.stackLimits W.me).2 := by have := X.stackAbove hsize (K := 13 * Ps.length + 55) (by omega); omega
  have hslots : W.slotsUsed + (stringBytes (stringToUtf16 text)).size + Zs.kS.instanceTypes.size + kX.instanceTypes.size ≤ e.platform.maxSlots := by
    have := X.slotsAbove hRslots
    rw [hn4, hn6]
    omega
  obtain ⟨vm', hW', st⟩ := Steps.vmThrowsMessageColdByV p (s₀ := s) (S := W) (g := g) h0 hexec T L Z LZ M LM X.warmed (t := W.cur) rfl Zs LZs P1 L1 Ps hL hlink1 hlink hsoe hoom hfound hk hinit hord hctor
    (Launch.admits_hotImplicitExceptions X.admits) hbeyond hfreeW htext hlimit hheap (X.cellsAbove hRcells) hslots (hfitv _) (hfitc _)
    (Nn := fun u => u) heapOnly_id (fun _ _ => rfl) (fun _ => rfl) (fun u x y => setCell_twice _ _ _ _) (fun _ => Nat.le_refl _) (cN := ((preparedCellV T.toThrowableT (freshCell P1.m.cls kX) (W.heap.size + 2) u0 sen).withEntry W.cur))
    hsel0 hcellS hknownS hvU tkS (fun _ hu => hu) (fun _ hu => hu) rfl rfl rfl (by simp [preparedCellV, Cell.setSlot, Cell.withEntry]) hskip (fun _ _ hA hW _ hroom _ hrest => L.nativeOff p htr hA hW hroom hrest) hselF hvSen tkC tkP tkM Y.objLocals rfl hfr' hwd'
  rw [plainBareV_eq T.toThrowableT (W.heap.size + 2) u0 sen (.ref (W.heap.size + 1)) W.cur rfl rfl] at st
  obtain ⟨-, -, w3, w4, -, -, -⟩ := withThrown_facts e.platform W Zs text P1.m.cls kX
  have X3 := ((X.pushed (bytesOf Zs.cB (stringToUtf16 text))).pushed (stringAt Zs.cS Zs.kS Zs.fv Zs.fc (stringToUtf16 text) W.heap.size)).pushed (freshCell P1.m.cls kX)
  rw [← withString_eq] at X3
  have X4 := X3.noted hW'
  have ha : (W.heap.size + 2) < ((withThrown W Zs text P1.m.cls kX).setVm vm').heap.size := by show _ < (withThrown W Zs text P1.m.cls kX).heap.size; rw [w3]; omega
  have hcell : ((withThrown W Zs text P1.m.cls kX).setVm vm').heap[(W.heap.size + 2)]? = some (freshCell P1.m.cls kX) := w4
  have X5 := ((((X4.stored hcell T.fCause.slot (.ref (W.heap.size + 2))).storedAgain ha T.fStack.slot u0.v).storedAgain ha T.fSupp.slot sen.v).storedAgain ha T.fStack.slot u0.v).storedAgain ha T.fMsg.slot (.ref (W.heap.size + 1))
  obtain ⟨g₁, hfrM⟩ := X5.frames_eq
  have hU : ((((withThrown W Zs text P1.m.cls kX).setVm vm').setCell (W.heap.size + 2) (plainBareV T.toThrowableT (freshCell P1.m.cls kX) (W.heap.size + 2) u0 sen (.ref (W.heap.size + 1)))).setTop g).pushFrame (.throwing (W.heap.size + 2)) = (((withThrown W Zs text P1.m.cls kX).setVm vm').setCell (W.heap.size + 2) (plainBareV T.toThrowableT (freshCell P1.m.cls kX) (W.heap.size + 2) u0 sen (.ref (W.heap.size + 1)))).setFrames (.throwing (W.heap.size + 2) :: .java g :: below) := by
    rw [State.pushFrame, State.frames_setTop _ hfrM, State.setTop_of_frames _ hfrM, State.setFrames_setFrames]
  have b1 : (bytesOf Zs.cB (stringToUtf16 text)).slots.size = (stringBytes (stringToUtf16 text)).size := by
    rw [(Cell.writeAll_facts _ _).2.2]; simp [bytes0]
  have b2 : (stringAt Zs.cS Zs.kS Zs.fv Zs.fc (stringToUtf16 text) W.heap.size).slots.size = 4 := by simp [string0, Cell.setSlot, hn4]
  have b3 : (freshCell P1.m.cls kX).slots.size = 6 := by simp [hn6]
  rw [b1, b2, b3] at X5
  have e9 : slots + (stringBytes (stringToUtf16 text)).size + 4 + 6 = slots + ((stringBytes (stringToUtf16 text)).size + 4 + 6) := by omega
  rw [e9] at X5
  simp only [List.append_assoc, List.cons_append, List.nil_append] at X5
  refine ⟨((withThrown W Zs text P1.m.cls kX).setVm vm').setCell (W.heap.size + 2) (plainBareV T.toThrowableT (freshCell P1.m.cls kX) (W.heap.size + 2) u0 sen (.ref (W.heap.size + 1))), W.heap.size + 2, _, fun target ht => st _ (by rw [X.tail, ← hU]; exact ht),
    X5.forget (fun y hy => ?_), heapAt_setCell_self _ ha, hfound, rfl⟩
  simp only [List.mem_cons, List.not_mem_nil, or_false] at hy
  have hge : s.heap.size ≤ W.heap.size := X.same.2.1
  rcases hy with rfl | rfl | rfl | rfl | rfl <;> exact Nat.le_trans hge (Nat.le_add_right _ 2)
set_option maxHeartbeats 1000000 in
/-- the machine throws NullPointerException, no traces kept: from its note over the frame g to 'throwing' over the same frame (follows the proof of Stand.vmThrowsNpe, Shelf42/KT2.lean; throwsNpeColdBareVAt, Shelf42/NT91.lean, called) -/
theorem vx_npeAt {p : Program} {l : Launch} {e : Env} {R : Room} {s : State} {m₀ : MethodId} {args : Array Value} {below : List Frame} {meth : Method} {c : Code} {W : State} {locs : List Loc} {cells slots : Nat}
    (X : Stand p l e R s m₀ args below meth c W locs cells slots) (hexec : p.tables.exec = Jvm.exec) (htr : e.platform.stackTraces = false) {n : Nat}
    (h : ∀ a ∈ Bundle.npeArmAtoms n, a.before args s = true)
    (hlocs : ∀ x ∈ locs, ∀ cell, s.heap[x.base]? = some cell → cell.vm.isStatics = false)
    {g : JFrame} (hg : g.method = m₀) (hsize : g.locals.size = c.maxLocals)
    (hRframes : 7 < R.frames) (hRlocals : 2 * g.monitorRoom + (g.stack.map fun v => v.category).sum + 10240 ≤ R.locals)
    (hRcells : cells + 1 ≤ R.cells) (hRslots : slots + n ≤ R.slots) (hlocks : meth.locks = false) :
    ∃ (S : State) (q : Addr) (ce : Cell), (∀ target, Steps p.tables e below ((S.setTop g).pushFrame (.throwing q)) target → Steps p.tables e below ((W.setTop g).pushFrame (.throwNew "java/lang/NullPointerException" none none)) target) ∧
      Stand p l e R s m₀ args below meth c S locs (cells + 1) (slots + n) ∧ S.heap[q]? = some ce ∧ s.vm.findClass "java/lang/NullPointerException" = some ce.cls ∧ ce.vm = .none := by
  have howns : e.platform.frameOwnsMonitors = true := by rw [X.admits.platform]
  have hfin : e.platform.finalization = false := by rw [X.admits.platform]
  have hpl : e.platform.magicAccessors = ({} : Platform).magicAccessors := by rw [X.admits.platform]
  have hpl2 : e.platform.arrayCloneIsPublic = true := by rw [X.admits.platform]
  have a' : ∀ x, x ∈ Bundle.npeArmAtoms n → x.holds args s none s [] = true := fun x hx => h x hx
  obtain ⟨T, Z, L, LZ, Y⟩ := ThrowableC.of_atoms (args := args) howns hfin hpl (fun x hx => h x (by simp [Bundle.npeArmAtoms, hx]))
  obtain ⟨N, LN, hcN, hnNF, hordN, hffS⟩ := NpeC.of_atoms (args := args) hpl hpl2 L Y (fun x hx => h x (by simp [Bundle.npeArmAtoms, hx]))
  obtain ⟨P1, L1, hP1m, hP1s⟩ := PassC.of_atoms (args := args) (s := s) hpl (X := Bundle.nN) (Y := Bundle.rN) (by decide) (by decide) LibCode.NullPointerException.Init0.at_0 LibCode.NullPointerException.Init0.at_1 LibCode.NullPointerException.Init0.at_4 (fun x hx => h x (by simp [Bundle.npeArmAtoms, hx]))
  obtain ⟨PR, LR, hPRm, hPRs⟩ := PassC.of_atoms (args := args) (s := s) hpl (X := Bundle.rN) (Y := Bundle.eN) (by decide) (by decide) LibCode.RuntimeException.Init0.at_0 LibCode.RuntimeException.Init0.at_1 LibCode.RuntimeException.Init0.at_4 (fun x hx => h x (by simp [Bundle.npeArmAtoms, hx]))
  obtain ⟨PE, LEx, hPEm, hPEs⟩ := PassC.of_atoms (args := args) (s := s) hpl (X := Bundle.eN) (Y := Bundle.tN) (by decide) (by decide) LibCode.Exception.Init0.at_0 LibCode.Exception.Init0.at_1 LibCode.Exception.Init0.at_4 (fun x hx => h x (by simp [Bundle.npeArmAtoms, hx]))
  have hfound : s.vm.findClass Bundle.nN = some P1.m.cls := findClass_of_methodNamed hP1m
  have ecls : N.cN = P1.m.cls := Option.some.inj (hcN.symm.trans hfound)
  have hk : s.vm.classes[P1.m.cls]? = some N.kN := by rw [← ecls]; exact LN.cls
  have hinit := Cond.initialized_spec hfound hk (a' (.initialized Bundle.nN) (by simp [Bundle.npeArmAtoms]))
  have hctor : N.kN.findMethod "<init>" "()V" = some P1.m.idx := findMethod_of_methodNamed hP1m hk
  obtain ⟨c1, k1, hc1, hk1, -, -, -, hn⟩ := Cond.instantiable_spec (a' (.instantiable Bundle.nN n) (by simp [Bundle.npeArmAtoms]))
  cases Option.some.inj (hc1.symm.trans hfound)
  cases Option.some.inj (hk1.symm.trans hk)
  have hfsz : (freshCell P1.m.cls N.kN).slots.size = n := by simp [hn]
  have hlink1 : P1.sup = PR.m := Option.some.inj (hP1s.symm.trans hPRm)
  have hlinkR : PR.sup = PE.m := Option.some.inj (hPRs.symm.trans hPEm)
  have hlinkE : PE.sup = Z.m T.toThrowableT := Option.some.inj (hPEs.symm.trans Y.init0)
  have hLs : ∀ P, P ∈ [PR, PE] → P.Links0 e.platform s := fun P hP => by
    simp only [List.mem_cons, List.not_mem_nil, or_false] at hP
    rcases hP with rfl | rfl
    · exact LR
    · exact LEx
  have hsel0 : selectMethod e.platform s.vm P1.m.cls T.fill0 = .method T.fill0 := by
    obtain ⟨c2, r2, m2, q1, q2, q3, q4, -⟩ := Cond.selects_spec (a' (.selects Bundle.nN Bundle.tFill0 Bundle.tFill0) (by simp [Bundle.npeArmAtoms]))
    cases Option.some.inj (q1.symm.trans hfound)
    cases Option.some.inj (q2.symm.trans (State.methodFound?_of_named Y.fill0 (by decide)))
    cases Option.some.inj (q3.symm.trans Y.fill0)
    rw [Launch.admits_selectMethod X.admits]; exact q4
  have hselF : selectMethod e.platform s.vm P1.m.cls T.fill = .method N.fill := by
    obtain ⟨c2, r2, m2, q1, q2, q3, q4, -⟩ := Cond.selects_spec (a' (.selects Bundle.nN Bundle.tFill Bundle.nFill) (by simp [Bundle.npeArmAtoms]))
    cases Option.some.inj (q1.symm.trans hfound)
    cases Option.some.inj (q2.symm.trans (State.methodFound?_of_named Y.fill (by decide)))
    cases Option.some.inj (q3.symm.trans hnNF)
    rw [Launch.admits_selectMethod X.admits]; exact q4
  obtain ⟨cellS0, hcS0, hiss⟩ := Y.statics
  obtain ⟨u0, hu0⟩ := Cond.staticRefV Y.unassigned L.unassignedStatic L.statics hcS0 hiss (a' (.isRef (.static Bundle.tN "UNASSIGNED_STACK" Bundle.steD)) (by simp [Bundle.npeArmAtoms]))
  obtain ⟨sen, hsen⟩ := Cond.staticRefV Y.sentinel L.sentinelStatic L.statics hcS0 hiss (a' (.isRef (.static Bundle.tN "SUPPRESSED_SENTINEL" Bundle.listD)) (by simp [Bundle.npeArmAtoms]))
  obtain ⟨ci198, i198, fB, hk198, hg198, ha198, hsB, -, hnB, htB, hffB⟩ := Cond.ownField (t := .object "java/lang/Object") Y.found L.cls (by decide +kernel) (a' (.fieldLink Bundle.tN 198 Bundle.tN "backtrace" Bundle.objD) (by simp [Bundle.npeArmAtoms])) (a' (.lays Bundle.tN Bundle.tN "backtrace" Bundle.objD) (by simp [Bundle.npeArmAtoms])) e.platform hpl
  obtain ⟨cellS, hcS', heS, -, hkeep⟩ := X.same.2.2.2.2.2 T.aS cellS0 hcS0
  have hcellS : W.heap[T.aS]? = some cellS := hcS'
  have hout' : ∀ i, (⟨T.aS, i⟩ : Loc) ∉ locs := fun i hmem => by
    have := hlocs _ hmem cellS0 hcS0
    rw [hiss] at this; cases this
  have hknownS : cellS.vm ≠ .unknown := by
    rw [heS]; intro hu
    rw [show cellS0.vm = .unknown from hu] at hiss
    cases hiss
  have hvU : cellS.slots[T.fUnassigned.slot]? = some u0.v := by rw [hkeep _ (hout' _)]; exact hu0
  have hvSen : cellS.slots[T.fSentinel.slot]? = some sen.v := by rw [hkeep _ (hout' _)]; exact hsen
  obtain ⟨tyC, dC, hdC, hdnC⟩ := Cond.laysAt hfound hk Y.cause (a' (.lays Bundle.nN Bundle.tN "cause" "Ljava/lang/Throwable;") (by simp [Bundle.npeArmAtoms]))
  obtain ⟨tyS, dS, hdS, hdnS⟩ := Cond.laysAt hfound hk Y.stack (a' (.lays Bundle.nN Bundle.tN "stackTrace" Bundle.steD) (by simp [Bundle.npeArmAtoms]))
  obtain ⟨tyP, dP, hdP, hdnP⟩ := Cond.laysAt hfound hk Y.supp (a' (.lays Bundle.nN Bundle.tN "suppressedExceptions" Bundle.listD) (by simp [Bundle.npeArmAtoms]))
  obtain ⟨tyX, dX, hdX, hdnX⟩ := Cond.laysAt hfound hk hffS (a' (.lays Bundle.nN Bundle.nN "extendedMessageState" "I") (by simp [Bundle.npeArmAtoms, Bundle.npeAtoms]))
  obtain ⟨hnX, htX⟩ := State.fieldFound?_type hffS (t := .int) (by decide +kernel)
  have xC := Cond.laysApart hdC hdX hdnC hdnX (by rw [hnX, Y.causeName]; decide)
  have xS := Cond.laysApart hdS hdX hdnS hdnX (by rw [hnX, Y.stackName]; decide)
  have xP := Cond.laysApart hdP hdX hdnP hdnX (by rw [hnX, Y.suppName]; decide)
  have hv0 : (freshCell P1.m.cls N.kN).slots[N.fState.slot]? = some (.int 0) := by
    have := fresh_default (c := P1.m.cls) tyX
    rw [htX] at this; exact this
  obtain ⟨tyB, dB, hdB, hdnB⟩ := Cond.laysAt hfound hk hffB (a' (.lays Bundle.nN Bundle.tN "backtrace" Bundle.objD) (by simp [Bundle.npeArmAtoms]))
  have bC := Cond.laysApart hdB hdC hdnB hdnC (by rw [hnB, Y.causeName]; decide)
  have bS := Cond.laysApart hdB hdS hdnB hdnS (by rw [hnB, Y.stackName]; decide)
  have bP := Cond.laysApart hdB hdP hdnB hdnP (by rw [hnB, Y.suppName]; decide)
  have bX := Cond.laysApart hdB hdX hdnB hdnX (by rw [hnB, hnX]; decide)
  have hbk : ((npeCell N.toNpeT (preparedCellV T.toThrowableT (freshCell P1.m.cls N.kN) W.heap.size u0 sen) W.cur).withEntry W.cur).slots[fB.slot]? = some .null := by
    have := fresh_default (c := P1.m.cls) tyB
    rw [htB] at this
    simpa [npeCell, preparedCellV, Cell.setSlot, Cell.withEntry, Array.getElem?_setIfInBounds, bC, bS, bP, bX, bC.symm, bS.symm, bP.symm, bX.symm, defaultValue] using this
  have tkC := Takes.of_laid (v := .ref W.heap.size) hk hordN tyC (by rw [Y.causeType]; rfl)
  have tkS := Takes.of_laid (v := u0.v) hk hordN tyS (by rw [Y.stackType]; exact fits_refV_array _ u0)
  have tkP := Takes.of_laid (v := sen.v) hk hordN tyP (by rw [Y.suppType]; exact fits_refV_object _ sen)
  have tkX := Takes.of_laid (v := .int 1) hk hordN tyX (by rw [htX]; rfl)
  have hskip : SkipFacts T e.platform s (fun u => u) u0 ((npeCell N.toNpeT (preparedCellV T.toThrowableT (freshCell P1.m.cls N.kN) W.heap.size u0 sen) W.cur).withEntry W.cur) := ⟨{ ci198 := ci198, i198 := i198, fBack := fB }, ⟨hk198, hg198, ha198, hsB⟩, hbk, fun _ _ => rfl⟩
  obtain ⟨vm', X3, st, -⟩ := X.throwsNpeColdBareVAt hexec hg hsize T L Z LZ N LN P1 L1 [PR, PE] hLs hlink1 ⟨hlinkR, hlinkE, trivial⟩ hfound hk hinit hordN hctor hsel0 hselF hcellS hknownS hvU hvSen
    hv0 xC xS xP tkC tkS tkP tkX Y.objLocals hskip (fun _ _ hA hW _ hroom _ hrest => L.nativeOff p htr hA hW hroom hrest) (by simpa using hRframes) hRlocals (by simp) hRcells (by rw [hn]; exact hRslots)
  have hlt : W.heap.size < ((W.pushCell (freshCell P1.m.cls N.kN)).setVm vm').heap.size := by
    show W.heap.size < (W.pushCell (freshCell P1.m.cls N.kN)).heap.size
    rw [State.heap_size_pushCell]; omega
  rw [hfsz] at X3
  obtain ⟨g₁, hfrM⟩ := X3.frames_eq
  have hU : ((((W.pushCell (freshCell P1.m.cls N.kN)).setVm vm').setCell W.heap.size (npeBareV T.toThrowableT N.toNpeT (freshCell P1.m.cls N.kN) W.heap.size u0 sen)).setTop g).pushFrame (.throwing W.heap.size) = (((W.pushCell (freshCell P1.m.cls N.kN)).setVm vm').setCell W.heap.size (npeBareV T.toThrowableT N.toNpeT (freshCell P1.m.cls N.kN) W.heap.size u0 sen)).setFrames (.throwing W.heap.size :: .java g :: below) := by
    rw [State.pushFrame, State.frames_setTop _ hfrM, State.setTop_of_frames _ hfrM, State.setFrames_setFrames]
  refine ⟨_, W.heap.size, _, fun target ht => st.trans (by rw [← hU]; exact ht), X3.forget (fun y hy => ?_), heapAt_setCell_self _ hlt, hfound, rfl⟩
  simp only [List.mem_cons, List.not_mem_nil, or_false] at hy
  have hge : s.heap.size ≤ W.heap.size := X.same.2.1
  rcases hy with rfl | rfl | rfl | rfl | rfl <;> exact hge
/-- the words of a machine's NullPointerException, but the four that speak of the heap -/
def vx_atN (n : Nat) : List Cond := (Bundle.npeArmAtoms n).filter vx_no
/-- the words of a machine's throw with a message, but the four that speak of the heap -/
def vx_atM (X : String) (names : List String) : List Cond := (Bundle.messageArmAtoms X names).filter vx_no
section
variable {p : Program} {l : Launch} {e : Env} {R : Room} {s : State} {m : MethodId} {args : Array Value} {below : List Frame} {meth : Method} {c : Code} {H : Heap} {locs : List Loc} {cells slots : Nat}
/-- a frame seen from a rebased start, seen from the first start again -/
theorem vx_back9 {T S : State} {R' : Room} {k n : Nat} (X : Stand p l e R s m args below meth c T locs cells slots) (Y : Stand p l e R' ((T.setVm s.vm).setFrames (.invoking m args :: below)) m args below meth c T [] 0 0) (Z : Stand p l e R' ((T.setVm s.vm).setFrames (.invoking m args :: below)) m args below meth c S [] k n) :
    Stand p l e R s m args below meth c S locs (cells + k) (slots + n) := by
  have hW0 : s.WarmedH ((T.setVm s.vm).setFrames (.invoking m args :: below)).vm := State.WarmedH.refl s
  refine { admits := X.admits, cas := X.cas, clock := X.clock, frames := X.frames, room := X.room, hears := X.hears, method := X.method, code := X.code, here := Z.here, tail := Z.tail, warmed := State.WarmedH.trans hW0 Z.warmed, limits := Z.limits.trans (Y.limits.symm.trans X.limits), bytes := Z.bytes.trans (Y.bytes.symm.trans X.bytes), same := ?_ }
  obtain ⟨e1, e2⟩ := Z.same
  rw [State.setFrames_setFrames] at e1
  have h2 : (T.setVm s.vm).sameButNew (S.setVm s.vm) [] k n := ⟨e1, e2⟩
  have h3 := X.same.trans h2
  rw [List.append_nil] at h3
  exact h3
/-- from the machine's note that E is thrown here with this text -/
def vx_Note (p : Program) (l : Launch) (e : Env) (R : Room) (s : State) (m : MethodId) (args : Array Value) (below : List Frame) (meth : Method) (c : Code) (H : Heap) (locs : List Loc) (cells slots : Nat) (Q : State → Prop) (g : JFrame) (E text : String) : Prop :=
  ∀ T : State, T.heap = H → Stand p l e R s m args below meth c T locs cells slots → ∃ t, Steps p.tables e below ((T.setTop g).pushFrame (.throwNew E (some text) none)) t ∧ Q t
theorem vx_vm {pc : Nat} {ls : Array Slot} {rest : List Value} {Q : State → Prop} (hexec : p.tables.exec = Jvm.exec) (hl : l.stackTraces = false) {cls text : String} {names : List String} {nb : Nat} {A : Nat → Prop}
    (hcls : Bundle.fit cls = true) (hnames : ∀ n ∈ names, Bundle.fit n = true) (hsoe : (cls == "java/lang/StackOverflowError") = false) (hoom : (cls == "java/lang/OutOfMemoryError") = false)
    (hat : ∀ w ∈ vx_atM cls names, w.before args s = true) (hgood : ∀ w ∈ vx_atM cls names, vx_ot w = true)
    (hU : vx_Zq Bundle.tN "UNASSIGNED_STACK" Bundle.steD A s s.heap) (hN : vx_Zq Bundle.tN "SUPPRESSED_SENTINEL" Bundle.listD A s s.heap) (hS : va_S A s.heap H locs) (hsize : ls.size = c.maxLocals)
    (htext : (text == notModelled) = false) (hnb : (stringBytes (stringToUtf16 text)).size ≤ nb) (hnb1 : nb ≤ 1000)
    (hRframes : names.length + 4 < R.frames) (hRlocals : (rest.map fun v => v.category).sum + 10240 ≤ R.locals) (hshort : 13 * names.length + 55 ≤ 10240) (hRcells : cells + 3 ≤ R.cells) (hRslots : slots + (nb + 10) ≤ R.slots) (hlocks : meth.locks = false)
    (k : ∀ (H1 : Heap) (q9 : Addr) (ce : Cell), H.size ≤ H1.size → (∀ q : Nat, q < H.size → H1[q]? = H[q]?) → va_S A s.heap H1 locs → H1[q9]? = some ce → ce.vm = .none → s.vm.findClass cls = some ce.cls → vx_W p l e R s m args below meth c H1 locs (cells + 3) (slots + (nb + 10)) Q (F0 m pc ls rest) q9) :
    vx_Note p l e R s m args below meth c H locs cells slots Q (F0 m pc ls rest) cls text := by
  intro T hT X
  have htr : e.platform.stackTraces = false := (show e.platform.stackTraces = l.stackTraces by rw [X.admits.platform]).trans hl
  have Y := vx_rebase X (R' := { frames := R.frames, locals := R.locals, cells := 3, slots := nb + 10 }) (Nat.le_refl _) (Nat.le_refl _) hRcells hRslots
  have hhp : ((T.setVm s.vm).setFrames (.invoking m args :: below)).heap = H := hT
  have hW0 : s.WarmedH ((T.setVm s.vm).setFrames (.invoking m args :: below)).vm := State.WarmedH.refl s
  have hat' : ∀ w ∈ vx_atM cls names, w.before args ((T.setVm s.vm).setFrames (.invoking m args :: below)) = true := fun w hw => vx_ot_at hW0 rfl (hgood w hw) (hat w hw)
  have hU' : vx_Zq Bundle.tN "UNASSIGNED_STACK" Bundle.steD A ((T.setVm s.vm).setFrames (.invoking m args :: below)) ((T.setVm s.vm).setFrames (.invoking m args :: below)).heap := by rw [hhp]; exact vx_Zq.moved hW0.alike (hU.kept hS.2.1)
  have hN' : vx_Zq Bundle.tN "SUPPRESSED_SENTINEL" Bundle.listD A ((T.setVm s.vm).setFrames (.invoking m args :: below)) ((T.setVm s.vm).setFrames (.invoking m args :: below)).heap := by rw [hhp]; exact vx_Zq.moved hW0.alike (hN.kept hS.2.1)
  obtain ⟨S, q, ce, st, Z, hce, hcl', hv⟩ := vx_vmAt Y hexec htr (cls := cls) (names := names) (text := text) hcls hnames hsoe hoom (vx_own hat' (vx_isRefq hU'.1) (vx_isRefq hN'.1) hU'.2.word hN'.2.word) (fun x hx => nomatch hx) htext
    (by rw [Launch.admits_arrayLengthLimit X.admits]; omega) (by rw [Launch.admits_maxHeapBytes X.admits]; simp only [componentBytes]; omega)
    (g := F0 m pc ls rest) rfl hsize hRframes (by show 2 * 0 + (rest.map fun v => v.category).sum + 10240 ≤ R.locals; omega) hshort (by show 0 + 3 ≤ 3; omega) (by show 0 + (_ + 4 + 6) ≤ nb + 10; omega) hlocks
  obtain ⟨f1, f2⟩ := vx_frame Z.same
  have f1' : H.size ≤ S.heap.size := by rw [← hT]; exact f1
  have f2' : ∀ q : Nat, q < H.size → S.heap[q]? = H[q]? := fun q hq => by
    rw [← hT]
    exact f2 q (by rw [← hT] at hq; exact hq) (fun z hz => nomatch hz)
  have X5 := vx_back9 X Y Z
  have X6 : Stand p l e R s m args below meth c S locs (cells + 3) (slots + (nb + 10)) := { X5 with same := X5.same.mono (by omega) (by omega) }
  obtain ⟨t, a1, b1⟩ := k S.heap q ce f1' f2' ⟨Nat.le_trans hS.1 f1', fun q h1 h2 => (f2' q (Nat.lt_of_lt_of_le h1 hS.1)).trans (hS.2.1 q h1 h2), hS.2.2⟩ hce hv hcl' S rfl X6
  exact ⟨t, st t a1, b1⟩
/-- from the machine's note that NullPointerException is thrown here -/
def vx_NoteN (p : Program) (l : Launch) (e : Env) (R : Room) (s : State) (m : MethodId) (args : Array Value) (below : List Frame) (meth : Method) (c : Code) (H : Heap) (locs : List Loc) (cells slots : Nat) (Q : State → Prop) (g : JFrame) : Prop :=
  ∀ T : State, T.heap = H → Stand p l e R s m args below meth c T locs cells slots → ∃ t, Steps p.tables e below ((T.setTop g).pushFrame (.throwNew "java/lang/NullPointerException" none none)) t ∧ Q t
theorem vx_npe {pc : Nat} {ls : Array Slot} {rest : List Value} {Q : State → Prop} (hexec : p.tables.exec = Jvm.exec) (hl : l.stackTraces = false) {nb : Nat} {A : Nat → Prop}
    (hat : ∀ w ∈ vx_atN nb, w.before args s = true) (hgood : ∀ w ∈ vx_atN nb, vx_ot w = true)
    (hU : vx_Zq Bundle.tN "UNASSIGNED_STACK" Bundle.steD A s s.heap) (hN : vx_Zq Bundle.tN "SUPPRESSED_SENTINEL" Bundle.listD A s s.heap) (hS : va_S A s.heap H locs) (hsize : ls.size = c.maxLocals)
    (hRframes : 7 < R.frames) (hRlocals : (rest.map fun v => v.category).sum + 10240 ≤ R.locals) (hRcells : cells + 1 ≤ R.cells) (hRslots : slots + nb ≤ R.slots) (hlocks : meth.locks = false)
    (k : ∀ (H1 : Heap) (q9 : Addr) (ce : Cell), H.size ≤ H1.size → (∀ q : Nat, q < H.size → H1[q]? = H[q]?) → va_S A s.heap H1 locs → H1[q9]? = some ce → ce.vm = .none → s.vm.findClass "java/lang/NullPointerException" = some ce.cls → vx_W p l e R s m args below meth c H1 locs (cells + 1) (slots + nb) Q (F0 m pc ls rest) q9) :
    vx_NoteN p l e R s m args below meth c H locs cells slots Q (F0 m pc ls rest) := by
  intro T hT X
  have htr : e.platform.stackTraces = false := (show e.platform.stackTraces = l.stackTraces by rw [X.admits.platform]).trans hl
  have Y := vx_rebase X (R' := { frames := R.frames, locals := R.locals, cells := 1, slots := nb }) (Nat.le_refl _) (Nat.le_refl _) hRcells hRslots
  have hhp : ((T.setVm s.vm).setFrames (.invoking m args :: below)).heap = H := hT
  have hW0 : s.WarmedH ((T.setVm s.vm).setFrames (.invoking m args :: below)).vm := State.WarmedH.refl s
  have hat' : ∀ w ∈ vx_atN nb, w.before args ((T.setVm s.vm).setFrames (.invoking m args :: below)) = true := fun w hw => vx_ot_at hW0 rfl (hgood w hw) (hat w hw)
  have hU' : vx_Zq Bundle.tN "UNASSIGNED_STACK" Bundle.steD A ((T.setVm s.vm).setFrames (.invoking m args :: below)) ((T.setVm s.vm).setFrames (.invoking m args :: below)).heap := by rw [hhp]; exact vx_Zq.moved hW0.alike (hU.kept hS.2.1)
  have hN' : vx_Zq Bundle.tN "SUPPRESSED_SENTINEL" Bundle.listD A ((T.setVm s.vm).setFrames (.invoking m args :: below)) ((T.setVm s.vm).setFrames (.invoking m args :: below)).heap := by rw [hhp]; exact vx_Zq.moved hW0.alike (hN.kept hS.2.1)
  obtain ⟨S, q, ce, st, Z, hce, hcl', hv⟩ := vx_npeAt Y hexec htr (n := nb) (vx_own hat' (vx_isRefq hU'.1) (vx_isRefq hN'.1) hU'.2.word hN'.2.word) (fun x hx => nomatch hx)
    (g := F0 m pc ls rest) rfl hsize hRframes (by show 2 * 0 + (rest.map fun v => v.category).sum + 10240 ≤ R.locals; omega) (by show 0 + 1 ≤ 1; omega) (by show 0 + nb ≤ nb; omega) hlocks
  obtain ⟨f1, f2⟩ := vx_frame Z.same
  have f1' : H.size ≤ S.heap.size := by rw [← hT]; exact f1
  have f2' : ∀ q : Nat, q < H.size → S.heap[q]? = H[q]? := fun q hq => by
    rw [← hT]
    exact f2 q (by rw [← hT] at hq; exact hq) (fun z hz => nomatch hz)
  have X5 := vx_back9 X Y Z
  have X6 : Stand p l e R s m args below meth c S locs (cells + 1) (slots + nb) := { X5 with same := X5.same.mono (by omega) (by omega) }
  obtain ⟨t, a1, b1⟩ := k S.heap q ce f1' f2' ⟨Nat.le_trans hS.1 f1', fun q h1 h2 => (f2' q (Nat.lt_of_lt_of_le h1 hS.1)).trans (hS.2.1 q h1 h2), hS.2.2⟩ hce hv hcl' S rfl X6
  exact ⟨t, st t a1, b1⟩
variable {Q : State → Prop} {cc : ByteArray} {pc : Nat} {ls : Array Slot} {rest : List Value}
theorem vx_idivZ (hexec : p.tables.exec = Jvm.exec) (hb : c.code = cc) {a b : Int32} (h0 : b = 0) (d : decode cc pc = .ok (.idiv, 1)) (k : vx_Note p l e R s m args below meth c H locs cells slots Q (F0 m pc ls rest) "java/lang/ArithmeticException" "/ by zero") :
    W p l e R s m args below meth c H locs cells slots Q (F0 m pc ls (.int b :: .int a :: rest)) := by
  intro T hT X
  obtain ⟨t, st, q⟩ := k T hT X
  exact ⟨t, X.idivZero hexec (g := F0 m pc ls (.int b :: .int a :: rest)) rfl (a := a) (rest := rest) (by rw [h0]) (by rw [hb]; exact d) t st, q⟩
theorem vx_iremZ (hexec : p.tables.exec = Jvm.exec) (hb : c.code = cc) {a b : Int32} (h0 : b = 0) (d : decode cc pc = .ok (.irem, 1)) (k : vx_Note p l e R s m args below meth c H locs cells slots Q (F0 m pc ls rest) "java/lang/ArithmeticException" "/ by zero") :
    W p l e R s m args below meth c H locs cells slots Q (F0 m pc ls (.int b :: .int a :: rest)) := by
  intro T hT X
  obtain ⟨t, st, q⟩ := k T hT X
  exact ⟨t, X.iremZero hexec (g := F0 m pc ls (.int b :: .int a :: rest)) rfl (a := a) (rest := rest) (by rw [h0]) (by rw [hb]; exact d) t st, q⟩
theorem vx_ldivZ (hexec : p.tables.exec = Jvm.exec) (hb : c.code = cc) {a b : Int64} (h0 : b = 0) (d : decode cc pc = .ok (.ldiv, 1)) (k : vx_Note p l e R s m args below meth c H locs cells slots Q (F0 m pc ls rest) "java/lang/ArithmeticException" "/ by zero") :
    W p l e R s m args below meth c H locs cells slots Q (F0 m pc ls (.long b :: .long a :: rest)) := by
  intro T hT X
  obtain ⟨t, st, q⟩ := k T hT X
  exact ⟨t, X.ldivZero hexec (g := F0 m pc ls (.long b :: .long a :: rest)) rfl (a := a) (rest := rest) (by rw [h0]) (by rw [hb]; exact d) t st, q⟩
theorem vx_lremZ (hexec : p.tables.exec = Jvm.exec) (hb : c.code = cc) {a b : Int64} (h0 : b = 0) (d : decode cc pc = .ok (.lrem, 1)) (k : vx_Note p l e R s m args below meth c H locs cells slots Q (F0 m pc ls rest) "java/lang/ArithmeticException" "/ by zero") :
    W p l e R s m args below meth c H locs cells slots Q (F0 m pc ls (.long b :: .long a :: rest)) := by
  intro T hT X
  obtain ⟨t, st, q⟩ := k T hT X
  exact ⟨t, X.lremZero hexec (g := F0 m pc ls (.long b :: .long a :: rest)) rfl (a := a) (rest := rest) (by rw [h0]) (by rw [hb]; exact d) t st, q⟩
theorem vx_ialdZ {D : va_G} {cl : List vw_C} {ws : va_W} {tys : List (ClassId × FieldType)} {a : Nat} (hexec : p.tables.exec = Jvm.exec) (hb : c.code = cc) (hK : va_K D cl tys s) (hP : va_P D cl ws H) (q0 t0 : Nat) {cA : ClassId} {n : Nat} {f : Nat → Int32} (ha : ws[q0]? = some (a, .inl (cA, n, .inl f))) (ht : tys[t0]? = some (cA, .int)) {i : Int32} (hout : ¬ vp_in i n) (hdg : decode cc pc = .ok (.iaload, 1))
    (k : ∀ tx : String, tx = (toString "Index " ++ toString i ++ toString " out of bounds for length " ++ toString n : String) → vx_Note p l e R s m args below meth c H locs cells slots Q (F0 m pc ls rest) "java/lang/ArrayIndexOutOfBoundsException" tx) : W p l e R s m args below meth c H locs cells slots Q (F0 m pc ls (.int i :: .ref a :: rest)) := by
  intro T hT X
  obtain ⟨t, st, q⟩ := k _ rfl T hT X
  refine ⟨t, ?_, q⟩
  have h1 := X.ialoadOut hexec (by rw [hT]; exact hP q0 _ ha) ((hK.2 t0 _ ht).1 n (fun j => .int (f j))) (j := i) (by show (i < 0 ∨ (arrV _ _ _).slots.size ≤ _); rw [arrV_size]; exact Classical.byContradiction hout) (g := F0 m pc ls (.int i :: .ref a :: rest)) rfl (rest := rest) rfl (by rw [hb]; exact hdg) t
  simp only [arrV_size] at h1
  exact h1 st
theorem vx_iastZ {D : va_G} {cl : List vw_C} {ws : va_W} {tys : List (ClassId × FieldType)} {a : Nat} (hexec : p.tables.exec = Jvm.exec) (hb : c.code = cc) (hK : va_K D cl tys s) (hP : va_P D cl ws H) (q0 t0 : Nat) {cA : ClassId} {n : Nat} {f : Nat → Int32} (ha : ws[q0]? = some (a, .inl (cA, n, .inl f))) (ht : tys[t0]? = some (cA, .int)) {i : Int32} {x : Int32} (hout : ¬ vp_in i n) (hdg : decode cc pc = .ok (.iastore, 1))
    (k : ∀ tx : String, tx = (toString "Index " ++ toString i ++ toString " out of bounds for length " ++ toString n : String) → vx_Note p l e R s m args below meth c H locs cells slots Q (F0 m pc ls rest) "java/lang/ArrayIndexOutOfBoundsException" tx) : W p l e R s m args below meth c H locs cells slots Q (F0 m pc ls (.int x :: .int i :: .ref a :: rest)) := by
  intro T hT X
  obtain ⟨t, st, q⟩ := k _ rfl T hT X
  refine ⟨t, ?_, q⟩
  have h1 := X.iastoreOut hexec (by rw [hT]; exact hP q0 _ ha) ((hK.2 t0 _ ht).1 n (fun j => .int (f j))) (j := i) (by show (i < 0 ∨ (arrV _ _ _).slots.size ≤ _); rw [arrV_size]; exact Classical.byContradiction hout) (g := F0 m pc ls (.int x :: .int i :: .ref a :: rest)) rfl (rest := rest) rfl (by rw [hb]; exact hdg) t
  simp only [arrV_size] at h1
  exact h1 st
theorem vx_baldZ {D : va_G} {cl : List vw_C} {ws : va_W} {tys : List (ClassId × FieldType)} {a : Nat} (hexec : p.tables.exec = Jvm.exec) (hb : c.code = cc) (hK : va_K D cl tys s) (hP : va_P D cl ws H) (q0 t0 : Nat) {cA : ClassId} {n : Nat} {f : Nat → Int32} (ha : ws[q0]? = some (a, .inl (cA, n, .inl f))) (ht : tys[t0]? = some (cA, .byte)) {i : Int32} (hout : ¬ vp_in i n) (hdg : decode cc pc = .ok (.baload, 1))
    (k : ∀ tx : String, tx = (toString "Index " ++ toString i ++ toString " out of bounds for length " ++ toString n : String) → vx_Note p l e R s m args below meth c H locs cells slots Q (F0 m pc ls rest) "java/lang/ArrayIndexOutOfBoundsException" tx) : W p l e R s m args below meth c H locs cells slots Q (F0 m pc ls (.int i :: .ref a :: rest)) := by
  intro T hT X
  obtain ⟨t, st, q⟩ := k _ rfl T hT X
  refine ⟨t, ?_, q⟩
  have h1 := X.baloadOut hexec (by rw [hT]; exact hP q0 _ ha) ((hK.2 t0 _ ht).1 n (fun j => .int (f j))) (j := i) (by show (i < 0 ∨ (arrV _ _ _).slots.size ≤ _); rw [arrV_size]; exact Classical.byContradiction hout) (g := F0 m pc ls (.int i :: .ref a :: rest)) rfl (rest := rest) rfl (by rw [hb]; exact hdg) t
  simp only [arrV_size] at h1
  exact h1 st
theorem vx_bastZ {D : va_G} {cl : List vw_C} {ws : va_W} {tys : List (ClassId × FieldType)} {a : Nat} (hexec : p.tables.exec = Jvm.exec) (hb : c.code = cc) (hK : va_K D cl tys s) (hP : va_P D cl ws H) (q0 t0 : Nat) {cA : ClassId} {n : Nat} {f : Nat → Int32} (ha : ws[q0]? = some (a, .inl (cA, n, .inl f))) (ht : tys[t0]? = some (cA, .byte)) {i : Int32} {x : Int32} (hout : ¬ vp_in i n) (hdg : decode cc pc = .ok (.bastore, 1))
    (k : ∀ tx : String, tx = (toString "Index " ++ toString i ++ toString " out of bounds for length " ++ toString n : String) → vx_Note p l e R s m args below meth c H locs cells slots Q (F0 m pc ls rest) "java/lang/ArrayIndexOutOfBoundsException" tx) : W p l e R s m args below meth c H locs cells slots Q (F0 m pc ls (.int x :: .int i :: .ref a :: rest)) := by
  intro T hT X
  obtain ⟨t, st, q⟩ := k _ rfl T hT X
  refine ⟨t, ?_, q⟩
  have h1 := X.bastoreOut hexec (by rw [hT]; exact hP q0 _ ha) ((hK.2 t0 _ ht).1 n (fun j => .int (f j))) (j := i) (by show (i < 0 ∨ (arrV _ _ _).slots.size ≤ _); rw [arrV_size]; exact Classical.byContradiction hout) (g := F0 m pc ls (.int x :: .int i :: .ref a :: rest)) rfl (rest := rest) rfl (by rw [hb]; exact hdg) t
  simp only [arrV_size] at h1
  exact h1 st
theorem vx_zaldZ {D : va_G} {cl : List vw_C} {ws : va_W} {tys : List (ClassId × FieldType)} {a : Nat} (hexec : p.tables.exec = Jvm.exec) (hb : c.code = cc) (hK : va_K D cl tys s) (hP : va_P D cl ws H) (q0 t0 : Nat) {cA : ClassId} {n : Nat} {f : Nat → Int32} (ha : ws[q0]? = some (a, .inl (cA, n, .inl f))) (ht : tys[t0]? = some (cA, .boolean)) {i : Int32} (hout : ¬ vp_in i n) (hdg : decode cc pc = .ok (.baload, 1))
    (k : ∀ tx : String, tx = (toString "Index " ++ toString i ++ toString " out of bounds for length " ++ toString n : String) → vx_Note p l e R s m args below meth c H locs cells slots Q (F0 m pc ls rest) "java/lang/ArrayIndexOutOfBoundsException" tx) : W p l e R s m args below meth c H locs cells slots Q (F0 m pc ls (.int i :: .ref a :: rest)) := by
  intro T hT X
  obtain ⟨t, st, q⟩ := k _ rfl T hT X
  refine ⟨t, ?_, q⟩
  have h1 := X.baloadOut hexec (by rw [hT]; exact hP q0 _ ha) ((hK.2 t0 _ ht).1 n (fun j => .int (f j))) (j := i) (by show (i < 0 ∨ (arrV _ _ _).slots.size ≤ _); rw [arrV_size]; exact Classical.byContradiction hout) (g := F0 m pc ls (.int i :: .ref a :: rest)) rfl (rest := rest) rfl (by rw [hb]; exact hdg) t
  simp only [arrV_size] at h1
  exact h1 st
theorem vx_zastZ {D : va_G} {cl : List vw_C} {ws : va_W} {tys : List (ClassId × FieldType)} {a : Nat} (hexec : p.tables.exec = Jvm.exec) (hb : c.code = cc) (hK : va_K D cl tys s) (hP : va_P D cl ws H) (q0 t0 : Nat) {cA : ClassId} {n : Nat} {f : Nat → Int32} (ha : ws[q0]? = some (a, .inl (cA, n, .inl f))) (ht : tys[t0]? = some (cA, .boolean)) {i : Int32} {x : Int32} (hout : ¬ vp_in i n) (hdg : decode cc pc = .ok (.bastore, 1))
    (k : ∀ tx : String, tx = (toString "Index " ++ toString i ++ toString " out of bounds for length " ++ toString n : String) → vx_Note p l e R s m args below meth c H locs cells slots Q (F0 m pc ls rest) "java/lang/ArrayIndexOutOfBoundsException" tx) : W p l e R s m args below meth c H locs cells slots Q (F0 m pc ls (.int x :: .int i :: .ref a :: rest)) := by
  intro T hT X
  obtain ⟨t, st, q⟩ := k _ rfl T hT X
  refine ⟨t, ?_, q⟩
  have h1 := X.bastoreOut hexec (by rw [hT]; exact hP q0 _ ha) ((hK.2 t0 _ ht).1 n (fun j => .int (f j))) (j := i) (by show (i < 0 ∨ (arrV _ _ _).slots.size ≤ _); rw [arrV_size]; exact Classical.byContradiction hout) (g := F0 m pc ls (.int x :: .int i :: .ref a :: rest)) rfl (rest := rest) rfl (by rw [hb]; exact hdg) t
  simp only [arrV_size] at h1
  exact h1 st
theorem vx_caldZ {D : va_G} {cl : List vw_C} {ws : va_W} {tys : List (ClassId × FieldType)} {a : Nat} (hexec : p.tables.exec = Jvm.exec) (hb : c.code = cc) (hK : va_K D cl tys s) (hP : va_P D cl ws H) (q0 t0 : Nat) {cA : ClassId} {n : Nat} {f : Nat → Int32} (ha : ws[q0]? = some (a, .inl (cA, n, .inl f))) (ht : tys[t0]? = some (cA, .char)) {i : Int32} (hout : ¬ vp_in i n) (hdg : decode cc pc = .ok (.caload, 1))
    (k : ∀ tx : String, tx = (toString "Index " ++ toString i ++ toString " out of bounds for length " ++ toString n : String) → vx_Note p l e R s m args below meth c H locs cells slots Q (F0 m pc ls rest) "java/lang/ArrayIndexOutOfBoundsException" tx) : W p l e R s m args below meth c H locs cells slots Q (F0 m pc ls (.int i :: .ref a :: rest)) := by
  intro T hT X
  obtain ⟨t, st, q⟩ := k _ rfl T hT X
  refine ⟨t, ?_, q⟩
  have h1 := X.caloadOut hexec (by rw [hT]; exact hP q0 _ ha) ((hK.2 t0 _ ht).1 n (fun j => .int (f j))) (j := i) (by show (i < 0 ∨ (arrV _ _ _).slots.size ≤ _); rw [arrV_size]; exact Classical.byContradiction hout) (g := F0 m pc ls (.int i :: .ref a :: rest)) rfl (rest := rest) rfl (by rw [hb]; exact hdg) t
  simp only [arrV_size] at h1
  exact h1 st
theorem vx_castZ {D : va_G} {cl : List vw_C} {ws : va_W} {tys : List (ClassId × FieldType)} {a : Nat} (hexec : p.tables.exec = Jvm.exec) (hb : c.code = cc) (hK : va_K D cl tys s) (hP : va_P D cl ws H) (q0 t0 : Nat) {cA : ClassId} {n : Nat} {f : Nat → Int32} (ha : ws[q0]? = some (a, .inl (cA, n, .inl f))) (ht : tys[t0]? = some (cA, .char)) {i : Int32} {x : Int32} (hout : ¬ vp_in i n) (hdg : decode cc pc = .ok (.castore, 1))
    (k : ∀ tx : String, tx = (toString "Index " ++ toString i ++ toString " out of bounds for length " ++ toString n : String) → vx_Note p l e R s m args below meth c H locs cells slots Q (F0 m pc ls rest) "java/lang/ArrayIndexOutOfBoundsException" tx) : W p l e R s m args below meth c H locs cells slots Q (F0 m pc ls (.int x :: .int i :: .ref a :: rest)) := by
  intro T hT X
  obtain ⟨t, st, q⟩ := k _ rfl T hT X
  refine ⟨t, ?_, q⟩
  have h1 := X.castoreOut hexec (by rw [hT]; exact hP q0 _ ha) ((hK.2 t0 _ ht).1 n (fun j => .int (f j))) (j := i) (by show (i < 0 ∨ (arrV _ _ _).slots.size ≤ _); rw [arrV_size]; exact Classical.byContradiction hout) (g := F0 m pc ls (.int x :: .int i :: .ref a :: rest)) rfl (rest := rest) rfl (by rw [hb]; exact hdg) t
  simp only [arrV_size] at h1
  exact h1 st
theorem vx_saldZ {D : va_G} {cl : List vw_C} {ws : va_W} {tys : List (ClassId × FieldType)} {a : Nat} (hexec : p.tables.exec = Jvm.exec) (hb : c.code = cc) (hK : va_K D cl tys s) (hP : va_P D cl ws H) (q0 t0 : Nat) {cA : ClassId} {n : Nat} {f : Nat → Int32} (ha : ws[q0]? = some (a, .inl (cA, n, .inl f))) (ht : tys[t0]? = some (cA, .short)) {i : Int32} (hout : ¬ vp_in i n) (hdg : decode cc pc = .ok (.saload, 1))
    (k : ∀ tx : String, tx = (toString "Index " ++ toString i ++ toString " out of bounds for length " ++ toString n : String) → vx_Note p l e R s m args below meth c H locs cells slots Q (F0 m pc ls rest) "java/lang/ArrayIndexOutOfBoundsException" tx) : W p l e R s m args below meth c H locs cells slots Q (F0 m pc ls (.int i :: .ref a :: rest)) := by
  intro T hT X
  obtain ⟨t, st, q⟩ := k _ rfl T hT X
  refine ⟨t, ?_, q⟩
  have h1 := X.saloadOut hexec (by rw [hT]; exact hP q0 _ ha) ((hK.2 t0 _ ht).1 n (fun j => .int (f j))) (j := i) (by show (i < 0 ∨ (arrV _ _ _).slots.size ≤ _); rw [arrV_size]; exact Classical.byContradiction hout) (g := F0 m pc ls (.int i :: .ref a :: rest)) rfl (rest := rest) rfl (by rw [hb]; exact hdg) t
  simp only [arrV_size] at h1
  exact h1 st
theorem vx_sastZ {D : va_G} {cl : List vw_C} {ws : va_W} {tys : List (ClassId × FieldType)} {a : Nat} (hexec : p.tables.exec = Jvm.exec) (hb : c.code = cc) (hK : va_K D cl tys s) (hP : va_P D cl ws H) (q0 t0 : Nat) {cA : ClassId} {n : Nat} {f : Nat → Int32} (ha : ws[q0]? = some (a, .inl (cA, n, .inl f))) (ht : tys[t0]? = some (cA, .short)) {i : Int32} {x : Int32} (hout : ¬ vp_in i n) (hdg : decode cc pc = .ok (.sastore, 1))
    (k : ∀ tx : String, tx = (toString "Index " ++ toString i ++ toString " out of bounds for length " ++ toString n : String) → vx_Note p l e R s m args below meth c H locs cells slots Q (F0 m pc ls rest) "java/lang/ArrayIndexOutOfBoundsException" tx) : W p l e R s m args below meth c H locs cells slots Q (F0 m pc ls (.int x :: .int i :: .ref a :: rest)) := by
  intro T hT X
  obtain ⟨t, st, q⟩ := k _ rfl T hT X
  refine ⟨t, ?_, q⟩
  have h1 := X.sastoreOut hexec (by rw [hT]; exact hP q0 _ ha) ((hK.2 t0 _ ht).1 n (fun j => .int (f j))) (j := i) (by show (i < 0 ∨ (arrV _ _ _).slots.size ≤ _); rw [arrV_size]; exact Classical.byContradiction hout) (g := F0 m pc ls (.int x :: .int i :: .ref a :: rest)) rfl (rest := rest) rfl (by rw [hb]; exact hdg) t
  simp only [arrV_size] at h1
  exact h1 st
theorem vx_laldZ {D : va_G} {cl : List vw_C} {ws : va_W} {tys : List (ClassId × FieldType)} {a : Nat} (hexec : p.tables.exec = Jvm.exec) (hb : c.code = cc) (hK : va_K D cl tys s) (hP : va_P D cl ws H) (q0 t0 : Nat) {cA : ClassId} {n : Nat} {f : Nat → Int64} (ha : ws[q0]? = some (a, .inl (cA, n, .inr (.inl f)))) (ht : tys[t0]? = some (cA, .long)) {i : Int32} (hout : ¬ vp_in i n) (hdg : decode cc pc = .ok (.laload, 1))
    (k : ∀ tx : String, tx = (toString "Index " ++ toString i ++ toString " out of bounds for length " ++ toString n : String) → vx_Note p l e R s m args below meth c H locs cells slots Q (F0 m pc ls rest) "java/lang/ArrayIndexOutOfBoundsException" tx) : W p l e R s m args below meth c H locs cells slots Q (F0 m pc ls (.int i :: .ref a :: rest)) := by
  intro T hT X
  obtain ⟨t, st, q⟩ := k _ rfl T hT X
  refine ⟨t, ?_, q⟩
  have h1 := X.laloadOut hexec (by rw [hT]; exact hP q0 _ ha) ((hK.2 t0 _ ht).1 n (fun j => .long (f j))) (j := i) (by show (i < 0 ∨ (arrV _ _ _).slots.size ≤ _); rw [arrV_size]; exact Classical.byContradiction hout) (g := F0 m pc ls (.int i :: .ref a :: rest)) rfl (rest := rest) rfl (by rw [hb]; exact hdg) t
  simp only [arrV_size] at h1
  exact h1 st
theorem vx_lastZ {D : va_G} {cl : List vw_C} {ws : va_W} {tys : List (ClassId × FieldType)} {a : Nat} (hexec : p.tables.exec = Jvm.exec) (hb : c.code = cc) (hK : va_K D cl tys s) (hP : va_P D cl ws H) (q0 t0 : Nat) {cA : ClassId} {n : Nat} {f : Nat → Int64} (ha : ws[q0]? = some (a, .inl (cA, n, .inr (.inl f)))) (ht : tys[t0]? = some (cA, .long)) {i : Int32} {x : Int64} (hout : ¬ vp_in i n) (hdg : decode cc pc = .ok (.lastore, 1))
    (k : ∀ tx : String, tx = (toString "Index " ++ toString i ++ toString " out of bounds for length " ++ toString n : String) → vx_Note p l e R s m args below meth c H locs cells slots Q (F0 m pc ls rest) "java/lang/ArrayIndexOutOfBoundsException" tx) : W p l e R s m args below meth c H locs cells slots Q (F0 m pc ls (.long x :: .int i :: .ref a :: rest)) := by
  intro T hT X
  obtain ⟨t, st, q⟩ := k _ rfl T hT X
  refine ⟨t, ?_, q⟩
  have h1 := X.lastoreOut hexec (by rw [hT]; exact hP q0 _ ha) ((hK.2 t0 _ ht).1 n (fun j => .long (f j))) (j := i) (by show (i < 0 ∨ (arrV _ _ _).slots.size ≤ _); rw [arrV_size]; exact Classical.byContradiction hout) (g := F0 m pc ls (.long x :: .int i :: .ref a :: rest)) rfl (rest := rest) rfl (by rw [hb]; exact hdg) t
  simp only [arrV_size] at h1
  exact h1 st
theorem vx_faldZ {D : va_G} {cl : List vw_C} {ws : va_W} {tys : List (ClassId × FieldType)} {a : Nat} (hexec : p.tables.exec = Jvm.exec) (hb : c.code = cc) (hK : va_K D cl tys s) (hP : va_P D cl ws H) (q0 t0 : Nat) {cA : ClassId} {n : Nat} {f : Nat → UInt32} (ha : ws[q0]? = some (a, .inl (cA, n, .inr (.inr (.inl f))))) (ht : tys[t0]? = some (cA, .float)) {i : Int32} (hout : ¬ vp_in i n) (hdg : decode cc pc = .ok (.faload, 1))
    (k : ∀ tx : String, tx = (toString "Index " ++ toString i ++ toString " out of bounds for length " ++ toString n : String) → vx_Note p l e R s m args below meth c H locs cells slots Q (F0 m pc ls rest) "java/lang/ArrayIndexOutOfBoundsException" tx) : W p l e R s m args below meth c H locs cells slots Q (F0 m pc ls (.int i :: .ref a :: rest)) := by
  intro T hT X
  obtain ⟨t, st, q⟩ := k _ rfl T hT X
  refine ⟨t, ?_, q⟩
  have h1 := X.faloadOut hexec (by rw [hT]; exact hP q0 _ ha) ((hK.2 t0 _ ht).1 n (fun j => .float (f j))) (j := i) (by show (i < 0 ∨ (arrV _ _ _).slots.size ≤ _); rw [arrV_size]; exact Classical.byContradiction hout) (g := F0 m pc ls (.int i :: .ref a :: rest)) rfl (rest := rest) rfl (by rw [hb]; exact hdg) t
  simp only [arrV_size] at h1
  exact h1 st
theorem vx_fastZ {D : va_G} {cl : List vw_C} {ws : va_W} {tys : List (ClassId × FieldType)} {a : Nat} (hexec : p.tables.exec = Jvm.exec) (hb : c.code = cc) (hK : va_K D cl tys s) (hP : va_P D cl ws H) (q0 t0 : Nat) {cA : ClassId} {n : Nat} {f : Nat → UInt32} (ha : ws[q0]? = some (a, .inl (cA, n, .inr (.inr (.inl f))))) (ht : tys[t0]? = some (cA, .float)) {i : Int32} {x : UInt32} (hout : ¬ vp_in i n) (hdg : decode cc pc = .ok (.fastore, 1))
    (k : ∀ tx : String, tx = (toString "Index " ++ toString i ++ toString " out of bounds for length " ++ toString n : String) → vx_Note p l e R s m args below meth c H locs cells slots Q (F0 m pc ls rest) "java/lang/ArrayIndexOutOfBoundsException" tx) : W p l e R s m args below meth c H locs cells slots Q (F0 m pc ls (.float x :: .int i :: .ref a :: rest)) := by
  intro T hT X
  obtain ⟨t, st, q⟩ := k _ rfl T hT X
  refine ⟨t, ?_, q⟩
  have h1 := X.fastoreOut hexec (by rw [hT]; exact hP q0 _ ha) ((hK.2 t0 _ ht).1 n (fun j => .float (f j))) (j := i) (by show (i < 0 ∨ (arrV _ _ _).slots.size ≤ _); rw [arrV_size]; exact Classical.byContradiction hout) (g := F0 m pc ls (.float x :: .int i :: .ref a :: rest)) rfl (rest := rest) rfl (by rw [hb]; exact hdg) t
  simp only [arrV_size] at h1
  exact h1 st
theorem vx_daldZ {D : va_G} {cl : List vw_C} {ws : va_W} {tys : List (ClassId × FieldType)} {a : Nat} (hexec : p.tables.exec = Jvm.exec) (hb : c.code = cc) (hK : va_K D cl tys s) (hP : va_P D cl ws H) (q0 t0 : Nat) {cA : ClassId} {n : Nat} {f : Nat → UInt64} (ha : ws[q0]? = some (a, .inl (cA, n, .inr (.inr (.inr (.inl f)))))) (ht : tys[t0]? = some (cA, .double)) {i : Int32} (hout : ¬ vp_in i n) (hdg : decode cc pc = .ok (.daload, 1))
    (k : ∀ tx : String, tx = (toString "Index " ++ toString i ++ toString " out of bounds for length " ++ toString n : String) → vx_Note p l e R s m args below meth c H locs cells slots Q (F0 m pc ls rest) "java/lang/ArrayIndexOutOfBoundsException" tx) : W p l e R s m args below meth c H locs cells slots Q (F0 m pc ls (.int i :: .ref a :: rest)) := by
  intro T hT X
  obtain ⟨t, st, q⟩ := k _ rfl T hT X
  refine ⟨t, ?_, q⟩
  have h1 := X.daloadOut hexec (by rw [hT]; exact hP q0 _ ha) ((hK.2 t0 _ ht).1 n (fun j => .double (f j))) (j := i) (by show (i < 0 ∨ (arrV _ _ _).slots.size ≤ _); rw [arrV_size]; exact Classical.byContradiction hout) (g := F0 m pc ls (.int i :: .ref a :: rest)) rfl (rest := rest) rfl (by rw [hb]; exact hdg) t
  simp only [arrV_size] at h1
  exact h1 st
theorem vx_dastZ {D : va_G} {cl : List vw_C} {ws : va_W} {tys : List (ClassId × FieldType)} {a : Nat} (hexec : p.tables.exec = Jvm.exec) (hb : c.code = cc) (hK : va_K D cl tys s) (hP : va_P D cl ws H) (q0 t0 : Nat) {cA : ClassId} {n : Nat} {f : Nat → UInt64} (ha : ws[q0]? = some (a, .inl (cA, n, .inr (.inr (.inr (.inl f)))))) (ht : tys[t0]? = some (cA, .double)) {i : Int32} {x : UInt64} (hout : ¬ vp_in i n) (hdg : decode cc pc = .ok (.dastore, 1))
    (k : ∀ tx : String, tx = (toString "Index " ++ toString i ++ toString " out of bounds for length " ++ toString n : String) → vx_Note p l e R s m args below meth c H locs cells slots Q (F0 m pc ls rest) "java/lang/ArrayIndexOutOfBoundsException" tx) : W p l e R s m args below meth c H locs cells slots Q (F0 m pc ls (.double x :: .int i :: .ref a :: rest)) := by
  intro T hT X
  obtain ⟨t, st, q⟩ := k _ rfl T hT X
  refine ⟨t, ?_, q⟩
  have h1 := X.dastoreOut hexec (by rw [hT]; exact hP q0 _ ha) ((hK.2 t0 _ ht).1 n (fun j => .double (f j))) (j := i) (by show (i < 0 ∨ (arrV _ _ _).slots.size ≤ _); rw [arrV_size]; exact Classical.byContradiction hout) (g := F0 m pc ls (.double x :: .int i :: .ref a :: rest)) rfl (rest := rest) rfl (by rw [hb]; exact hdg) t
  simp only [arrV_size] at h1
  exact h1 st
theorem vx_arraylengthN (hexec : p.tables.exec = Jvm.exec) (hb : c.code = cc) (hdg : decode cc pc = .ok (.arraylength, 1)) (k : vx_NoteN p l e R s m args below meth c H locs cells slots Q (F0 m pc ls rest)) : W p l e R s m args below meth c H locs cells slots Q (F0 m pc ls (.null :: rest)) := by
  intro T hT X
  obtain ⟨t, st, q⟩ := k T hT X
  exact ⟨t, X.arraylengthNull hexec (g := F0 m pc ls (.null :: rest)) rfl (rest := rest) rfl (by rw [hb]; exact hdg) t st, q⟩
theorem vx_ialoadN (hexec : p.tables.exec = Jvm.exec) (hb : c.code = cc) {i : Int32} (hdg : decode cc pc = .ok (.iaload, 1)) (k : vx_NoteN p l e R s m args below meth c H locs cells slots Q (F0 m pc ls rest)) : W p l e R s m args below meth c H locs cells slots Q (F0 m pc ls (.int i :: .null :: rest)) := by
  intro T hT X
  obtain ⟨t, st, q⟩ := k T hT X
  exact ⟨t, X.ialoadNull hexec (g := F0 m pc ls (.int i :: .null :: rest)) rfl (rest := rest) rfl (by rw [hb]; exact hdg) t st, q⟩
theorem vx_laloadN (hexec : p.tables.exec = Jvm.exec) (hb : c.code = cc) {i : Int32} (hdg : decode cc pc = .ok (.laload, 1)) (k : vx_NoteN p l e R s m args below meth c H locs cells slots Q (F0 m pc ls rest)) : W p l e R s m args below meth c H locs cells slots Q (F0 m pc ls (.int i :: .null :: rest)) := by
  intro T hT X
  obtain ⟨t, st, q⟩ := k T hT X
  exact ⟨t, X.laloadNull hexec (g := F0 m pc ls (.int i :: .null :: rest)) rfl (rest := rest) rfl (by rw [hb]; exact hdg) t st, q⟩
theorem vx_faloadN (hexec : p.tables.exec = Jvm.exec) (hb : c.code = cc) {i : Int32} (hdg : decode cc pc = .ok (.faload, 1)) (k : vx_NoteN p l e R s m args below meth c H locs cells slots Q (F0 m pc ls rest)) : W p l e R s m args below meth c H locs cells slots Q (F0 m pc ls (.int i :: .null :: rest)) := by
  intro T hT X
  obtain ⟨t, st, q⟩ := k T hT X
  exact ⟨t, X.faloadNull hexec (g := F0 m pc ls (.int i :: .null :: rest)) rfl (rest := rest) rfl (by rw [hb]; exact hdg) t st, q⟩
theorem vx_daloadN (hexec : p.tables.exec = Jvm.exec) (hb : c.code = cc) {i : Int32} (hdg : decode cc pc = .ok (.daload, 1)) (k : vx_NoteN p l e R s m args below meth c H locs cells slots Q (F0 m pc ls rest)) : W p l e R s m args below meth c H locs cells slots Q (F0 m pc ls (.int i :: .null :: rest)) := by
  intro T hT X
  obtain ⟨t, st, q⟩ := k T hT X
  exact ⟨t, X.daloadNull hexec (g := F0 m pc ls (.int i :: .null :: rest)) rfl (rest := rest) rfl (by rw [hb]; exact hdg) t st, q⟩
theorem vx_aaloadN (hexec : p.tables.exec = Jvm.exec) (hb : c.code = cc) {i : Int32} (hdg : decode cc pc = .ok (.aaload, 1)) (k : vx_NoteN p l e R s m args below meth c H locs cells slots Q (F0 m pc ls rest)) : W p l e R s m args below meth c H locs cells slots Q (F0 m pc ls (.int i :: .null :: rest)) := by
  intro T hT X
  obtain ⟨t, st, q⟩ := k T hT X
  exact ⟨t, X.aaloadNull hexec (g := F0 m pc ls (.int i :: .null :: rest)) rfl (rest := rest) rfl (by rw [hb]; exact hdg) t st, q⟩
theorem vx_baloadN (hexec : p.tables.exec = Jvm.exec) (hb : c.code = cc) {i : Int32} (hdg : decode cc pc = .ok (.baload, 1)) (k : vx_NoteN p l e R s m args below meth c H locs cells slots Q (F0 m pc ls rest)) : W p l e R s m args below meth c H locs cells slots Q (F0 m pc ls (.int i :: .null :: rest)) := by
  intro T hT X
  obtain ⟨t, st, q⟩ := k T hT X
  exact ⟨t, X.baloadNull hexec (g := F0 m pc ls (.int i :: .null :: rest)) rfl (rest := rest) rfl (by rw [hb]; exact hdg) t st, q⟩
theorem vx_caloadN (hexec : p.tables.exec = Jvm.exec) (hb : c.code = cc) {i : Int32} (hdg : decode cc pc = .ok (.caload, 1)) (k : vx_NoteN p l e R s m args below meth c H locs cells slots Q (F0 m pc ls rest)) : W p l e R s m args below meth c H locs cells slots Q (F0 m pc ls (.int i :: .null :: rest)) := by
  intro T hT X
  obtain ⟨t, st, q⟩ := k T hT X
  exact ⟨t, X.caloadNull hexec (g := F0 m pc ls (.int i :: .null :: rest)) rfl (rest := rest) rfl (by rw [hb]; exact hdg) t st, q⟩
theorem vx_saloadN (hexec : p.tables.exec = Jvm.exec) (hb : c.code = cc) {i : Int32} (hdg : decode cc pc = .ok (.saload, 1)) (k : vx_NoteN p l e R s m args below meth c H locs cells slots Q (F0 m pc ls rest)) : W p l e R s m args below meth c H locs cells slots Q (F0 m pc ls (.int i :: .null :: rest)) := by
  intro T hT X
  obtain ⟨t, st, q⟩ := k T hT X
  exact ⟨t, X.saloadNull hexec (g := F0 m pc ls (.int i :: .null :: rest)) rfl (rest := rest) rfl (by rw [hb]; exact hdg) t st, q⟩
theorem vx_iastoreN (hexec : p.tables.exec = Jvm.exec) (hb : c.code = cc) {x : Int32} {i : Int32} (hdg : decode cc pc = .ok (.iastore, 1)) (k : vx_NoteN p l e R s m args below meth c H locs cells slots Q (F0 m pc ls rest)) : W p l e R s m args below meth c H locs cells slots Q (F0 m pc ls (.int x :: .int i :: .null :: rest)) := by
  intro T hT X
  obtain ⟨t, st, q⟩ := k T hT X
  exact ⟨t, X.iastoreNull hexec (g := F0 m pc ls (.int x :: .int i :: .null :: rest)) rfl (rest := rest) rfl (by rw [hb]; exact hdg) t st, q⟩
theorem vx_lastoreN (hexec : p.tables.exec = Jvm.exec) (hb : c.code = cc) {x : Int64} {i : Int32} (hdg : decode cc pc = .ok (.lastore, 1)) (k : vx_NoteN p l e R s m args below meth c H locs cells slots Q (F0 m pc ls rest)) : W p l e R s m args below meth c H locs cells slots Q (F0 m pc ls (.long x :: .int i :: .null :: rest)) := by
  intro T hT X
  obtain ⟨t, st, q⟩ := k T hT X
  exact ⟨t, X.lastoreNull hexec (g := F0 m pc ls (.long x :: .int i :: .null :: rest)) rfl (rest := rest) rfl (by rw [hb]; exact hdg) t st, q⟩
theorem vx_fastoreN (hexec : p.tables.exec = Jvm.exec) (hb : c.code = cc) {x : UInt32} {i : Int32} (hdg : decode cc pc = .ok (.fastore, 1)) (k : vx_NoteN p l e R s m args below meth c H locs cells slots Q (F0 m pc ls rest)) : W p l e R s m args below meth c H locs cells slots Q (F0 m pc ls (.float x :: .int i :: .null :: rest)) := by
  intro T hT X
  obtain ⟨t, st, q⟩ := k T hT X
  exact ⟨t, X.fastoreNull hexec (g := F0 m pc ls (.float x :: .int i :: .null :: rest)) rfl (rest := rest) rfl (by rw [hb]; exact hdg) t st, q⟩
theorem vx_dastoreN (hexec : p.tables.exec = Jvm.exec) (hb : c.code = cc) {x : UInt64} {i : Int32} (hdg : decode cc pc = .ok (.dastore, 1)) (k : vx_NoteN p l e R s m args below meth c H locs cells slots Q (F0 m pc ls rest)) : W p l e R s m args below meth c H locs cells slots Q (F0 m pc ls (.double x :: .int i :: .null :: rest)) := by
  intro T hT X
  obtain ⟨t, st, q⟩ := k T hT X
  exact ⟨t, X.dastoreNull hexec (g := F0 m pc ls (.double x :: .int i :: .null :: rest)) rfl (rest := rest) rfl (by rw [hb]; exact hdg) t st, q⟩
theorem vx_bastoreN (hexec : p.tables.exec = Jvm.exec) (hb : c.code = cc) {x : Int32} {i : Int32} (hdg : decode cc pc = .ok (.bastore, 1)) (k : vx_NoteN p l e R s m args below meth c H locs cells slots Q (F0 m pc ls rest)) : W p l e R s m args below meth c H locs cells slots Q (F0 m pc ls (.int x :: .int i :: .null :: rest)) := by
  intro T hT X
  obtain ⟨t, st, q⟩ := k T hT X
  exact ⟨t, X.bastoreNull hexec (g := F0 m pc ls (.int x :: .int i :: .null :: rest)) rfl (rest := rest) rfl (by rw [hb]; exact hdg) t st, q⟩
theorem vx_castoreN (hexec : p.tables.exec = Jvm.exec) (hb : c.code = cc) {x : Int32} {i : Int32} (hdg : decode cc pc = .ok (.castore, 1)) (k : vx_NoteN p l e R s m args below meth c H locs cells slots Q (F0 m pc ls rest)) : W p l e R s m args below meth c H locs cells slots Q (F0 m pc ls (.int x :: .int i :: .null :: rest)) := by
  intro T hT X
  obtain ⟨t, st, q⟩ := k T hT X
  exact ⟨t, X.castoreNull hexec (g := F0 m pc ls (.int x :: .int i :: .null :: rest)) rfl (rest := rest) rfl (by rw [hb]; exact hdg) t st, q⟩
theorem vx_sastoreN (hexec : p.tables.exec = Jvm.exec) (hb : c.code = cc) {x : Int32} {i : Int32} (hdg : decode cc pc = .ok (.sastore, 1)) (k : vx_NoteN p l e R s m args below meth c H locs cells slots Q (F0 m pc ls rest)) : W p l e R s m args below meth c H locs cells slots Q (F0 m pc ls (.int x :: .int i :: .null :: rest)) := by
  intro T hT X
  obtain ⟨t, st, q⟩ := k T hT X
  exact ⟨t, X.sastoreNull hexec (g := F0 m pc ls (.int x :: .int i :: .null :: rest)) rfl (rest := rest) rfl (by rw [hb]; exact hdg) t st, q⟩
theorem vx_invokeN {own C : String} {index maxL : Nat} {y : MethodName} {bytes : ByteArray} {ret : Option FieldType} (hexec : p.tables.exec = Jvm.exec) (hb : c.code = cc) (hown : s.vm.findClass own = some m.cls) (hlink : (Cond.methodLink own index y).before args s = true) (hinst : (Cond.instanceMethod y).before args s = true) (hcode : (Cond.code y bytes maxL ret).before args s = true) (hsel : (Cond.selects C y y).before args s = true)
    (hx : y.cls ≠ "java/lang/invoke/MethodHandle" ∧ y.cls ≠ "java/lang/invoke/VarHandle") {As : List Value} (hlen : (parseMethodDescriptor y.desc).map (fun d => d.parameters.length) = some As.length) (hdg : decode cc pc = .ok (.invokevirtual index, 3))
    (k : vx_NoteN p l e R s m args below meth c H locs cells slots Q (F0 m pc ls rest)) {st0 : List Value} (hst : st0 = As.reverse ++ .null :: rest) : W p l e R s m args below meth c H locs cells slots Q (F0 m pc ls st0) := by
  intro T hT X
  obtain ⟨r0, r, hn, hrm, hstR, hsigR⟩ := va_Decl.of hinst hcode
  obtain ⟨c2, r2, m2, q1, q2, q3, q4, kP, hkP, hkPi⟩ := Cond.selects_spec hsel
  cases hn.symm.trans q3
  have hl9 : As.length = r.sig.parameters.length := by
    rw [hsigR] at hlen
    exact (Option.some.inj hlen).symm
  obtain ⟨vm', X1, st1⟩ := X.invokevirtualNull hexec hown hlink hn hrm hstR hkP hkPi hx (g := F0 m pc ls st0) rfl (argsL := As) (rest := rest) hl9 hst (by rw [hb]; exact hdg)
  obtain ⟨t, st, q⟩ := k (T.setVm vm') hT X1
  exact ⟨t, st1 t st, q⟩
theorem vx_newarrayZ {atype : ArrayType} (hexec : p.tables.exec = Jvm.exec) (hb : c.code = cc) {n : Int32} (h0 : n < 0) (hdg : decode cc pc = .ok (.newarray atype, 2)) (k : ∀ tx : String, tx = toString n → vx_Note p l e R s m args below meth c H locs cells slots Q (F0 m pc ls rest) "java/lang/NegativeArraySizeException" tx) : W p l e R s m args below meth c H locs cells slots Q (F0 m pc ls (.int n :: rest)) := by
  intro T hT X
  obtain ⟨t, st, q⟩ := k _ rfl T hT X
  exact ⟨t, X.newarrayNegative hexec (g := F0 m pc ls (.int n :: rest)) rfl h0 (rest := rest) rfl (by rw [hb]; exact hdg) t st, q⟩
end
end VXM
/-! ===== END ===== -/
end
section
/-! ===== BEGIN printed: names, fields, word lists, decode rows ===== -/
def RX0 : String := "TerminalYard$Machine"
def TX0 : u_T := fun k => match k with
  | 0 => ("TerminalYard$Machine", "number", "I", true)
  | 1 => ("TerminalYard$Machine", "pool", "I", true)
  | 2 => ("TerminalYard$Machine", "room", "I", true)
  | 3 => ("TerminalYard$Machine", "seats", "I", true)
  | 4 => ("TerminalYard$Machine", "condition", "C", false)
  | _ => ("TerminalYard$Machine", "live", "I", false)
def tyX0 : Nat → FieldType := fun k => match k with
  | 0 => .int
  | 1 => .int
  | 2 => .int
  | 3 => .int
  | 4 => .char
  | _ => .int
abbrev wsX00 : List Cond := u_ws RX0 TX0 6
theorem nmX0 : ∀ a, a < 6 → ∀ b, b < 6 → a ≠ b → (TX0 a).2.1 ≠ (TX0 b).2.1 := by decide +kernel
theorem tyX0_ok : ∀ k, k < 6 → parseFieldDescriptor (TX0 k).2.2.1 = some (tyX0 k) := by decide +kernel
abbrev cX0_init : ByteArray := prog_2_method_1_code
def yX0_init : MethodName := ⟨RX0, "<init>", "(IIII)V"⟩
abbrev cX0_freeSeats : ByteArray := prog_2_method_2_code
def yX0_freeSeats : MethodName := ⟨RX0, "freeSeats", "()I"⟩
abbrev cX0_serves : ByteArray := prog_2_method_3_code
def yX0_serves : MethodName := ⟨RX0, "serves", "(I)Z"⟩
abbrev cX0_repairWhenEmpty : ByteArray := prog_2_method_4_code
def yX0_repairWhenEmpty : MethodName := ⟨RX0, "repairWhenEmpty", "()V"⟩
def RX1 : String := "TerminalYard$Session"
def TX1 : u_T := fun k => match k with
  | 0 => ("TerminalYard$Session", "owner", "I", true)
  | 1 => ("TerminalYard$Session", "host", "LTerminalYard$Machine;", true)
  | 2 => ("TerminalYard$Session", "began", "I", true)
  | 3 => ("TerminalYard$Session", "chargedFrom", "[I", true)
  | 4 => ("TerminalYard$Session", "holder", "I", false)
  | 5 => ("TerminalYard$Session", "usedLast", "I", false)
  | _ => ("TerminalYard$Session", "condition", "C", false)
def tyX1 : Nat → FieldType := fun k => match k with
  | 0 => .int
  | 1 => .object "TerminalYard$Machine"
  | 2 => .int
  | 3 => .array .int
  | 4 => .int
  | 5 => .int
  | _ => .char
abbrev wsX10 : List Cond := u_ws RX1 TX1 7
theorem nmX1 : ∀ a, a < 7 → ∀ b, b < 7 → a ≠ b → (TX1 a).2.1 ≠ (TX1 b).2.1 := by decide +kernel
theorem tyX1_ok : ∀ k, k < 7 → parseFieldDescriptor (TX1 k).2.2.1 = some (tyX1 k) := by decide +kernel
abbrev cX1_init : ByteArray := prog_3_method_1_code
def yX1_init : MethodName := ⟨RX1, "<init>", "(ILTerminalYard$Machine;I)V"⟩
abbrev cX1_isLive : ByteArray := prog_3_method_2_code
def yX1_isLive : MethodName := ⟨RX1, "isLive", "()Z"⟩
abbrev cX1_chargedInAll : ByteArray := prog_3_method_3_code
def yX1_chargedInAll : MethodName := ⟨RX1, "chargedInAll", "()I"⟩
def RX2 : String := "TerminalYard"
def TX2 : u_T := fun k => match k with
  | 0 => ("TerminalYard", "idleLimits", "[I", true)
  | 1 => ("TerminalYard", "hardLimits", "[I", true)
  | 2 => ("TerminalYard", "pagesInRoom", "[I", true)
  | 3 => ("TerminalYard", "departmentOf", "[I", true)
  | 4 => ("TerminalYard", "kept", "[I", true)
  | 5 => ("TerminalYard", "bought", "[I", true)
  | 6 => ("TerminalYard", "owed", "[[I", true)
  | 7 => ("TerminalYard", "machines", "Ljava/util/ArrayList;", true)
  | 8 => ("TerminalYard", "sessions", "Ljava/util/ArrayList;", true)
  | 9 => ("TerminalYard", "now", "I", false)
  | _ => ("TerminalYard", "chargedForPages", "I", false)
def tyX2 : Nat → FieldType := fun k => match k with
  | 0 => .array .int
  | 1 => .array .int
  | 2 => .array .int
  | 3 => .array .int
  | 4 => .array .int
  | 5 => .array .int
  | 6 => .array (.array .int)
  | 7 => .object "java/util/ArrayList"
  | 8 => .object "java/util/ArrayList"
  | 9 => .int
  | _ => .int
abbrev wsX20 : List Cond := u_ws RX2 TX2 11
theorem nmX2 : ∀ a, a < 11 → ∀ b, b < 11 → a ≠ b → (TX2 a).2.1 ≠ (TX2 b).2.1 := by decide +kernel
theorem tyX2_ok : ∀ k, k < 11 → parseFieldDescriptor (TX2 k).2.2.1 = some (tyX2 k) := by decide +kernel
abbrev cX2_init : ByteArray := prog_1_method_1_code
def yX2_init : MethodName := ⟨RX2, "<init>", "()V"⟩
abbrev cX2_addMachine : ByteArray := prog_1_method_2_code
def yX2_addMachine : MethodName := ⟨RX2, "addMachine", "(III)I"⟩
abbrev cX2_setLimits : ByteArray := prog_1_method_3_code
def yX2_setLimits : MethodName := ⟨RX2, "setLimits", "(III)I"⟩
abbrev cX2_drain : ByteArray := prog_1_method_4_code
def yX2_drain : MethodName := ⟨RX2, "drain", "(I)I"⟩
abbrev cX2_putUp : ByteArray := prog_1_method_5_code
def yX2_putUp : MethodName := ⟨RX2, "putUp", "(I)I"⟩
abbrev cX2_machine : ByteArray := prog_1_method_6_code
def yX2_machine : MethodName := ⟨RX2, "machine", "(I)C"⟩
abbrev cX2_next : ByteArray := prog_1_method_7_code
def yX2_next : MethodName := ⟨RX2, "next", "(I)I"⟩
abbrev cX2_free : ByteArray := prog_1_method_8_code
def yX2_free : MethodName := ⟨RX2, "free", "(I)I"⟩
abbrev cX2_assign : ByteArray := prog_1_method_9_code
def yX2_assign : MethodName := ⟨RX2, "assign", "(II)I"⟩
abbrev cX2_buy : ByteArray := prog_1_method_10_code
def yX2_buy : MethodName := ⟨RX2, "buy", "(II)I"⟩
abbrev cX2_lend : ByteArray := prog_1_method_11_code
def yX2_lend : MethodName := ⟨RX2, "lend", "(III)I"⟩
abbrev cX2_giveBack : ByteArray := prog_1_method_12_code
def yX2_giveBack : MethodName := ⟨RX2, "giveBack", "(III)I"⟩
abbrev cX2_minutes : ByteArray := prog_1_method_13_code
def yX2_minutes : MethodName := ⟨RX2, "minutes", "(I)I"⟩
abbrev cX2_minutesBySessions : ByteArray := prog_1_method_14_code
def yX2_minutesBySessions : MethodName := ⟨RX2, "minutesBySessions", "(I)I"⟩
abbrev cX2_logIn : ByteArray := prog_1_method_15_code
def yX2_logIn : MethodName := ⟨RX2, "logIn", "(II)I"⟩
abbrev cX2_logOut : ByteArray := prog_1_method_16_code
def yX2_logOut : MethodName := ⟨RX2, "logOut", "(I)I"⟩
abbrev cX2_use : ByteArray := prog_1_method_17_code
def yX2_use : MethodName := ⟨RX2, "use", "(I)I"⟩
abbrev cX2_takeOver : ByteArray := prog_1_method_18_code
def yX2_takeOver : MethodName := ⟨RX2, "takeOver", "(II)I"⟩
abbrev cX2_handBack : ByteArray := prog_1_method_19_code
def yX2_handBack : MethodName := ⟨RX2, "handBack", "(I)I"⟩
abbrev cX2_print : ByteArray := prog_1_method_20_code
def yX2_print : MethodName := ⟨RX2, "print", "(II)I"⟩
abbrev cX2_state : ByteArray := prog_1_method_21_code
def yX2_state : MethodName := ⟨RX2, "state", "(I)C"⟩
abbrev cX2_machineOf : ByteArray := prog_1_method_22_code
def yX2_machineOf : MethodName := ⟨RX2, "machineOf", "(I)I"⟩
abbrev cX2_userOf : ByteArray := prog_1_method_23_code
def yX2_userOf : MethodName := ⟨RX2, "userOf", "(I)I"⟩
abbrev cX2_charged : ByteArray := prog_1_method_24_code
def yX2_charged : MethodName := ⟨RX2, "charged", "(II)I"⟩
abbrev cX2_endsIn : ByteArray := prog_1_method_25_code
def yX2_endsIn : MethodName := ⟨RX2, "endsIn", "(I)I"⟩
abbrev cX2_pass : ByteArray := prog_1_method_26_code
def yX2_pass : MethodName := ⟨RX2, "pass", "(I)I"⟩
abbrev cX2_time : ByteArray := prog_1_method_27_code
def yX2_time : MethodName := ⟨RX2, "time", "()I"⟩
abbrev cX2_pageShare : ByteArray := prog_1_method_28_code
def yX2_pageShare : MethodName := ⟨RX2, "pageShare", "()F"⟩
abbrev cX2_meanCharge : ByteArray := prog_1_method_29_code
def yX2_meanCharge : MethodName := ⟨RX2, "meanCharge", "()D"⟩
abbrev cX2_isOutside : ByteArray := prog_1_method_30_code
def yX2_isOutside : MethodName := ⟨RX2, "isOutside", "(III)Z"⟩
abbrev cX2_checkPool : ByteArray := prog_1_method_31_code
def yX2_checkPool : MethodName := ⟨RX2, "checkPool", "(I)V"⟩
abbrev cX2_checkUser : ByteArray := prog_1_method_32_code
def yX2_checkUser : MethodName := ⟨RX2, "checkUser", "(I)V"⟩
abbrev cX2_checkDepartment : ByteArray := prog_1_method_33_code
def yX2_checkDepartment : MethodName := ⟨RX2, "checkDepartment", "(I)V"⟩
abbrev cX2_checkPair : ByteArray := prog_1_method_34_code
def yX2_checkPair : MethodName := ⟨RX2, "checkPair", "(II)V"⟩
abbrev cX2_checkTrade : ByteArray := prog_1_method_35_code
def yX2_checkTrade : MethodName := ⟨RX2, "checkTrade", "(I)V"⟩
abbrev cX2_checkStock : ByteArray := prog_1_method_36_code
def yX2_checkStock : MethodName := ⟨RX2, "checkStock", "(II)V"⟩
abbrev cX2_checkLive : ByteArray := prog_1_method_37_code
def yX2_checkLive : MethodName := ⟨RX2, "checkLive", "(LTerminalYard$Session;)V"⟩
abbrev cX2_machineAt : ByteArray := prog_1_method_38_code
def yX2_machineAt : MethodName := ⟨RX2, "machineAt", "(I)LTerminalYard$Machine;"⟩
abbrev cX2_sessionAt : ByteArray := prog_1_method_39_code
def yX2_sessionAt : MethodName := ⟨RX2, "sessionAt", "(I)LTerminalYard$Session;"⟩
abbrev cX2_liveSessionAt : ByteArray := prog_1_method_40_code
def yX2_liveSessionAt : MethodName := ⟨RX2, "liveSessionAt", "(I)LTerminalYard$Session;"⟩
abbrev cX2_emptiestMachine : ByteArray := prog_1_method_41_code
def yX2_emptiestMachine : MethodName := ⟨RX2, "emptiestMachine", "(I)LTerminalYard$Machine;"⟩
abbrev cX2_ownsLiveSession : ByteArray := prog_1_method_42_code
def yX2_ownsLiveSession : MethodName := ⟨RX2, "ownsLiveSession", "(I)Z"⟩
abbrev cX2_move : ByteArray := prog_1_method_43_code
def yX2_move : MethodName := ⟨RX2, "move", "(III)V"⟩
abbrev cX2_charge : ByteArray := prog_1_method_44_code
def yX2_charge : MethodName := ⟨RX2, "charge", "(LTerminalYard$Session;I)V"⟩
abbrev cX2_passTo : ByteArray := prog_1_method_45_code
def yX2_passTo : MethodName := ⟨RX2, "passTo", "(LTerminalYard$Session;I)I"⟩
abbrev cX2_end : ByteArray := prog_1_method_46_code
def yX2_end : MethodName := ⟨RX2, "end", "(LTerminalYard$Session;C)V"⟩
abbrev cX2_chargeLiveSessions : ByteArray := prog_1_method_47_code
def yX2_chargeLiveSessions : MethodName := ⟨RX2, "chargeLiveSessions", "()I"⟩
abbrev cX2_afterOneMinute : ByteArray := prog_1_method_48_code
def yX2_afterOneMinute : MethodName := ⟨RX2, "afterOneMinute", "(LTerminalYard$Session;)C"⟩
abbrev cX2_chargedToAllSessions : ByteArray := prog_1_method_49_code
def yX2_chargedToAllSessions : MethodName := ⟨RX2, "chargedToAllSessions", "()I"⟩
def RX3 : String := "TerminalYardModel"
def TX3 : u_T := fun k => match k with
  | 0 => ("TerminalYardModel", "thrown", "I", false)
  | 1 => ("TerminalYardModel", "time", "I", false)
  | 2 => ("TerminalYardModel", "idle", "[I", true)
  | 3 => ("TerminalYardModel", "hard", "[I", true)
  | 4 => ("TerminalYardModel", "machines", "I", false)
  | 5 => ("TerminalYardModel", "pool", "[I", true)
  | 6 => ("TerminalYardModel", "room", "[I", true)
  | 7 => ("TerminalYardModel", "seats", "[I", true)
  | 8 => ("TerminalYardModel", "how", "[C", true)
  | 9 => ("TerminalYardModel", "minutes", "[I", true)
  | 10 => ("TerminalYardModel", "owes", "[I", true)
  | 11 => ("TerminalYardModel", "departmentOf", "[I", true)
  | 12 => ("TerminalYardModel", "sessions", "I", false)
  | 13 => ("TerminalYardModel", "owner", "[I", true)
  | 14 => ("TerminalYardModel", "user", "[I", true)
  | 15 => ("TerminalYardModel", "machineOf", "[I", true)
  | 16 => ("TerminalYardModel", "began", "[I", true)
  | 17 => ("TerminalYardModel", "used", "[I", true)
  | 18 => ("TerminalYardModel", "charged", "[I", true)
  | 19 => ("TerminalYardModel", "ended", "[C", true)
  | 20 => ("TerminalYardModel", "printed", "[I", true)
  | 21 => ("TerminalYardModel", "pageMinutes", "I", false)
  | _ => ("TerminalYardModel", "allMinutes", "I", false)
def tyX3 : Nat → FieldType := fun k => match k with
  | 0 => .int
  | 1 => .int
  | 2 => .array .int
  | 3 => .array .int
  | 4 => .int
  | 5 => .array .int
  | 6 => .array .int
  | 7 => .array .int
  | 8 => .array .char
  | 9 => .array .int
  | 10 => .array .int
  | 11 => .array .int
  | 12 => .int
  | 13 => .array .int
  | 14 => .array .int
  | 15 => .array .int
  | 16 => .array .int
  | 17 => .array .int
  | 18 => .array .int
  | 19 => .array .char
  | 20 => .array .int
  | 21 => .int
  | _ => .int
abbrev wsX30 : List Cond := u_ws RX3 TX3 23
theorem nmX3 : ∀ a, a < 23 → ∀ b, b < 23 → a ≠ b → (TX3 a).2.1 ≠ (TX3 b).2.1 := by decide +kernel
theorem tyX3_ok : ∀ k, k < 23 → parseFieldDescriptor (TX3 k).2.2.1 = some (tyX3 k) := by decide +kernel
abbrev cX3_init : ByteArray := prog_5_method_1_code
def yX3_init : MethodName := ⟨RX3, "<init>", "()V"⟩
abbrev cX3_thrown : ByteArray := prog_5_method_2_code
def yX3_thrown : MethodName := ⟨RX3, "thrown", "()I"⟩
abbrev cX3_in : ByteArray := prog_5_method_3_code
def yX3_in : MethodName := ⟨RX3, "in", "(III)Z"⟩
abbrev cX3_goesOn : ByteArray := prog_5_method_4_code
def yX3_goesOn : MethodName := ⟨RX3, "goesOn", "(I)Z"⟩
abbrev cX3_isPool : ByteArray := prog_5_method_5_code
def yX3_isPool : MethodName := ⟨RX3, "isPool", "(I)Z"⟩
abbrev cX3_isDepartment : ByteArray := prog_5_method_6_code
def yX3_isDepartment : MethodName := ⟨RX3, "isDepartment", "(I)Z"⟩
abbrev cX3_isUser : ByteArray := prog_5_method_7_code
def yX3_isUser : MethodName := ⟨RX3, "isUser", "(I)Z"⟩
abbrev cX3_isMachine : ByteArray := prog_5_method_8_code
def yX3_isMachine : MethodName := ⟨RX3, "isMachine", "(I)Z"⟩
abbrev cX3_isSession : ByteArray := prog_5_method_9_code
def yX3_isSession : MethodName := ⟨RX3, "isSession", "(I)Z"⟩
abbrev cX3_isLive : ByteArray := prog_5_method_10_code
def yX3_isLive : MethodName := ⟨RX3, "isLive", "(I)Z"⟩
abbrev cX3_liveOn : ByteArray := prog_5_method_11_code
def yX3_liveOn : MethodName := ⟨RX3, "liveOn", "(I)I"⟩
abbrev cX3_addMachine : ByteArray := prog_5_method_12_code
def yX3_addMachine : MethodName := ⟨RX3, "addMachine", "(III)I"⟩
abbrev cX3_setLimits : ByteArray := prog_5_method_13_code
def yX3_setLimits : MethodName := ⟨RX3, "setLimits", "(III)I"⟩
abbrev cX3_empties : ByteArray := prog_5_method_14_code
def yX3_empties : MethodName := ⟨RX3, "empties", "()V"⟩
abbrev cX3_drain : ByteArray := prog_5_method_15_code
def yX3_drain : MethodName := ⟨RX3, "drain", "(I)I"⟩
abbrev cX3_putUp : ByteArray := prog_5_method_16_code
def yX3_putUp : MethodName := ⟨RX3, "putUp", "(I)I"⟩
abbrev cX3_machine : ByteArray := prog_5_method_17_code
def yX3_machine : MethodName := ⟨RX3, "machine", "(I)C"⟩
abbrev cX3_nextIn : ByteArray := prog_5_method_18_code
def yX3_nextIn : MethodName := ⟨RX3, "nextIn", "(I)I"⟩
abbrev cX3_next : ByteArray := prog_5_method_19_code
def yX3_next : MethodName := ⟨RX3, "next", "(I)I"⟩
abbrev cX3_free : ByteArray := prog_5_method_20_code
def yX3_free : MethodName := ⟨RX3, "free", "(I)I"⟩
abbrev cX3_assign : ByteArray := prog_5_method_21_code
def yX3_assign : MethodName := ⟨RX3, "assign", "(II)I"⟩
abbrev cX3_buy : ByteArray := prog_5_method_22_code
def yX3_buy : MethodName := ⟨RX3, "buy", "(II)I"⟩
abbrev cX3_areTwo : ByteArray := prog_5_method_23_code
def yX3_areTwo : MethodName := ⟨RX3, "areTwo", "(III)Z"⟩
abbrev cX3_lend : ByteArray := prog_5_method_24_code
def yX3_lend : MethodName := ⟨RX3, "lend", "(III)I"⟩
abbrev cX3_giveBack : ByteArray := prog_5_method_25_code
def yX3_giveBack : MethodName := ⟨RX3, "giveBack", "(III)I"⟩
abbrev cX3_minutes : ByteArray := prog_5_method_26_code
def yX3_minutes : MethodName := ⟨RX3, "minutes", "(I)I"⟩
abbrev cX3_minutesBySessions : ByteArray := prog_5_method_27_code
def yX3_minutesBySessions : MethodName := ⟨RX3, "minutesBySessions", "(I)I"⟩
abbrev cX3_owns : ByteArray := prog_5_method_28_code
def yX3_owns : MethodName := ⟨RX3, "owns", "(I)Z"⟩
abbrev cX3_logIn : ByteArray := prog_5_method_29_code
def yX3_logIn : MethodName := ⟨RX3, "logIn", "(II)I"⟩
abbrev cX3_chargedTo : ByteArray := prog_5_method_30_code
def yX3_chargedTo : MethodName := ⟨RX3, "chargedTo", "(I)I"⟩
abbrev cX3_liveFault : ByteArray := prog_5_method_31_code
def yX3_liveFault : MethodName := ⟨RX3, "liveFault", "(I)I"⟩
abbrev cX3_logOut : ByteArray := prog_5_method_32_code
def yX3_logOut : MethodName := ⟨RX3, "logOut", "(I)I"⟩
abbrev cX3_use : ByteArray := prog_5_method_33_code
def yX3_use : MethodName := ⟨RX3, "use", "(I)I"⟩
abbrev cX3_takeOver : ByteArray := prog_5_method_34_code
def yX3_takeOver : MethodName := ⟨RX3, "takeOver", "(II)I"⟩
abbrev cX3_handBack : ByteArray := prog_5_method_35_code
def yX3_handBack : MethodName := ⟨RX3, "handBack", "(I)I"⟩
abbrev cX3_charges : ByteArray := prog_5_method_36_code
def yX3_charges : MethodName := ⟨RX3, "charges", "(II)V"⟩
abbrev cX3_print : ByteArray := prog_5_method_37_code
def yX3_print : MethodName := ⟨RX3, "print", "(II)I"⟩
abbrev cX3_state : ByteArray := prog_5_method_38_code
def yX3_state : MethodName := ⟨RX3, "state", "(I)C"⟩
abbrev cX3_machineOf : ByteArray := prog_5_method_39_code
def yX3_machineOf : MethodName := ⟨RX3, "machineOf", "(I)I"⟩
abbrev cX3_userOf : ByteArray := prog_5_method_40_code
def yX3_userOf : MethodName := ⟨RX3, "userOf", "(I)I"⟩
abbrev cX3_charged : ByteArray := prog_5_method_41_code
def yX3_charged : MethodName := ⟨RX3, "charged", "(II)I"⟩
abbrev cX3_endsIn : ByteArray := prog_5_method_42_code
def yX3_endsIn : MethodName := ⟨RX3, "endsIn", "(I)I"⟩
abbrev cX3_passes : ByteArray := prog_5_method_43_code
def yX3_passes : MethodName := ⟨RX3, "passes", "(I)Z"⟩
abbrev cX3_pass : ByteArray := prog_5_method_44_code
def yX3_pass : MethodName := ⟨RX3, "pass", "(I)I"⟩
abbrev cX3_time : ByteArray := prog_5_method_45_code
def yX3_time : MethodName := ⟨RX3, "time", "()I"⟩
abbrev cX3_pageShare : ByteArray := prog_5_method_46_code
def yX3_pageShare : MethodName := ⟨RX3, "pageShare", "()F"⟩
abbrev cX3_meanCharge : ByteArray := prog_5_method_47_code
def yX3_meanCharge : MethodName := ⟨RX3, "meanCharge", "()D"⟩
def RJx145de : String := "java/io/Serializable"
def TJx145de : u_T := fun k => match k with
  | _ => ("", "", "", false)
def tyJx145de : Nat → FieldType := fun k => match k with
  | _ => .int
abbrev wsJx145de0 : List Cond := u_ws RJx145de TJx145de 0
theorem nmJx145de : ∀ a, a < 0 → ∀ b, b < 0 → a ≠ b → (TJx145de a).2.1 ≠ (TJx145de b).2.1 := by decide +kernel
theorem tyJx145de_ok : ∀ k, k < 0 → parseFieldDescriptor (TJx145de k).2.2.1 = some (tyJx145de k) := by decide +kernel
def RJx00060 : String := "java/lang/ArrayIndexOutOfBoundsException"
def TJx00060 : u_T := fun k => match k with
  | 0 => ("java/lang/Throwable", "backtrace", "Ljava/lang/Object;", false)
  | 1 => ("java/lang/Throwable", "detailMessage", "Ljava/lang/String;", false)
  | 2 => ("java/lang/Throwable", "cause", "Ljava/lang/Throwable;", false)
  | 3 => ("java/lang/Throwable", "stackTrace", "[Ljava/lang/StackTraceElement;", false)
  | 4 => ("java/lang/Throwable", "depth", "I", false)
  | _ => ("java/lang/Throwable", "suppressedExceptions", "Ljava/util/List;", false)
def tyJx00060 : Nat → FieldType := fun k => match k with
  | 0 => .object "java/lang/Object"
  | 1 => .object "java/lang/String"
  | 2 => .object "java/lang/Throwable"
  | 3 => .array (.object "java/lang/StackTraceElement")
  | 4 => .int
  | _ => .object "java/util/List"
abbrev wsJx000600 : List Cond := u_ws RJx00060 TJx00060 6
theorem nmJx00060 : ∀ a, a < 6 → ∀ b, b < 6 → a ≠ b → (TJx00060 a).2.1 ≠ (TJx00060 b).2.1 := by decide +kernel
theorem tyJx00060_ok : ∀ k, k < 6 → parseFieldDescriptor (TJx00060 k).2.2.1 = some (tyJx00060 k) := by decide +kernel
abbrev cJx00060_init_a7421 : ByteArray := prog_8_method_2_code
def yJx00060_init_a7421 : MethodName := ⟨RJx00060, "<init>", "(Ljava/lang/String;)V"⟩
def RJx8e188 : String := "java/lang/Cloneable"
def TJx8e188 : u_T := fun k => match k with
  | _ => ("", "", "", false)
def tyJx8e188 : Nat → FieldType := fun k => match k with
  | _ => .int
abbrev wsJx8e1880 : List Cond := u_ws RJx8e188 TJx8e188 0
theorem nmJx8e188 : ∀ a, a < 0 → ∀ b, b < 0 → a ≠ b → (TJx8e188 a).2.1 ≠ (TJx8e188 b).2.1 := by decide +kernel
theorem tyJx8e188_ok : ∀ k, k < 0 → parseFieldDescriptor (TJx8e188 k).2.2.1 = some (tyJx8e188 k) := by decide +kernel
def RJxab1ab : String := "java/lang/Iterable"
def TJxab1ab : u_T := fun k => match k with
  | _ => ("", "", "", false)
def tyJxab1ab : Nat → FieldType := fun k => match k with
  | _ => .int
abbrev wsJxab1ab0 : List Cond := u_ws RJxab1ab TJxab1ab 0
theorem nmJxab1ab : ∀ a, a < 0 → ∀ b, b < 0 → a ≠ b → (TJxab1ab a).2.1 ≠ (TJxab1ab b).2.1 := by decide +kernel
theorem tyJxab1ab_ok : ∀ k, k < 0 → parseFieldDescriptor (TJxab1ab k).2.2.1 = some (tyJxab1ab k) := by decide +kernel
def RJ9 : String := "java/lang/Math"
def TJ9 : u_T := fun k => match k with
  | _ => ("", "", "", false)
def tyJ9 : Nat → FieldType := fun k => match k with
  | _ => .int
abbrev wsJ90 : List Cond := u_ws RJ9 TJ9 0
theorem nmJ9 : ∀ a, a < 0 → ∀ b, b < 0 → a ≠ b → (TJ9 a).2.1 ≠ (TJ9 b).2.1 := by decide +kernel
theorem tyJ9_ok : ∀ k, k < 0 → parseFieldDescriptor (TJ9 k).2.2.1 = some (tyJ9 k) := by decide +kernel
abbrev cJ9_max_7cf53 : ByteArray := prog_15_method_65_code
def yJ9_max_7cf53 : MethodName := ⟨RJ9, "max", "(II)I"⟩
abbrev cJ9_min_7cf53 : ByteArray := prog_15_method_69_code
def yJ9_min_7cf53 : MethodName := ⟨RJ9, "min", "(II)I"⟩
def RJ0 : String := "java/lang/String"
def TJ0 : u_T := fun k => match k with
  | 0 => ("java/lang/String", "value", "[B", true)
  | _ => ("java/lang/String", "coder", "B", true)
def tyJ0 : Nat → FieldType := fun k => match k with
  | 0 => .array .byte
  | _ => .byte
abbrev wsJ00 : List Cond := u_ws RJ0 TJ0 2
theorem nmJ0 : ∀ a, a < 2 → ∀ b, b < 2 → a ≠ b → (TJ0 a).2.1 ≠ (TJ0 b).2.1 := by decide +kernel
theorem tyJ0_ok : ∀ k, k < 2 → parseFieldDescriptor (TJ0 k).2.2.1 = some (tyJ0 k) := by decide +kernel
def RJ10 : String := "java/lang/System"
def TJ10 : u_T := fun k => match k with
  | _ => ("", "", "", false)
def tyJ10 : Nat → FieldType := fun k => match k with
  | _ => .int
abbrev wsJ100 : List Cond := u_ws RJ10 TJ10 0
theorem nmJ10 : ∀ a, a < 0 → ∀ b, b < 0 → a ≠ b → (TJ10 a).2.1 ≠ (TJ10 b).2.1 := by decide +kernel
theorem tyJ10_ok : ∀ k, k < 0 → parseFieldDescriptor (TJ10 k).2.2.1 = some (tyJ10 k) := by decide +kernel
def RJxa1e45 : String := "java/util/AbstractCollection"
def TJxa1e45 : u_T := fun k => match k with
  | _ => ("", "", "", false)
def tyJxa1e45 : Nat → FieldType := fun k => match k with
  | _ => .int
abbrev wsJxa1e450 : List Cond := u_ws RJxa1e45 TJxa1e45 0
theorem nmJxa1e45 : ∀ a, a < 0 → ∀ b, b < 0 → a ≠ b → (TJxa1e45 a).2.1 ≠ (TJxa1e45 b).2.1 := by decide +kernel
theorem tyJxa1e45_ok : ∀ k, k < 0 → parseFieldDescriptor (TJxa1e45 k).2.2.1 = some (tyJxa1e45 k) := by decide +kernel
abbrev cJxa1e45_init_da8c8 : ByteArray := prog_21_method_1_code
def yJxa1e45_init_da8c8 : MethodName := ⟨RJxa1e45, "<init>", "()V"⟩
def RJxc12de : String := "java/util/AbstractList"
def TJxc12de : u_T := fun k => match k with
  | _ => ("", "", "", false)
def tyJxc12de : Nat → FieldType := fun k => match k with
  | _ => .int
abbrev wsJxc12de0 : List Cond := u_ws RJxc12de TJxc12de 0
theorem nmJxc12de : ∀ a, a < 0 → ∀ b, b < 0 → a ≠ b → (TJxc12de a).2.1 ≠ (TJxc12de b).2.1 := by decide +kernel
theorem tyJxc12de_ok : ∀ k, k < 0 → parseFieldDescriptor (TJxc12de k).2.2.1 = some (tyJxc12de k) := by decide +kernel
abbrev cJxc12de_init_da8c8 : ByteArray := prog_22_method_1_code
def yJxc12de_init_da8c8 : MethodName := ⟨RJxc12de, "<init>", "()V"⟩
def RJx4a65c : String := "java/util/ArrayList"
def TJx4a65c : u_T := fun k => match k with
  | 0 => ("java/util/AbstractList", "modCount", "I", false)
  | 1 => ("java/util/ArrayList", "elementData", "[Ljava/lang/Object;", false)
  | _ => ("java/util/ArrayList", "size", "I", false)
def tyJx4a65c : Nat → FieldType := fun k => match k with
  | 0 => .int
  | 1 => .array (.object "java/lang/Object")
  | _ => .int
abbrev wsJx4a65c0 : List Cond := u_ws RJx4a65c TJx4a65c 3
theorem nmJx4a65c : ∀ a, a < 3 → ∀ b, b < 3 → a ≠ b → (TJx4a65c a).2.1 ≠ (TJx4a65c b).2.1 := by decide +kernel
theorem tyJx4a65c_ok : ∀ k, k < 3 → parseFieldDescriptor (TJx4a65c k).2.2.1 = some (tyJx4a65c k) := by decide +kernel
abbrev cJx4a65c_init_da8c8 : ByteArray := prog_23_method_2_code
def yJx4a65c_init_da8c8 : MethodName := ⟨RJx4a65c, "<init>", "()V"⟩
abbrev cJx4a65c_grow_92f84 : ByteArray := prog_23_method_6_code
def yJx4a65c_grow_92f84 : MethodName := ⟨RJx4a65c, "grow", "(I)[Ljava/lang/Object;"⟩
abbrev cJx4a65c_grow_d5877 : ByteArray := prog_23_method_7_code
def yJx4a65c_grow_d5877 : MethodName := ⟨RJx4a65c, "grow", "()[Ljava/lang/Object;"⟩
abbrev cJx4a65c_size_8abf5 : ByteArray := prog_23_method_8_code
def yJx4a65c_size_8abf5 : MethodName := ⟨RJx4a65c, "size", "()I"⟩
abbrev cJx4a65c_elementData_915e3 : ByteArray := prog_23_method_18_code
def yJx4a65c_elementData_915e3 : MethodName := ⟨RJx4a65c, "elementData", "(I)Ljava/lang/Object;"⟩
abbrev cJx4a65c_get_915e3 : ByteArray := prog_23_method_20_code
def yJx4a65c_get_915e3 : MethodName := ⟨RJx4a65c, "get", "(I)Ljava/lang/Object;"⟩
abbrev cJx4a65c_add_72be8 : ByteArray := prog_23_method_24_code
def yJx4a65c_add_72be8 : MethodName := ⟨RJx4a65c, "add", "(Ljava/lang/Object;[Ljava/lang/Object;I)V"⟩
abbrev cJx4a65c_add_9ea2d : ByteArray := prog_23_method_25_code
def yJx4a65c_add_9ea2d : MethodName := ⟨RJx4a65c, "add", "(Ljava/lang/Object;)Z"⟩
def RJ7 : String := "java/util/Arrays"
def TJ7 : u_T := fun k => match k with
  | _ => ("", "", "", false)
def tyJ7 : Nat → FieldType := fun k => match k with
  | _ => .int
abbrev wsJ70 : List Cond := u_ws RJ7 TJ7 0
theorem nmJ7 : ∀ a, a < 0 → ∀ b, b < 0 → a ≠ b → (TJ7 a).2.1 ≠ (TJ7 b).2.1 := by decide +kernel
theorem tyJ7_ok : ∀ k, k < 0 → parseFieldDescriptor (TJ7 k).2.2.1 = some (tyJ7 k) := by decide +kernel
abbrev cJ7_copyOf_1904c : ByteArray := prog_24_method_119_code
def yJ7_copyOf_1904c : MethodName := ⟨RJ7, "copyOf", "([Ljava/lang/Object;I)[Ljava/lang/Object;"⟩
abbrev cJ7_copyOf_6403c : ByteArray := prog_24_method_120_code
def yJ7_copyOf_6403c : MethodName := ⟨RJ7, "copyOf", "([Ljava/lang/Object;ILjava/lang/Class;)[Ljava/lang/Object;"⟩
def RJx5ef63 : String := "java/util/Collection"
def TJx5ef63 : u_T := fun k => match k with
  | _ => ("", "", "", false)
def tyJx5ef63 : Nat → FieldType := fun k => match k with
  | _ => .int
abbrev wsJx5ef630 : List Cond := u_ws RJx5ef63 TJx5ef63 0
theorem nmJx5ef63 : ∀ a, a < 0 → ∀ b, b < 0 → a ≠ b → (TJx5ef63 a).2.1 ≠ (TJx5ef63 b).2.1 := by decide +kernel
theorem tyJx5ef63_ok : ∀ k, k < 0 → parseFieldDescriptor (TJx5ef63 k).2.2.1 = some (tyJx5ef63 k) := by decide +kernel
def RJxbd725 : String := "java/util/List"
def TJxbd725 : u_T := fun k => match k with
  | _ => ("", "", "", false)
def tyJxbd725 : Nat → FieldType := fun k => match k with
  | _ => .int
abbrev wsJxbd7250 : List Cond := u_ws RJxbd725 TJxbd725 0
theorem nmJxbd725 : ∀ a, a < 0 → ∀ b, b < 0 → a ≠ b → (TJxbd725 a).2.1 ≠ (TJxbd725 b).2.1 := by decide +kernel
theorem tyJxbd725_ok : ∀ k, k < 0 → parseFieldDescriptor (TJxbd725 k).2.2.1 = some (tyJxbd725 k) := by decide +kernel
def RJ15 : String := "java/util/Objects"
def TJ15 : u_T := fun k => match k with
  | _ => ("", "", "", false)
def tyJ15 : Nat → FieldType := fun k => match k with
  | _ => .int
abbrev wsJ150 : List Cond := u_ws RJ15 TJ15 0
theorem nmJ15 : ∀ a, a < 0 → ∀ b, b < 0 → a ≠ b → (TJ15 a).2.1 ≠ (TJ15 b).2.1 := by decide +kernel
theorem tyJ15_ok : ∀ k, k < 0 → parseFieldDescriptor (TJ15 k).2.2.1 = some (tyJ15 k) := by decide +kernel
abbrev cJ15_checkIndex_7cf53 : ByteArray := prog_28_method_17_code
def yJ15_checkIndex_7cf53 : MethodName := ⟨RJ15, "checkIndex", "(II)I"⟩
def RJxf0a74 : String := "java/util/RandomAccess"
def TJxf0a74 : u_T := fun k => match k with
  | _ => ("", "", "", false)
def tyJxf0a74 : Nat → FieldType := fun k => match k with
  | _ => .int
abbrev wsJxf0a740 : List Cond := u_ws RJxf0a74 TJxf0a74 0
theorem nmJxf0a74 : ∀ a, a < 0 → ∀ b, b < 0 → a ≠ b → (TJxf0a74 a).2.1 ≠ (TJxf0a74 b).2.1 := by decide +kernel
theorem tyJxf0a74_ok : ∀ k, k < 0 → parseFieldDescriptor (TJxf0a74 k).2.2.1 = some (tyJxf0a74 k) := by decide +kernel
def RJxa66e6 : String := "java/util/SequencedCollection"
def TJxa66e6 : u_T := fun k => match k with
  | _ => ("", "", "", false)
def tyJxa66e6 : Nat → FieldType := fun k => match k with
  | _ => .int
abbrev wsJxa66e60 : List Cond := u_ws RJxa66e6 TJxa66e6 0
theorem nmJxa66e6 : ∀ a, a < 0 → ∀ b, b < 0 → a ≠ b → (TJxa66e6 a).2.1 ≠ (TJxa66e6 b).2.1 := by decide +kernel
theorem tyJxa66e6_ok : ∀ k, k < 0 → parseFieldDescriptor (TJxa66e6 k).2.2.1 = some (tyJxa66e6 k) := by decide +kernel
def RJ8 : String := "jdk/internal/util/ArraysSupport"
def TJ8 : u_T := fun k => match k with
  | _ => ("", "", "", false)
def tyJ8 : Nat → FieldType := fun k => match k with
  | _ => .int
abbrev wsJ80 : List Cond := u_ws RJ8 TJ8 0
theorem nmJ8 : ∀ a, a < 0 → ∀ b, b < 0 → a ≠ b → (TJ8 a).2.1 ≠ (TJ8 b).2.1 := by decide +kernel
theorem tyJ8_ok : ∀ k, k < 0 → parseFieldDescriptor (TJ8 k).2.2.1 = some (tyJ8 k) := by decide +kernel
abbrev cJ8_newLength_cabcc : ByteArray := prog_31_method_27_code
def yJ8_newLength_cabcc : MethodName := ⟨RJ8, "newLength", "(III)I"⟩
abbrev cJ8_hugeLength_7cf53 : ByteArray := prog_31_method_28_code
def yJ8_hugeLength_7cf53 : MethodName := ⟨RJ8, "hugeLength", "(II)I"⟩
def RJ3 : String := "jdk/internal/util/Preconditions"
def TJ3 : u_T := fun k => match k with
  | _ => ("", "", "", false)
def tyJ3 : Nat → FieldType := fun k => match k with
  | _ => .int
abbrev wsJ30 : List Cond := u_ws RJ3 TJ3 0
theorem nmJ3 : ∀ a, a < 0 → ∀ b, b < 0 → a ≠ b → (TJ3 a).2.1 ≠ (TJ3 b).2.1 := by decide +kernel
theorem tyJ3_ok : ∀ k, k < 0 → parseFieldDescriptor (TJ3 k).2.2.1 = some (tyJ3 k) := by decide +kernel
abbrev cJ3_checkIndex_8e157 : ByteArray := prog_32_method_11_code
def yJ3_checkIndex_8e157 : MethodName := ⟨RJ3, "checkIndex", "(IILjava/util/function/BiFunction;)I"⟩
def RL : String := "TerminalYardLaw"
abbrev cL_addMachine : ByteArray := method_3_code
def yL_addMachine : MethodName := ⟨RL, "addMachine", "(LTerminalYard;III[J)I"⟩
abbrev cL_setLimits : ByteArray := method_4_code
def yL_setLimits : MethodName := ⟨RL, "setLimits", "(LTerminalYard;III[J)I"⟩
abbrev cL_drain : ByteArray := method_5_code
def yL_drain : MethodName := ⟨RL, "drain", "(LTerminalYard;I[J)I"⟩
abbrev cL_putUp : ByteArray := method_6_code
def yL_putUp : MethodName := ⟨RL, "putUp", "(LTerminalYard;I[J)I"⟩
abbrev cL_machine : ByteArray := method_7_code
def yL_machine : MethodName := ⟨RL, "machine", "(LTerminalYard;I[J)I"⟩
abbrev cL_next : ByteArray := method_8_code
def yL_next : MethodName := ⟨RL, "next", "(LTerminalYard;I[J)I"⟩
abbrev cL_free : ByteArray := method_9_code
def yL_free : MethodName := ⟨RL, "free", "(LTerminalYard;I[J)I"⟩
abbrev cL_assign : ByteArray := method_10_code
def yL_assign : MethodName := ⟨RL, "assign", "(LTerminalYard;II[J)I"⟩
abbrev cL_buy : ByteArray := method_11_code
def yL_buy : MethodName := ⟨RL, "buy", "(LTerminalYard;II[J)I"⟩
abbrev cL_lend : ByteArray := method_12_code
def yL_lend : MethodName := ⟨RL, "lend", "(LTerminalYard;III[J)I"⟩
abbrev cL_giveBack : ByteArray := method_13_code
def yL_giveBack : MethodName := ⟨RL, "giveBack", "(LTerminalYard;III[J)I"⟩
abbrev cL_minutes : ByteArray := method_14_code
def yL_minutes : MethodName := ⟨RL, "minutes", "(LTerminalYard;I[J)I"⟩
abbrev cL_minutesBySessions : ByteArray := method_15_code
def yL_minutesBySessions : MethodName := ⟨RL, "minutesBySessions", "(LTerminalYard;I[J)I"⟩
abbrev cL_logIn : ByteArray := method_16_code
def yL_logIn : MethodName := ⟨RL, "logIn", "(LTerminalYard;II[J)I"⟩
abbrev cL_logOut : ByteArray := method_17_code
def yL_logOut : MethodName := ⟨RL, "logOut", "(LTerminalYard;I[J)I"⟩
abbrev cL_use : ByteArray := method_18_code
def yL_use : MethodName := ⟨RL, "use", "(LTerminalYard;I[J)I"⟩
abbrev cL_takeOver : ByteArray := method_19_code
def yL_takeOver : MethodName := ⟨RL, "takeOver", "(LTerminalYard;II[J)I"⟩
abbrev cL_handBack : ByteArray := method_20_code
def yL_handBack : MethodName := ⟨RL, "handBack", "(LTerminalYard;I[J)I"⟩
abbrev cL_print : ByteArray := method_21_code
def yL_print : MethodName := ⟨RL, "print", "(LTerminalYard;II[J)I"⟩
abbrev cL_state : ByteArray := method_22_code
def yL_state : MethodName := ⟨RL, "state", "(LTerminalYard;I[J)I"⟩
abbrev cL_machineOf : ByteArray := method_23_code
def yL_machineOf : MethodName := ⟨RL, "machineOf", "(LTerminalYard;I[J)I"⟩
abbrev cL_userOf : ByteArray := method_24_code
def yL_userOf : MethodName := ⟨RL, "userOf", "(LTerminalYard;I[J)I"⟩
abbrev cL_charged : ByteArray := method_25_code
def yL_charged : MethodName := ⟨RL, "charged", "(LTerminalYard;II[J)I"⟩
abbrev cL_endsIn : ByteArray := method_26_code
def yL_endsIn : MethodName := ⟨RL, "endsIn", "(LTerminalYard;I[J)I"⟩
abbrev cL_pass : ByteArray := method_27_code
def yL_pass : MethodName := ⟨RL, "pass", "(LTerminalYard;I[J)I"⟩
abbrev cL_pageShare : ByteArray := method_28_code
def yL_pageShare : MethodName := ⟨RL, "pageShare", "(LTerminalYard;[D)I"⟩
abbrev cL_meanCharge : ByteArray := method_29_code
def yL_meanCharge : MethodName := ⟨RL, "meanCharge", "(LTerminalYard;[D)I"⟩
abbrev cL_law : ByteArray := code
def yL_law : MethodName := ⟨RL, "law", "([I)Z"⟩
def wsX0_init : List Cond := .code yX0_init cX0_init 5 none :: ([.methodLink RX0 3 objectInit, .instanceMethod objectInit, .code objectInit ⟨#[0xb1]⟩ 1 none, .fieldLink RX0 9 "TerminalYard$Machine" "condition" "C", .fieldLink RX0 15 "TerminalYard$Machine" "live" "I", .fieldLink RX0 19 "TerminalYard$Machine" "number" "I", .fieldLink RX0 22 "TerminalYard$Machine" "pool" "I", .fieldLink RX0 25 "TerminalYard$Machine" "room" "I", .fieldLink RX0 28 "TerminalYard$Machine" "seats" "I"] ++ wsX00)
def wsX0_freeSeats : List Cond := .code yX0_freeSeats cX0_freeSeats 1 (some .int) :: ([.fieldLink RX0 28 "TerminalYard$Machine" "seats" "I", .fieldLink RX0 15 "TerminalYard$Machine" "live" "I"] ++ wsX00)
def wsX0_serves : List Cond := .code yX0_serves cX0_serves 2 (some .boolean) :: ([.fieldLink RX0 9 "TerminalYard$Machine" "condition" "C", .fieldLink RX0 22 "TerminalYard$Machine" "pool" "I"] ++ wsX00)
def wsX0_repairWhenEmpty : List Cond := .code yX0_repairWhenEmpty cX0_repairWhenEmpty 1 none :: ([.fieldLink RX0 9 "TerminalYard$Machine" "condition" "C", .fieldLink RX0 15 "TerminalYard$Machine" "live" "I"] ++ wsX00)
def wsX1_init : List Cond := .code yX1_init cX1_init 4 none :: ([.methodLink RX1 3 objectInit, .instanceMethod objectInit, .code objectInit ⟨#[0xb1]⟩ 1 none, .arrayClass .int, .fieldLink RX1 9 "TerminalYard$Session" "chargedFrom" "[I", .fieldLink RX1 15 "TerminalYard$Session" "condition" "C", .fieldLink RX1 19 "TerminalYard$Session" "owner" "I", .fieldLink RX1 23 "TerminalYard$Session" "host" "LTerminalYard$Machine;", .fieldLink RX1 27 "TerminalYard$Session" "began" "I", .fieldLink RX1 30 "TerminalYard$Session" "holder" "I", .fieldLink RX1 33 "TerminalYard$Session" "usedLast" "I"] ++ wsX10)
def wsX1_isLive : List Cond := .code yX1_isLive cX1_isLive 1 (some .boolean) :: ([.fieldLink RX1 15 "TerminalYard$Session" "condition" "C"] ++ wsX10)
def wsX1_chargedInAll : List Cond := .code yX1_chargedInAll cX1_chargedInAll 3 (some .int) :: ([.fieldLink RX1 9 "TerminalYard$Session" "chargedFrom" "[I"] ++ wsX10 ++ (vx_atM "java/lang/ArrayIndexOutOfBoundsException" ["java/lang/IndexOutOfBoundsException", "java/lang/RuntimeException", "java/lang/Exception"]).filter goodWord)
def wsJxa1e45_init_da8c8 : List Cond := .code yJxa1e45_init_da8c8 cJxa1e45_init_da8c8 1 none :: ([.methodLink RJxa1e45 1 objectInit, .instanceMethod objectInit, .code objectInit ⟨#[0xb1]⟩ 1 none])
def wsJxc12de_init_da8c8 : List Cond := .code yJxc12de_init_da8c8 cJxc12de_init_da8c8 1 none :: ([.fieldLink RJxc12de 7 "java/util/AbstractList" "modCount" "I", .methodLink RJxc12de 1 yJxa1e45_init_da8c8, .instanceMethod yJxa1e45_init_da8c8, .initialized RJxa1e45, .code yJxa1e45_init_da8c8 cJxa1e45_init_da8c8 1 none, .methodLink RJxa1e45 1 objectInit, .instanceMethod objectInit, .code objectInit ⟨#[0xb1]⟩ 1 none] ++ wsJx4a65c0)
def wsJx4a65c_init_da8c8 : List Cond := .code yJx4a65c_init_da8c8 cJx4a65c_init_da8c8 1 none :: ([.fieldLink RJx4a65c 39 "java/util/ArrayList" "DEFAULTCAPACITY_EMPTY_ELEMENTDATA" "[Ljava/lang/Object;", .fieldLink RJx4a65c 9 "java/util/ArrayList" "elementData" "[Ljava/lang/Object;", .methodLink RJx4a65c 1 yJxc12de_init_da8c8, .instanceMethod yJxc12de_init_da8c8, .initialized RJxc12de, .code yJxc12de_init_da8c8 cJxc12de_init_da8c8 1 none, .fieldLink RJxc12de 7 "java/util/AbstractList" "modCount" "I", .methodLink RJxc12de 1 yJxa1e45_init_da8c8, .instanceMethod yJxa1e45_init_da8c8, .initialized RJxa1e45, .code yJxa1e45_init_da8c8 cJxa1e45_init_da8c8 1 none, .methodLink RJxa1e45 1 objectInit, .instanceMethod objectInit, .code objectInit ⟨#[0xb1]⟩ 1 none] ++ wsJx4a65c0)
def wsX2_init_r1 : List Cond := [Cond.methodLink RX2 1 objectInit, Cond.instanceMethod objectInit, Cond.code objectInit ⟨#[0xb1]⟩ 1 none, Cond.arrayClass .int, Cond.fieldLink RX2 9 "TerminalYard" "idleLimits" "[I", Cond.fieldLink RX2 13 "TerminalYard" "hardLimits" "[I", Cond.fieldLink RX2 16 "TerminalYard" "pagesInRoom" "[I", Cond.fieldLink RX2 19 "TerminalYard" "departmentOf" "[I", Cond.fieldLink RX2 22 "TerminalYard" "kept" "[I", Cond.fieldLink RX2 25 "TerminalYard" "bought" "[I", Cond.classLink RX2 28 "[[I", Cond.fieldLink RX2 30 "TerminalYard" "owed" "[[I", Cond.classLink RX2 33 RJx4a65c, Cond.instantiable RJx4a65c 3, Cond.initialized RJx4a65c, Cond.fieldLink RX2 36 "TerminalYard" "machines" "Ljava/util/ArrayList;", Cond.fieldLink RX2 40 "TerminalYard" "sessions" "Ljava/util/ArrayList;", Cond.fieldLink RX2 43 "TerminalYard" "now" "I", Cond.fieldLink RX2 47 "TerminalYard" "chargedForPages" "I", Cond.methodLink RX2 35 yJx4a65c_init_da8c8, Cond.instanceMethod yJx4a65c_init_da8c8, Cond.code yJx4a65c_init_da8c8 cJx4a65c_init_da8c8 1 none, Cond.fieldLink RJx4a65c 39 "java/util/ArrayList" "DEFAULTCAPACITY_EMPTY_ELEMENTDATA" "[Ljava/lang/Object;", Cond.fieldLink RJx4a65c 9 "java/util/ArrayList" "elementData" "[Ljava/lang/Object;"]
def wsX2_init_r2 : List Cond := [Cond.methodLink RJx4a65c 1 yJxc12de_init_da8c8, Cond.instanceMethod yJxc12de_init_da8c8, Cond.initialized RJxc12de, Cond.code yJxc12de_init_da8c8 cJxc12de_init_da8c8 1 none, Cond.fieldLink RJxc12de 7 "java/util/AbstractList" "modCount" "I", Cond.methodLink RJxc12de 1 yJxa1e45_init_da8c8, Cond.instanceMethod yJxa1e45_init_da8c8, Cond.initialized RJxa1e45, Cond.code yJxa1e45_init_da8c8 cJxa1e45_init_da8c8 1 none, Cond.methodLink RJxa1e45 1 objectInit]
def wsX2_init : List Cond := .code yX2_init cX2_init 2 none :: ((wsX2_init_r1 ++ wsX2_init_r2) ++ wsX20 ++ wsJx4a65c0 ++ (vx_atM "java/lang/ArrayIndexOutOfBoundsException" ["java/lang/IndexOutOfBoundsException", "java/lang/RuntimeException", "java/lang/Exception"]).filter goodWord)
def wsX2_isOutside : List Cond := .code yX2_isOutside cX2_isOutside 3 (some .boolean) :: ([])
def wsX2_checkPool : List Cond := .code yX2_checkPool cX2_checkPool 1 none :: ([.classLink RX2 58 "java/lang/IllegalArgumentException", .initialized "java/lang/IllegalArgumentException", .methodLink RX2 54 yX2_isOutside, .static yX2_isOutside, .initialized RX2, .code yX2_isOutside cX2_isOutside 3 (some .boolean)] ++ (vx_atS RX2 62 "java/lang/IllegalArgumentException" ["java/lang/RuntimeException", "java/lang/Exception"]).filter goodWord)
def wsJx4a65c_size_8abf5 : List Cond := .code yJx4a65c_size_8abf5 cJx4a65c_size_8abf5 1 (some .int) :: ([.fieldLink RJx4a65c 48 "java/util/ArrayList" "size" "I"] ++ wsJx4a65c0)
def wsJ8_hugeLength_7cf53 : List Cond := .code yJ8_hugeLength_7cf53 cJ8_hugeLength_7cf53 3 (some .int) :: ([.constant RJ8 200 (2147483639)])
def wsJ8_newLength_cabcc : List Cond := .code yJ8_newLength_cabcc cJ8_newLength_cabcc 4 (some .int) :: ([.methodLink RJ8 194 Lib.Math.max.name, .static Lib.Math.max.name, .initialized "java/lang/Math", .code Lib.Math.max.name Lib.Math.max.code 2 (some .int), .constant RJ8 200 (2147483639), .methodLink RJ8 201 yJ8_hugeLength_7cf53, .static yJ8_hugeLength_7cf53, .initialized RJ8, .code yJ8_hugeLength_7cf53 cJ8_hugeLength_7cf53 3 (some .int)])
def wsJ7_copyOf_6403c : List Cond := .code yJ7_copyOf_6403c cJ7_copyOf_6403c 4 (some (.array (.object "java/lang/Object"))) :: ([.classLink RJ7 110 "[Ljava/lang/Object;", .classLink RJ7 2 "java/lang/Object", .methodLink RJ7 304 Lib.Math.min.name, .static Lib.Math.min.name, .initialized "java/lang/Math", .code Lib.Math.min.name Lib.Math.min.code 2 (some .int), .methodLink RJ7 150 arraycopyName, .native arraycopyName, .static arraycopyName, .initialized "java/lang/System"])
def wsJ7_copyOf_1904c : List Cond := .code yJ7_copyOf_1904c cJ7_copyOf_1904c 2 (some (.array (.object "java/lang/Object"))) :: ([.methodLink RJ7 86 ⟨"java/lang/Object", "getClass", "()Ljava/lang/Class;"⟩, .selects "[Ljava/lang/Object;" ⟨"java/lang/Object", "getClass", "()Ljava/lang/Class;"⟩ ⟨"java/lang/Object", "getClass", "()Ljava/lang/Class;"⟩, .instanceMethod ⟨"java/lang/Object", "getClass", "()Ljava/lang/Class;"⟩, .native ⟨"java/lang/Object", "getClass", "()Ljava/lang/Class;"⟩, .methodLink RJ7 300 yJ7_copyOf_6403c, .static yJ7_copyOf_6403c, .initialized RJ7, .code yJ7_copyOf_6403c cJ7_copyOf_6403c 4 (some (.array (.object "java/lang/Object"))), .classLink RJ7 110 "[Ljava/lang/Object;", .classLink RJ7 2 "java/lang/Object", .methodLink RJ7 304 Lib.Math.min.name, .static Lib.Math.min.name, .initialized "java/lang/Math", .code Lib.Math.min.name Lib.Math.min.code 2 (some .int), .methodLink RJ7 150 arraycopyName, .native arraycopyName, .static arraycopyName, .initialized "java/lang/System"])
def wsJx4a65c_grow_92f84_r1 : List Cond := [Cond.fieldLink RJx4a65c 9 "java/util/ArrayList" "elementData" "[Ljava/lang/Object;", Cond.fieldLink RJx4a65c 39 "java/util/ArrayList" "DEFAULTCAPACITY_EMPTY_ELEMENTDATA" "[Ljava/lang/Object;", Cond.methodLink RJx4a65c 79 Lib.Math.max.name, Cond.static Lib.Math.max.name, Cond.initialized "java/lang/Math", Cond.code Lib.Math.max.name Lib.Math.max.code 2 (some .int), Cond.classLink RJx4a65c 7 "java/lang/Object", Cond.methodLink RJx4a65c 73 yJ8_newLength_cabcc, Cond.static yJ8_newLength_cabcc, Cond.initialized RJ8, Cond.code yJ8_newLength_cabcc cJ8_newLength_cabcc 4 (some .int), Cond.methodLink RJ8 194 Lib.Math.max.name, Cond.constant RJ8 200 (2147483639), Cond.methodLink RJ8 201 yJ8_hugeLength_7cf53, Cond.static yJ8_hugeLength_7cf53, Cond.code yJ8_hugeLength_7cf53 cJ8_hugeLength_7cf53 3 (some .int), Cond.methodLink RJx4a65c 66 yJ7_copyOf_1904c, Cond.static yJ7_copyOf_1904c, Cond.initialized RJ7, Cond.code yJ7_copyOf_1904c cJ7_copyOf_1904c 2 (some (.array (.object "java/lang/Object"))), Cond.methodLink RJ7 86 ⟨"java/lang/Object", "getClass", "()Ljava/lang/Class;"⟩, Cond.selects "[Ljava/lang/Object;" ⟨"java/lang/Object", "getClass", "()Ljava/lang/Class;"⟩ ⟨"java/lang/Object", "getClass", "()Ljava/lang/Class;"⟩, Cond.instanceMethod ⟨"java/lang/Object", "getClass", "()Ljava/lang/Class;"⟩, Cond.native ⟨"java/lang/Object", "getClass", "()Ljava/lang/Class;"⟩]
def wsJx4a65c_grow_92f84_r2 : List Cond := [Cond.methodLink RJ7 300 yJ7_copyOf_6403c, Cond.static yJ7_copyOf_6403c, Cond.code yJ7_copyOf_6403c cJ7_copyOf_6403c 4 (some (.array (.object "java/lang/Object"))), Cond.classLink RJ7 110 "[Ljava/lang/Object;", Cond.classLink RJ7 2 "java/lang/Object", Cond.methodLink RJ7 304 Lib.Math.min.name, Cond.static Lib.Math.min.name, Cond.code Lib.Math.min.name Lib.Math.min.code 2 (some .int), Cond.methodLink RJ7 150 arraycopyName, Cond.native arraycopyName, Cond.static arraycopyName, Cond.initialized "java/lang/System"]
def wsJx4a65c_grow_92f84 : List Cond := .code yJx4a65c_grow_92f84 cJx4a65c_grow_92f84 4 (some (.array (.object "java/lang/Object"))) :: ((wsJx4a65c_grow_92f84_r1 ++ wsJx4a65c_grow_92f84_r2) ++ wsJx4a65c0)
def wsJx4a65c_grow_d5877_r1 : List Cond := [Cond.fieldLink RJx4a65c 48 "java/util/ArrayList" "size" "I", Cond.methodLink RJx4a65c 69 yJx4a65c_grow_92f84, Cond.instanceMethod yJx4a65c_grow_92f84, Cond.selects RJx4a65c yJx4a65c_grow_92f84 yJx4a65c_grow_92f84, Cond.initialized RJx4a65c, Cond.code yJx4a65c_grow_92f84 cJx4a65c_grow_92f84 4 (some (.array (.object "java/lang/Object"))), Cond.fieldLink RJx4a65c 9 "java/util/ArrayList" "elementData" "[Ljava/lang/Object;", Cond.fieldLink RJx4a65c 39 "java/util/ArrayList" "DEFAULTCAPACITY_EMPTY_ELEMENTDATA" "[Ljava/lang/Object;", Cond.methodLink RJx4a65c 79 Lib.Math.max.name, Cond.static Lib.Math.max.name, Cond.initialized "java/lang/Math", Cond.code Lib.Math.max.name Lib.Math.max.code 2 (some .int), Cond.classLink RJx4a65c 7 "java/lang/Object", Cond.methodLink RJx4a65c 73 yJ8_newLength_cabcc, Cond.static yJ8_newLength_cabcc, Cond.initialized RJ8, Cond.code yJ8_newLength_cabcc cJ8_newLength_cabcc 4 (some .int), Cond.methodLink RJ8 194 Lib.Math.max.name, Cond.constant RJ8 200 (2147483639), Cond.methodLink RJ8 201 yJ8_hugeLength_7cf53, Cond.static yJ8_hugeLength_7cf53, Cond.code yJ8_hugeLength_7cf53 cJ8_hugeLength_7cf53 3 (some .int), Cond.methodLink RJx4a65c 66 yJ7_copyOf_1904c, Cond.static yJ7_copyOf_1904c]
def wsJx4a65c_grow_d5877_r2 : List Cond := [Cond.initialized RJ7, Cond.code yJ7_copyOf_1904c cJ7_copyOf_1904c 2 (some (.array (.object "java/lang/Object"))), Cond.methodLink RJ7 86 ⟨"java/lang/Object", "getClass", "()Ljava/lang/Class;"⟩, Cond.selects "[Ljava/lang/Object;" ⟨"java/lang/Object", "getClass", "()Ljava/lang/Class;"⟩ ⟨"java/lang/Object", "getClass", "()Ljava/lang/Class;"⟩, Cond.instanceMethod ⟨"java/lang/Object", "getClass", "()Ljava/lang/Class;"⟩, Cond.native ⟨"java/lang/Object", "getClass", "()Ljava/lang/Class;"⟩, Cond.methodLink RJ7 300 yJ7_copyOf_6403c, Cond.static yJ7_copyOf_6403c, Cond.code yJ7_copyOf_6403c cJ7_copyOf_6403c 4 (some (.array (.object "java/lang/Object"))), Cond.classLink RJ7 110 "[Ljava/lang/Object;", Cond.classLink RJ7 2 "java/lang/Object", Cond.methodLink RJ7 304 Lib.Math.min.name, Cond.static Lib.Math.min.name, Cond.code Lib.Math.min.name Lib.Math.min.code 2 (some .int), Cond.methodLink RJ7 150 arraycopyName, Cond.native arraycopyName, Cond.static arraycopyName, Cond.initialized "java/lang/System"]
def wsJx4a65c_grow_d5877 : List Cond := .code yJx4a65c_grow_d5877 cJx4a65c_grow_d5877 1 (some (.array (.object "java/lang/Object"))) :: ((wsJx4a65c_grow_d5877_r1 ++ wsJx4a65c_grow_d5877_r2) ++ wsJx4a65c0)
def wsJx4a65c_add_72be8_r1 : List Cond := [Cond.fieldLink RJx4a65c 48 "java/util/ArrayList" "size" "I", Cond.methodLink RJx4a65c 129 yJx4a65c_grow_d5877, Cond.instanceMethod yJx4a65c_grow_d5877, Cond.selects RJx4a65c yJx4a65c_grow_d5877 yJx4a65c_grow_d5877, Cond.initialized RJx4a65c, Cond.code yJx4a65c_grow_d5877 cJx4a65c_grow_d5877 1 (some (.array (.object "java/lang/Object"))), Cond.methodLink RJx4a65c 69 yJx4a65c_grow_92f84, Cond.instanceMethod yJx4a65c_grow_92f84, Cond.selects RJx4a65c yJx4a65c_grow_92f84 yJx4a65c_grow_92f84, Cond.code yJx4a65c_grow_92f84 cJx4a65c_grow_92f84 4 (some (.array (.object "java/lang/Object"))), Cond.fieldLink RJx4a65c 9 "java/util/ArrayList" "elementData" "[Ljava/lang/Object;", Cond.fieldLink RJx4a65c 39 "java/util/ArrayList" "DEFAULTCAPACITY_EMPTY_ELEMENTDATA" "[Ljava/lang/Object;", Cond.methodLink RJx4a65c 79 Lib.Math.max.name, Cond.static Lib.Math.max.name, Cond.initialized "java/lang/Math", Cond.code Lib.Math.max.name Lib.Math.max.code 2 (some .int), Cond.classLink RJx4a65c 7 "java/lang/Object", Cond.methodLink RJx4a65c 73 yJ8_newLength_cabcc, Cond.static yJ8_newLength_cabcc, Cond.initialized RJ8, Cond.code yJ8_newLength_cabcc cJ8_newLength_cabcc 4 (some .int), Cond.methodLink RJ8 194 Lib.Math.max.name, Cond.constant RJ8 200 (2147483639), Cond.methodLink RJ8 201 yJ8_hugeLength_7cf53]
def wsJx4a65c_add_72be8_r2 : List Cond := [Cond.static yJ8_hugeLength_7cf53, Cond.code yJ8_hugeLength_7cf53 cJ8_hugeLength_7cf53 3 (some .int), Cond.methodLink RJx4a65c 66 yJ7_copyOf_1904c, Cond.static yJ7_copyOf_1904c, Cond.initialized RJ7, Cond.code yJ7_copyOf_1904c cJ7_copyOf_1904c 2 (some (.array (.object "java/lang/Object"))), Cond.methodLink RJ7 86 ⟨"java/lang/Object", "getClass", "()Ljava/lang/Class;"⟩, Cond.selects "[Ljava/lang/Object;" ⟨"java/lang/Object", "getClass", "()Ljava/lang/Class;"⟩ ⟨"java/lang/Object", "getClass", "()Ljava/lang/Class;"⟩, Cond.instanceMethod ⟨"java/lang/Object", "getClass", "()Ljava/lang/Class;"⟩, Cond.native ⟨"java/lang/Object", "getClass", "()Ljava/lang/Class;"⟩, Cond.methodLink RJ7 300 yJ7_copyOf_6403c, Cond.static yJ7_copyOf_6403c, Cond.code yJ7_copyOf_6403c cJ7_copyOf_6403c 4 (some (.array (.object "java/lang/Object"))), Cond.classLink RJ7 110 "[Ljava/lang/Object;", Cond.classLink RJ7 2 "java/lang/Object", Cond.methodLink RJ7 304 Lib.Math.min.name, Cond.static Lib.Math.min.name, Cond.code Lib.Math.min.name Lib.Math.min.code 2 (some .int), Cond.methodLink RJ7 150 arraycopyName, Cond.native arraycopyName, Cond.static arraycopyName, Cond.initialized "java/lang/System"]
def wsJx4a65c_add_72be8 : List Cond := .code yJx4a65c_add_72be8 cJx4a65c_add_72be8 4 none :: ((wsJx4a65c_add_72be8_r1 ++ wsJx4a65c_add_72be8_r2) ++ wsJx4a65c0)
def wsJx4a65c_add_9ea2d_r1 : List Cond := [Cond.fieldLink RJx4a65c 63 "java/util/ArrayList" "modCount" "I", Cond.sameField "java/util/ArrayList" "java/util/AbstractList" "modCount" "I", Cond.fieldLink RJx4a65c 9 "java/util/ArrayList" "elementData" "[Ljava/lang/Object;", Cond.fieldLink RJx4a65c 48 "java/util/ArrayList" "size" "I", Cond.methodLink RJx4a65c 131 yJx4a65c_add_72be8, Cond.instanceMethod yJx4a65c_add_72be8, Cond.selects RJx4a65c yJx4a65c_add_72be8 yJx4a65c_add_72be8, Cond.initialized RJx4a65c, Cond.code yJx4a65c_add_72be8 cJx4a65c_add_72be8 4 none, Cond.methodLink RJx4a65c 129 yJx4a65c_grow_d5877, Cond.instanceMethod yJx4a65c_grow_d5877, Cond.selects RJx4a65c yJx4a65c_grow_d5877 yJx4a65c_grow_d5877, Cond.code yJx4a65c_grow_d5877 cJx4a65c_grow_d5877 1 (some (.array (.object "java/lang/Object"))), Cond.methodLink RJx4a65c 69 yJx4a65c_grow_92f84, Cond.instanceMethod yJx4a65c_grow_92f84, Cond.selects RJx4a65c yJx4a65c_grow_92f84 yJx4a65c_grow_92f84, Cond.code yJx4a65c_grow_92f84 cJx4a65c_grow_92f84 4 (some (.array (.object "java/lang/Object"))), Cond.fieldLink RJx4a65c 39 "java/util/ArrayList" "DEFAULTCAPACITY_EMPTY_ELEMENTDATA" "[Ljava/lang/Object;", Cond.methodLink RJx4a65c 79 Lib.Math.max.name, Cond.static Lib.Math.max.name, Cond.initialized "java/lang/Math", Cond.code Lib.Math.max.name Lib.Math.max.code 2 (some .int), Cond.classLink RJx4a65c 7 "java/lang/Object", Cond.methodLink RJx4a65c 73 yJ8_newLength_cabcc]
def wsJx4a65c_add_9ea2d_r2 : List Cond := [Cond.static yJ8_newLength_cabcc, Cond.initialized RJ8, Cond.code yJ8_newLength_cabcc cJ8_newLength_cabcc 4 (some .int), Cond.methodLink RJ8 194 Lib.Math.max.name, Cond.constant RJ8 200 (2147483639), Cond.methodLink RJ8 201 yJ8_hugeLength_7cf53, Cond.static yJ8_hugeLength_7cf53, Cond.code yJ8_hugeLength_7cf53 cJ8_hugeLength_7cf53 3 (some .int), Cond.methodLink RJx4a65c 66 yJ7_copyOf_1904c, Cond.static yJ7_copyOf_1904c, Cond.initialized RJ7, Cond.code yJ7_copyOf_1904c cJ7_copyOf_1904c 2 (some (.array (.object "java/lang/Object"))), Cond.methodLink RJ7 86 ⟨"java/lang/Object", "getClass", "()Ljava/lang/Class;"⟩, Cond.selects "[Ljava/lang/Object;" ⟨"java/lang/Object", "getClass", "()Ljava/lang/Class;"⟩ ⟨"java/lang/Object", "getClass", "()Ljava/lang/Class;"⟩, Cond.instanceMethod ⟨"java/lang/Object", "getClass", "()Ljava/lang/Class;"⟩, Cond.native ⟨"java/lang/Object", "getClass", "()Ljava/lang/Class;"⟩, Cond.methodLink RJ7 300 yJ7_copyOf_6403c, Cond.static yJ7_copyOf_6403c, Cond.code yJ7_copyOf_6403c cJ7_copyOf_6403c 4 (some (.array (.object "java/lang/Object"))), Cond.classLink RJ7 110 "[Ljava/lang/Object;", Cond.classLink RJ7 2 "java/lang/Object", Cond.methodLink RJ7 304 Lib.Math.min.name, Cond.static Lib.Math.min.name, Cond.code Lib.Math.min.name Lib.Math.min.code 2 (some .int)]
def wsJx4a65c_add_9ea2d_r3 : List Cond := [Cond.methodLink RJ7 150 arraycopyName, Cond.native arraycopyName, Cond.static arraycopyName, Cond.initialized "java/lang/System"]
def wsJx4a65c_add_9ea2d : List Cond := .code yJx4a65c_add_9ea2d cJx4a65c_add_9ea2d 2 (some .boolean) :: ((wsJx4a65c_add_9ea2d_r1 ++ (wsJx4a65c_add_9ea2d_r2 ++ wsJx4a65c_add_9ea2d_r3)) ++ wsJx4a65c0)
def wsX2_addMachine_r1 : List Cond := [Cond.classLink RX2 58 "java/lang/IllegalArgumentException", Cond.initialized "java/lang/IllegalArgumentException", Cond.classLink RX2 71 "java/lang/IllegalStateException", Cond.initialized "java/lang/IllegalStateException", Cond.fieldLink RX2 36 "TerminalYard" "machines" "Ljava/util/ArrayList;", Cond.classLink RX2 76 RX0, Cond.instantiable RX0 6, Cond.initialized RX0, Cond.methodLink RX2 50 yX2_checkPool, Cond.static yX2_checkPool, Cond.initialized RX2, Cond.code yX2_checkPool cX2_checkPool 1 none, Cond.methodLink RX2 54 yX2_isOutside, Cond.static yX2_isOutside, Cond.code yX2_isOutside cX2_isOutside 3 (some .boolean), Cond.methodLink RX2 67 yJx4a65c_size_8abf5, Cond.instanceMethod yJx4a65c_size_8abf5, Cond.selects RJx4a65c yJx4a65c_size_8abf5 yJx4a65c_size_8abf5, Cond.initialized RJx4a65c, Cond.code yJx4a65c_size_8abf5 cJx4a65c_size_8abf5 1 (some .int), Cond.fieldLink RJx4a65c 48 "java/util/ArrayList" "size" "I", Cond.methodLink RX2 78 yX0_init, Cond.instanceMethod yX0_init, Cond.code yX0_init cX0_init 5 none]
def wsX2_addMachine_r2 : List Cond := [Cond.methodLink RX0 3 objectInit, Cond.instanceMethod objectInit, Cond.code objectInit ⟨#[0xb1]⟩ 1 none, Cond.fieldLink RX0 9 "TerminalYard$Machine" "condition" "C", Cond.fieldLink RX0 15 "TerminalYard$Machine" "live" "I", Cond.fieldLink RX0 19 "TerminalYard$Machine" "number" "I", Cond.fieldLink RX0 22 "TerminalYard$Machine" "pool" "I", Cond.fieldLink RX0 25 "TerminalYard$Machine" "room" "I", Cond.fieldLink RX0 28 "TerminalYard$Machine" "seats" "I", Cond.methodLink RX2 81 yJx4a65c_add_9ea2d, Cond.instanceMethod yJx4a65c_add_9ea2d, Cond.selects RJx4a65c yJx4a65c_add_9ea2d yJx4a65c_add_9ea2d, Cond.code yJx4a65c_add_9ea2d cJx4a65c_add_9ea2d 2 (some .boolean), Cond.fieldLink RJx4a65c 63 "java/util/ArrayList" "modCount" "I", Cond.sameField "java/util/ArrayList" "java/util/AbstractList" "modCount" "I", Cond.fieldLink RJx4a65c 9 "java/util/ArrayList" "elementData" "[Ljava/lang/Object;", Cond.methodLink RJx4a65c 131 yJx4a65c_add_72be8, Cond.instanceMethod yJx4a65c_add_72be8, Cond.selects RJx4a65c yJx4a65c_add_72be8 yJx4a65c_add_72be8, Cond.code yJx4a65c_add_72be8 cJx4a65c_add_72be8 4 none, Cond.methodLink RJx4a65c 129 yJx4a65c_grow_d5877, Cond.instanceMethod yJx4a65c_grow_d5877, Cond.selects RJx4a65c yJx4a65c_grow_d5877 yJx4a65c_grow_d5877, Cond.code yJx4a65c_grow_d5877 cJx4a65c_grow_d5877 1 (some (.array (.object "java/lang/Object")))]
def wsX2_addMachine_r3 : List Cond := [Cond.methodLink RJx4a65c 69 yJx4a65c_grow_92f84, Cond.instanceMethod yJx4a65c_grow_92f84, Cond.selects RJx4a65c yJx4a65c_grow_92f84 yJx4a65c_grow_92f84, Cond.code yJx4a65c_grow_92f84 cJx4a65c_grow_92f84 4 (some (.array (.object "java/lang/Object"))), Cond.fieldLink RJx4a65c 39 "java/util/ArrayList" "DEFAULTCAPACITY_EMPTY_ELEMENTDATA" "[Ljava/lang/Object;", Cond.methodLink RJx4a65c 79 Lib.Math.max.name, Cond.static Lib.Math.max.name, Cond.initialized "java/lang/Math", Cond.code Lib.Math.max.name Lib.Math.max.code 2 (some .int), Cond.classLink RJx4a65c 7 "java/lang/Object", Cond.methodLink RJx4a65c 73 yJ8_newLength_cabcc, Cond.static yJ8_newLength_cabcc, Cond.initialized RJ8, Cond.code yJ8_newLength_cabcc cJ8_newLength_cabcc 4 (some .int), Cond.methodLink RJ8 194 Lib.Math.max.name, Cond.constant RJ8 200 (2147483639), Cond.methodLink RJ8 201 yJ8_hugeLength_7cf53, Cond.static yJ8_hugeLength_7cf53, Cond.code yJ8_hugeLength_7cf53 cJ8_hugeLength_7cf53 3 (some .int), Cond.methodLink RJx4a65c 66 yJ7_copyOf_1904c, Cond.static yJ7_copyOf_1904c, Cond.initialized RJ7, Cond.code yJ7_copyOf_1904c cJ7_copyOf_1904c 2 (some (.array (.object "java/lang/Object"))), Cond.methodLink RJ7 86 ⟨"java/lang/Object", "getClass", "()Ljava/lang/Class;"⟩]
def wsX2_addMachine_r4 : List Cond := [Cond.selects "[Ljava/lang/Object;" ⟨"java/lang/Object", "getClass", "()Ljava/lang/Class;"⟩ ⟨"java/lang/Object", "getClass", "()Ljava/lang/Class;"⟩, Cond.instanceMethod ⟨"java/lang/Object", "getClass", "()Ljava/lang/Class;"⟩, Cond.native ⟨"java/lang/Object", "getClass", "()Ljava/lang/Class;"⟩, Cond.methodLink RJ7 300 yJ7_copyOf_6403c, Cond.static yJ7_copyOf_6403c, Cond.code yJ7_copyOf_6403c cJ7_copyOf_6403c 4 (some (.array (.object "java/lang/Object"))), Cond.classLink RJ7 110 "[Ljava/lang/Object;", Cond.classLink RJ7 2 "java/lang/Object", Cond.methodLink RJ7 304 Lib.Math.min.name, Cond.static Lib.Math.min.name, Cond.code Lib.Math.min.name Lib.Math.min.code 2 (some .int), Cond.methodLink RJ7 150 arraycopyName, Cond.native arraycopyName, Cond.static arraycopyName, Cond.initialized "java/lang/System"]
def wsX2_addMachine : List Cond := .code yX2_addMachine cX2_addMachine 5 (some .int) :: ((wsX2_addMachine_r1 ++ (wsX2_addMachine_r2 ++ (wsX2_addMachine_r3 ++ wsX2_addMachine_r4))) ++ wsX20 ++ wsX00 ++ wsJx4a65c0 ++ (vx_atS RX2 62 "java/lang/IllegalArgumentException" ["java/lang/RuntimeException", "java/lang/Exception"]).filter goodWord ++ (vx_atS RX2 75 "java/lang/IllegalStateException" ["java/lang/RuntimeException", "java/lang/Exception"]).filter goodWord)
def wsX2_setLimits : List Cond := .code yX2_setLimits cX2_setLimits 5 (some .int) :: ([.classLink RX2 58 "java/lang/IllegalArgumentException", .initialized "java/lang/IllegalArgumentException", .fieldLink RX2 9 "TerminalYard" "idleLimits" "[I", .fieldLink RX2 13 "TerminalYard" "hardLimits" "[I", .methodLink RX2 50 yX2_checkPool, .static yX2_checkPool, .initialized RX2, .code yX2_checkPool cX2_checkPool 1 none, .methodLink RX2 54 yX2_isOutside, .static yX2_isOutside, .code yX2_isOutside cX2_isOutside 3 (some .boolean)] ++ wsX20 ++ (vx_atS RX2 62 "java/lang/IllegalArgumentException" ["java/lang/RuntimeException", "java/lang/Exception"]).filter goodWord ++ (vx_atM "java/lang/ArrayIndexOutOfBoundsException" ["java/lang/IndexOutOfBoundsException", "java/lang/RuntimeException", "java/lang/Exception"]).filter goodWord)
def wsJ3_checkIndex_8e157 : List Cond := .code yJ3_checkIndex_8e157 cJ3_checkIndex_8e157 3 (some .int) :: ([])
def wsJ15_checkIndex_7cf53 : List Cond := .code yJ15_checkIndex_7cf53 cJ15_checkIndex_7cf53 2 (some .int) :: ([.methodLink RJ15 105 yJ3_checkIndex_8e157, .static yJ3_checkIndex_8e157, .initialized RJ3, .code yJ3_checkIndex_8e157 cJ3_checkIndex_8e157 3 (some .int)])
def wsJx4a65c_elementData_915e3 : List Cond := .code yJx4a65c_elementData_915e3 cJx4a65c_elementData_915e3 2 (some (.object "java/lang/Object")) :: ([.fieldLink RJx4a65c 9 "java/util/ArrayList" "elementData" "[Ljava/lang/Object;"] ++ wsJx4a65c0)
def wsJx4a65c_get_915e3 : List Cond := .code yJx4a65c_get_915e3 cJx4a65c_get_915e3 2 (some (.object "java/lang/Object")) :: ([.fieldLink RJx4a65c 48 "java/util/ArrayList" "size" "I", .methodLink RJx4a65c 118 yJ15_checkIndex_7cf53, .static yJ15_checkIndex_7cf53, .initialized RJ15, .code yJ15_checkIndex_7cf53 cJ15_checkIndex_7cf53 2 (some .int), .methodLink RJ15 105 yJ3_checkIndex_8e157, .static yJ3_checkIndex_8e157, .initialized RJ3, .code yJ3_checkIndex_8e157 cJ3_checkIndex_8e157 3 (some .int), .methodLink RJx4a65c 123 yJx4a65c_elementData_915e3, .instanceMethod yJx4a65c_elementData_915e3, .selects RJx4a65c yJx4a65c_elementData_915e3 yJx4a65c_elementData_915e3, .initialized RJx4a65c, .code yJx4a65c_elementData_915e3 cJx4a65c_elementData_915e3 2 (some (.object "java/lang/Object")), .fieldLink RJx4a65c 9 "java/util/ArrayList" "elementData" "[Ljava/lang/Object;"] ++ wsJx4a65c0)
def wsX2_machineAt_r1 : List Cond := [Cond.classLink RX2 264 "java/lang/IndexOutOfBoundsException", Cond.initialized "java/lang/IndexOutOfBoundsException", Cond.fieldLink RX2 36 "TerminalYard" "machines" "Ljava/util/ArrayList;", Cond.classLink RX2 76 "TerminalYard$Machine", Cond.methodLink RX2 67 yJx4a65c_size_8abf5, Cond.instanceMethod yJx4a65c_size_8abf5, Cond.selects RJx4a65c yJx4a65c_size_8abf5 yJx4a65c_size_8abf5, Cond.initialized RJx4a65c, Cond.code yJx4a65c_size_8abf5 cJx4a65c_size_8abf5 1 (some .int), Cond.fieldLink RJx4a65c 48 "java/util/ArrayList" "size" "I", Cond.methodLink RX2 54 yX2_isOutside, Cond.static yX2_isOutside, Cond.initialized RX2, Cond.code yX2_isOutside cX2_isOutside 3 (some .boolean), Cond.methodLink RX2 114 yJx4a65c_get_915e3, Cond.instanceMethod yJx4a65c_get_915e3, Cond.selects RJx4a65c yJx4a65c_get_915e3 yJx4a65c_get_915e3, Cond.code yJx4a65c_get_915e3 cJx4a65c_get_915e3 2 (some (.object "java/lang/Object")), Cond.methodLink RJx4a65c 118 yJ15_checkIndex_7cf53, Cond.static yJ15_checkIndex_7cf53, Cond.initialized RJ15, Cond.code yJ15_checkIndex_7cf53 cJ15_checkIndex_7cf53 2 (some .int), Cond.methodLink RJ15 105 yJ3_checkIndex_8e157, Cond.static yJ3_checkIndex_8e157]
def wsX2_machineAt_r2 : List Cond := [Cond.initialized RJ3, Cond.code yJ3_checkIndex_8e157 cJ3_checkIndex_8e157 3 (some .int), Cond.methodLink RJx4a65c 123 yJx4a65c_elementData_915e3, Cond.instanceMethod yJx4a65c_elementData_915e3, Cond.selects RJx4a65c yJx4a65c_elementData_915e3 yJx4a65c_elementData_915e3, Cond.code yJx4a65c_elementData_915e3 cJx4a65c_elementData_915e3 2 (some (.object "java/lang/Object")), Cond.fieldLink RJx4a65c 9 "java/util/ArrayList" "elementData" "[Ljava/lang/Object;"]
def wsX2_machineAt : List Cond := .code yX2_machineAt cX2_machineAt 2 (some (.object "TerminalYard$Machine")) :: ((wsX2_machineAt_r1 ++ wsX2_machineAt_r2) ++ wsX20 ++ wsJx4a65c0 ++ (vx_atS RX2 268 "java/lang/IndexOutOfBoundsException" ["java/lang/RuntimeException", "java/lang/Exception"]).filter goodWord)
def wsX2_drain_r1 : List Cond := [Cond.classLink RX2 71 "java/lang/IllegalStateException", Cond.initialized "java/lang/IllegalStateException", Cond.fieldLink RX2 91 "TerminalYard$Machine" "condition" "C", Cond.fieldLink RX2 100 "TerminalYard$Machine" "live" "I", Cond.methodLink RX2 87 yX2_machineAt, Cond.instanceMethod yX2_machineAt, Cond.selects RX2 yX2_machineAt yX2_machineAt, Cond.initialized RX2, Cond.code yX2_machineAt cX2_machineAt 2 (some (.object "TerminalYard$Machine")), Cond.classLink RX2 264 "java/lang/IndexOutOfBoundsException", Cond.initialized "java/lang/IndexOutOfBoundsException", Cond.fieldLink RX2 36 "TerminalYard" "machines" "Ljava/util/ArrayList;", Cond.classLink RX2 76 "TerminalYard$Machine", Cond.methodLink RX2 67 yJx4a65c_size_8abf5, Cond.instanceMethod yJx4a65c_size_8abf5, Cond.selects RJx4a65c yJx4a65c_size_8abf5 yJx4a65c_size_8abf5, Cond.initialized RJx4a65c, Cond.code yJx4a65c_size_8abf5 cJx4a65c_size_8abf5 1 (some .int), Cond.fieldLink RJx4a65c 48 "java/util/ArrayList" "size" "I", Cond.methodLink RX2 54 yX2_isOutside, Cond.static yX2_isOutside, Cond.code yX2_isOutside cX2_isOutside 3 (some .boolean), Cond.methodLink RX2 114 yJx4a65c_get_915e3, Cond.instanceMethod yJx4a65c_get_915e3]
def wsX2_drain_r2 : List Cond := [Cond.selects RJx4a65c yJx4a65c_get_915e3 yJx4a65c_get_915e3, Cond.code yJx4a65c_get_915e3 cJx4a65c_get_915e3 2 (some (.object "java/lang/Object")), Cond.methodLink RJx4a65c 118 yJ15_checkIndex_7cf53, Cond.static yJ15_checkIndex_7cf53, Cond.initialized RJ15, Cond.code yJ15_checkIndex_7cf53 cJ15_checkIndex_7cf53 2 (some .int), Cond.methodLink RJ15 105 yJ3_checkIndex_8e157, Cond.static yJ3_checkIndex_8e157, Cond.initialized RJ3, Cond.code yJ3_checkIndex_8e157 cJ3_checkIndex_8e157 3 (some .int), Cond.methodLink RJx4a65c 123 yJx4a65c_elementData_915e3, Cond.instanceMethod yJx4a65c_elementData_915e3, Cond.selects RJx4a65c yJx4a65c_elementData_915e3 yJx4a65c_elementData_915e3, Cond.code yJx4a65c_elementData_915e3 cJx4a65c_elementData_915e3 2 (some (.object "java/lang/Object")), Cond.fieldLink RJx4a65c 9 "java/util/ArrayList" "elementData" "[Ljava/lang/Object;", Cond.methodLink RX2 97 yX0_repairWhenEmpty, Cond.instanceMethod yX0_repairWhenEmpty, Cond.selects RX0 yX0_repairWhenEmpty yX0_repairWhenEmpty, Cond.initialized RX0, Cond.code yX0_repairWhenEmpty cX0_repairWhenEmpty 1 none, Cond.fieldLink RX0 9 "TerminalYard$Machine" "condition" "C", Cond.fieldLink RX0 15 "TerminalYard$Machine" "live" "I"]
def wsX2_drain : List Cond := .code yX2_drain cX2_drain 3 (some .int) :: ((wsX2_drain_r1 ++ wsX2_drain_r2) ++ wsX00 ++ wsX20 ++ wsJx4a65c0 ++ (vx_atS RX2 75 "java/lang/IllegalStateException" ["java/lang/RuntimeException", "java/lang/Exception"]).filter goodWord ++ (vx_atS RX2 268 "java/lang/IndexOutOfBoundsException" ["java/lang/RuntimeException", "java/lang/Exception"]).filter goodWord)
def wsX2_putUp_r1 : List Cond := [Cond.classLink RX2 71 "java/lang/IllegalStateException", Cond.initialized "java/lang/IllegalStateException", Cond.fieldLink RX2 91 "TerminalYard$Machine" "condition" "C", Cond.methodLink RX2 87 yX2_machineAt, Cond.instanceMethod yX2_machineAt, Cond.selects RX2 yX2_machineAt yX2_machineAt, Cond.initialized RX2, Cond.code yX2_machineAt cX2_machineAt 2 (some (.object "TerminalYard$Machine")), Cond.classLink RX2 264 "java/lang/IndexOutOfBoundsException", Cond.initialized "java/lang/IndexOutOfBoundsException", Cond.fieldLink RX2 36 "TerminalYard" "machines" "Ljava/util/ArrayList;", Cond.classLink RX2 76 "TerminalYard$Machine", Cond.methodLink RX2 67 yJx4a65c_size_8abf5, Cond.instanceMethod yJx4a65c_size_8abf5, Cond.selects RJx4a65c yJx4a65c_size_8abf5 yJx4a65c_size_8abf5, Cond.initialized RJx4a65c, Cond.code yJx4a65c_size_8abf5 cJx4a65c_size_8abf5 1 (some .int), Cond.fieldLink RJx4a65c 48 "java/util/ArrayList" "size" "I", Cond.methodLink RX2 54 yX2_isOutside, Cond.static yX2_isOutside, Cond.code yX2_isOutside cX2_isOutside 3 (some .boolean), Cond.methodLink RX2 114 yJx4a65c_get_915e3, Cond.instanceMethod yJx4a65c_get_915e3, Cond.selects RJx4a65c yJx4a65c_get_915e3 yJx4a65c_get_915e3]
def wsX2_putUp_r2 : List Cond := [Cond.code yJx4a65c_get_915e3 cJx4a65c_get_915e3 2 (some (.object "java/lang/Object")), Cond.methodLink RJx4a65c 118 yJ15_checkIndex_7cf53, Cond.static yJ15_checkIndex_7cf53, Cond.initialized RJ15, Cond.code yJ15_checkIndex_7cf53 cJ15_checkIndex_7cf53 2 (some .int), Cond.methodLink RJ15 105 yJ3_checkIndex_8e157, Cond.static yJ3_checkIndex_8e157, Cond.initialized RJ3, Cond.code yJ3_checkIndex_8e157 cJ3_checkIndex_8e157 3 (some .int), Cond.methodLink RJx4a65c 123 yJx4a65c_elementData_915e3, Cond.instanceMethod yJx4a65c_elementData_915e3, Cond.selects RJx4a65c yJx4a65c_elementData_915e3 yJx4a65c_elementData_915e3, Cond.code yJx4a65c_elementData_915e3 cJx4a65c_elementData_915e3 2 (some (.object "java/lang/Object")), Cond.fieldLink RJx4a65c 9 "java/util/ArrayList" "elementData" "[Ljava/lang/Object;", Cond.methodLink RX2 105 yX0_freeSeats, Cond.instanceMethod yX0_freeSeats, Cond.selects RX0 yX0_freeSeats yX0_freeSeats, Cond.initialized RX0, Cond.code yX0_freeSeats cX0_freeSeats 1 (some .int), Cond.fieldLink RX0 28 "TerminalYard$Machine" "seats" "I", Cond.fieldLink RX0 15 "TerminalYard$Machine" "live" "I"]
def wsX2_putUp : List Cond := .code yX2_putUp cX2_putUp 3 (some .int) :: ((wsX2_putUp_r1 ++ wsX2_putUp_r2) ++ wsX00 ++ wsX20 ++ wsJx4a65c0 ++ (vx_atS RX2 75 "java/lang/IllegalStateException" ["java/lang/RuntimeException", "java/lang/Exception"]).filter goodWord ++ (vx_atS RX2 268 "java/lang/IndexOutOfBoundsException" ["java/lang/RuntimeException", "java/lang/Exception"]).filter goodWord)
def wsX2_machine_r1 : List Cond := [Cond.fieldLink RX2 91 "TerminalYard$Machine" "condition" "C", Cond.methodLink RX2 87 yX2_machineAt, Cond.instanceMethod yX2_machineAt, Cond.selects RX2 yX2_machineAt yX2_machineAt, Cond.initialized RX2, Cond.code yX2_machineAt cX2_machineAt 2 (some (.object "TerminalYard$Machine")), Cond.classLink RX2 264 "java/lang/IndexOutOfBoundsException", Cond.initialized "java/lang/IndexOutOfBoundsException", Cond.fieldLink RX2 36 "TerminalYard" "machines" "Ljava/util/ArrayList;", Cond.classLink RX2 76 "TerminalYard$Machine", Cond.methodLink RX2 67 yJx4a65c_size_8abf5, Cond.instanceMethod yJx4a65c_size_8abf5, Cond.selects RJx4a65c yJx4a65c_size_8abf5 yJx4a65c_size_8abf5, Cond.initialized RJx4a65c, Cond.code yJx4a65c_size_8abf5 cJx4a65c_size_8abf5 1 (some .int), Cond.fieldLink RJx4a65c 48 "java/util/ArrayList" "size" "I", Cond.methodLink RX2 54 yX2_isOutside, Cond.static yX2_isOutside, Cond.code yX2_isOutside cX2_isOutside 3 (some .boolean), Cond.methodLink RX2 114 yJx4a65c_get_915e3, Cond.instanceMethod yJx4a65c_get_915e3, Cond.selects RJx4a65c yJx4a65c_get_915e3 yJx4a65c_get_915e3, Cond.code yJx4a65c_get_915e3 cJx4a65c_get_915e3 2 (some (.object "java/lang/Object")), Cond.methodLink RJx4a65c 118 yJ15_checkIndex_7cf53]
def wsX2_machine_r2 : List Cond := [Cond.static yJ15_checkIndex_7cf53, Cond.initialized RJ15, Cond.code yJ15_checkIndex_7cf53 cJ15_checkIndex_7cf53 2 (some .int), Cond.methodLink RJ15 105 yJ3_checkIndex_8e157, Cond.static yJ3_checkIndex_8e157, Cond.initialized RJ3, Cond.code yJ3_checkIndex_8e157 cJ3_checkIndex_8e157 3 (some .int), Cond.methodLink RJx4a65c 123 yJx4a65c_elementData_915e3, Cond.instanceMethod yJx4a65c_elementData_915e3, Cond.selects RJx4a65c yJx4a65c_elementData_915e3 yJx4a65c_elementData_915e3, Cond.code yJx4a65c_elementData_915e3 cJx4a65c_elementData_915e3 2 (some (.object "java/lang/Object")), Cond.fieldLink RJx4a65c 9 "java/util/ArrayList" "elementData" "[Ljava/lang/Object;"]
def wsX2_machine : List Cond := .code yX2_machine cX2_machine 2 (some .char) :: ((wsX2_machine_r1 ++ wsX2_machine_r2) ++ wsX00 ++ wsX20 ++ wsJx4a65c0 ++ (vx_atS RX2 268 "java/lang/IndexOutOfBoundsException" ["java/lang/RuntimeException", "java/lang/Exception"]).filter goodWord)
def wsX2_emptiestMachine_r1 : List Cond := [Cond.classLink RX2 271 "java/util/NoSuchElementException", Cond.initialized "java/util/NoSuchElementException", Cond.fieldLink RX2 36 "TerminalYard" "machines" "Ljava/util/ArrayList;", Cond.classLink RX2 76 "TerminalYard$Machine", Cond.fieldLink RX2 100 "TerminalYard$Machine" "live" "I", Cond.methodLink RX2 67 yJx4a65c_size_8abf5, Cond.instanceMethod yJx4a65c_size_8abf5, Cond.selects RJx4a65c yJx4a65c_size_8abf5 yJx4a65c_size_8abf5, Cond.initialized RJx4a65c, Cond.code yJx4a65c_size_8abf5 cJx4a65c_size_8abf5 1 (some .int), Cond.fieldLink RJx4a65c 48 "java/util/ArrayList" "size" "I", Cond.methodLink RX2 114 yJx4a65c_get_915e3, Cond.instanceMethod yJx4a65c_get_915e3, Cond.selects RJx4a65c yJx4a65c_get_915e3 yJx4a65c_get_915e3, Cond.code yJx4a65c_get_915e3 cJx4a65c_get_915e3 2 (some (.object "java/lang/Object")), Cond.methodLink RJx4a65c 118 yJ15_checkIndex_7cf53, Cond.static yJ15_checkIndex_7cf53, Cond.initialized RJ15, Cond.code yJ15_checkIndex_7cf53 cJ15_checkIndex_7cf53 2 (some .int), Cond.methodLink RJ15 105 yJ3_checkIndex_8e157, Cond.static yJ3_checkIndex_8e157, Cond.initialized RJ3, Cond.code yJ3_checkIndex_8e157 cJ3_checkIndex_8e157 3 (some .int), Cond.methodLink RJx4a65c 123 yJx4a65c_elementData_915e3]
def wsX2_emptiestMachine_r2 : List Cond := [Cond.instanceMethod yJx4a65c_elementData_915e3, Cond.selects RJx4a65c yJx4a65c_elementData_915e3 yJx4a65c_elementData_915e3, Cond.code yJx4a65c_elementData_915e3 cJx4a65c_elementData_915e3 2 (some (.object "java/lang/Object")), Cond.fieldLink RJx4a65c 9 "java/util/ArrayList" "elementData" "[Ljava/lang/Object;", Cond.methodLink RX2 118 yX0_serves, Cond.instanceMethod yX0_serves, Cond.selects RX0 yX0_serves yX0_serves, Cond.initialized RX0, Cond.code yX0_serves cX0_serves 2 (some .boolean), Cond.fieldLink RX0 9 "TerminalYard$Machine" "condition" "C", Cond.fieldLink RX0 22 "TerminalYard$Machine" "pool" "I", Cond.methodLink RX2 105 yX0_freeSeats, Cond.instanceMethod yX0_freeSeats, Cond.selects RX0 yX0_freeSeats yX0_freeSeats, Cond.code yX0_freeSeats cX0_freeSeats 1 (some .int), Cond.fieldLink RX0 28 "TerminalYard$Machine" "seats" "I", Cond.fieldLink RX0 15 "TerminalYard$Machine" "live" "I"]
def wsX2_emptiestMachine : List Cond := .code yX2_emptiestMachine cX2_emptiestMachine 5 (some (.object "TerminalYard$Machine")) :: ((wsX2_emptiestMachine_r1 ++ wsX2_emptiestMachine_r2) ++ wsX20 ++ wsX00 ++ wsJx4a65c0 ++ (vx_atS RX2 275 "java/util/NoSuchElementException" ["java/lang/RuntimeException", "java/lang/Exception"]).filter goodWord)
def wsX2_next_r1 : List Cond := [Cond.fieldLink RX2 111 "TerminalYard$Machine" "number" "I", Cond.methodLink RX2 50 yX2_checkPool, Cond.static yX2_checkPool, Cond.initialized RX2, Cond.code yX2_checkPool cX2_checkPool 1 none, Cond.classLink RX2 58 "java/lang/IllegalArgumentException", Cond.initialized "java/lang/IllegalArgumentException", Cond.methodLink RX2 54 yX2_isOutside, Cond.static yX2_isOutside, Cond.code yX2_isOutside cX2_isOutside 3 (some .boolean), Cond.methodLink RX2 108 yX2_emptiestMachine, Cond.instanceMethod yX2_emptiestMachine, Cond.selects RX2 yX2_emptiestMachine yX2_emptiestMachine, Cond.code yX2_emptiestMachine cX2_emptiestMachine 5 (some (.object "TerminalYard$Machine")), Cond.classLink RX2 271 "java/util/NoSuchElementException", Cond.initialized "java/util/NoSuchElementException", Cond.fieldLink RX2 36 "TerminalYard" "machines" "Ljava/util/ArrayList;", Cond.classLink RX2 76 "TerminalYard$Machine", Cond.fieldLink RX2 100 "TerminalYard$Machine" "live" "I", Cond.methodLink RX2 67 yJx4a65c_size_8abf5, Cond.instanceMethod yJx4a65c_size_8abf5, Cond.selects RJx4a65c yJx4a65c_size_8abf5 yJx4a65c_size_8abf5, Cond.initialized RJx4a65c, Cond.code yJx4a65c_size_8abf5 cJx4a65c_size_8abf5 1 (some .int)]
def wsX2_next_r2 : List Cond := [Cond.fieldLink RJx4a65c 48 "java/util/ArrayList" "size" "I", Cond.methodLink RX2 114 yJx4a65c_get_915e3, Cond.instanceMethod yJx4a65c_get_915e3, Cond.selects RJx4a65c yJx4a65c_get_915e3 yJx4a65c_get_915e3, Cond.code yJx4a65c_get_915e3 cJx4a65c_get_915e3 2 (some (.object "java/lang/Object")), Cond.methodLink RJx4a65c 118 yJ15_checkIndex_7cf53, Cond.static yJ15_checkIndex_7cf53, Cond.initialized RJ15, Cond.code yJ15_checkIndex_7cf53 cJ15_checkIndex_7cf53 2 (some .int), Cond.methodLink RJ15 105 yJ3_checkIndex_8e157, Cond.static yJ3_checkIndex_8e157, Cond.initialized RJ3, Cond.code yJ3_checkIndex_8e157 cJ3_checkIndex_8e157 3 (some .int), Cond.methodLink RJx4a65c 123 yJx4a65c_elementData_915e3, Cond.instanceMethod yJx4a65c_elementData_915e3, Cond.selects RJx4a65c yJx4a65c_elementData_915e3 yJx4a65c_elementData_915e3, Cond.code yJx4a65c_elementData_915e3 cJx4a65c_elementData_915e3 2 (some (.object "java/lang/Object")), Cond.fieldLink RJx4a65c 9 "java/util/ArrayList" "elementData" "[Ljava/lang/Object;", Cond.methodLink RX2 118 yX0_serves, Cond.instanceMethod yX0_serves, Cond.selects RX0 yX0_serves yX0_serves, Cond.initialized RX0, Cond.code yX0_serves cX0_serves 2 (some .boolean), Cond.fieldLink RX0 9 "TerminalYard$Machine" "condition" "C"]
def wsX2_next_r3 : List Cond := [Cond.fieldLink RX0 22 "TerminalYard$Machine" "pool" "I", Cond.methodLink RX2 105 yX0_freeSeats, Cond.instanceMethod yX0_freeSeats, Cond.selects RX0 yX0_freeSeats yX0_freeSeats, Cond.code yX0_freeSeats cX0_freeSeats 1 (some .int), Cond.fieldLink RX0 28 "TerminalYard$Machine" "seats" "I", Cond.fieldLink RX0 15 "TerminalYard$Machine" "live" "I"]
def wsX2_next : List Cond := .code yX2_next cX2_next 2 (some .int) :: ((wsX2_next_r1 ++ (wsX2_next_r2 ++ wsX2_next_r3)) ++ wsX00 ++ wsX20 ++ wsJx4a65c0 ++ (vx_atS RX2 62 "java/lang/IllegalArgumentException" ["java/lang/RuntimeException", "java/lang/Exception"]).filter goodWord ++ (vx_atS RX2 275 "java/util/NoSuchElementException" ["java/lang/RuntimeException", "java/lang/Exception"]).filter goodWord)
def wsX2_free_r1 : List Cond := [Cond.fieldLink RX2 36 "TerminalYard" "machines" "Ljava/util/ArrayList;", Cond.classLink RX2 76 "TerminalYard$Machine", Cond.methodLink RX2 50 yX2_checkPool, Cond.static yX2_checkPool, Cond.initialized RX2, Cond.code yX2_checkPool cX2_checkPool 1 none, Cond.classLink RX2 58 "java/lang/IllegalArgumentException", Cond.initialized "java/lang/IllegalArgumentException", Cond.methodLink RX2 54 yX2_isOutside, Cond.static yX2_isOutside, Cond.code yX2_isOutside cX2_isOutside 3 (some .boolean), Cond.methodLink RX2 67 yJx4a65c_size_8abf5, Cond.instanceMethod yJx4a65c_size_8abf5, Cond.selects RJx4a65c yJx4a65c_size_8abf5 yJx4a65c_size_8abf5, Cond.initialized RJx4a65c, Cond.code yJx4a65c_size_8abf5 cJx4a65c_size_8abf5 1 (some .int), Cond.fieldLink RJx4a65c 48 "java/util/ArrayList" "size" "I", Cond.methodLink RX2 114 yJx4a65c_get_915e3, Cond.instanceMethod yJx4a65c_get_915e3, Cond.selects RJx4a65c yJx4a65c_get_915e3 yJx4a65c_get_915e3, Cond.code yJx4a65c_get_915e3 cJx4a65c_get_915e3 2 (some (.object "java/lang/Object")), Cond.methodLink RJx4a65c 118 yJ15_checkIndex_7cf53, Cond.static yJ15_checkIndex_7cf53, Cond.initialized RJ15]
def wsX2_free_r2 : List Cond := [Cond.code yJ15_checkIndex_7cf53 cJ15_checkIndex_7cf53 2 (some .int), Cond.methodLink RJ15 105 yJ3_checkIndex_8e157, Cond.static yJ3_checkIndex_8e157, Cond.initialized RJ3, Cond.code yJ3_checkIndex_8e157 cJ3_checkIndex_8e157 3 (some .int), Cond.methodLink RJx4a65c 123 yJx4a65c_elementData_915e3, Cond.instanceMethod yJx4a65c_elementData_915e3, Cond.selects RJx4a65c yJx4a65c_elementData_915e3 yJx4a65c_elementData_915e3, Cond.code yJx4a65c_elementData_915e3 cJx4a65c_elementData_915e3 2 (some (.object "java/lang/Object")), Cond.fieldLink RJx4a65c 9 "java/util/ArrayList" "elementData" "[Ljava/lang/Object;", Cond.methodLink RX2 118 yX0_serves, Cond.instanceMethod yX0_serves, Cond.selects RX0 yX0_serves yX0_serves, Cond.initialized RX0, Cond.code yX0_serves cX0_serves 2 (some .boolean), Cond.fieldLink RX0 9 "TerminalYard$Machine" "condition" "C", Cond.fieldLink RX0 22 "TerminalYard$Machine" "pool" "I", Cond.methodLink RX2 105 yX0_freeSeats, Cond.instanceMethod yX0_freeSeats, Cond.selects RX0 yX0_freeSeats yX0_freeSeats, Cond.code yX0_freeSeats cX0_freeSeats 1 (some .int), Cond.fieldLink RX0 28 "TerminalYard$Machine" "seats" "I", Cond.fieldLink RX0 15 "TerminalYard$Machine" "live" "I"]
def wsX2_free : List Cond := .code yX2_free cX2_free 5 (some .int) :: ((wsX2_free_r1 ++ wsX2_free_r2) ++ wsX20 ++ wsJx4a65c0 ++ wsX00 ++ (vx_atS RX2 62 "java/lang/IllegalArgumentException" ["java/lang/RuntimeException", "java/lang/Exception"]).filter goodWord)
def wsX2_checkUser : List Cond := .code yX2_checkUser cX2_checkUser 1 none :: ([.classLink RX2 58 "java/lang/IllegalArgumentException", .initialized "java/lang/IllegalArgumentException", .methodLink RX2 54 yX2_isOutside, .static yX2_isOutside, .initialized RX2, .code yX2_isOutside cX2_isOutside 3 (some .boolean)] ++ (vx_atS RX2 62 "java/lang/IllegalArgumentException" ["java/lang/RuntimeException", "java/lang/Exception"]).filter goodWord)
def wsX2_checkDepartment : List Cond := .code yX2_checkDepartment cX2_checkDepartment 1 none :: ([.classLink RX2 58 "java/lang/IllegalArgumentException", .initialized "java/lang/IllegalArgumentException", .methodLink RX2 54 yX2_isOutside, .static yX2_isOutside, .initialized RX2, .code yX2_isOutside cX2_isOutside 3 (some .boolean)] ++ (vx_atS RX2 62 "java/lang/IllegalArgumentException" ["java/lang/RuntimeException", "java/lang/Exception"]).filter goodWord)
def wsX2_assign : List Cond := .code yX2_assign cX2_assign 4 (some .int) :: ([.fieldLink RX2 19 "TerminalYard" "departmentOf" "[I", .methodLink RX2 122 yX2_checkUser, .static yX2_checkUser, .initialized RX2, .code yX2_checkUser cX2_checkUser 1 none, .classLink RX2 58 "java/lang/IllegalArgumentException", .initialized "java/lang/IllegalArgumentException", .methodLink RX2 54 yX2_isOutside, .static yX2_isOutside, .code yX2_isOutside cX2_isOutside 3 (some .boolean), .methodLink RX2 125 yX2_checkDepartment, .static yX2_checkDepartment, .code yX2_checkDepartment cX2_checkDepartment 1 none] ++ wsX20 ++ (vx_atM "java/lang/ArrayIndexOutOfBoundsException" ["java/lang/IndexOutOfBoundsException", "java/lang/RuntimeException", "java/lang/Exception"]).filter goodWord ++ (vx_atS RX2 62 "java/lang/IllegalArgumentException" ["java/lang/RuntimeException", "java/lang/Exception"]).filter goodWord)
def wsX2_checkTrade : List Cond := .code yX2_checkTrade cX2_checkTrade 1 none :: ([.classLink RX2 58 "java/lang/IllegalArgumentException", .initialized "java/lang/IllegalArgumentException", .methodLink RX2 54 yX2_isOutside, .static yX2_isOutside, .initialized RX2, .code yX2_isOutside cX2_isOutside 3 (some .boolean)] ++ (vx_atS RX2 62 "java/lang/IllegalArgumentException" ["java/lang/RuntimeException", "java/lang/Exception"]).filter goodWord)
def wsX2_buy : List Cond := .code yX2_buy cX2_buy 3 (some .int) :: ([.classLink RX2 71 "java/lang/IllegalStateException", .initialized "java/lang/IllegalStateException", .fieldLink RX2 22 "TerminalYard" "kept" "[I", .constant RX2 131 (99999), .fieldLink RX2 25 "TerminalYard" "bought" "[I", .methodLink RX2 125 yX2_checkDepartment, .static yX2_checkDepartment, .initialized RX2, .code yX2_checkDepartment cX2_checkDepartment 1 none, .classLink RX2 58 "java/lang/IllegalArgumentException", .initialized "java/lang/IllegalArgumentException", .methodLink RX2 54 yX2_isOutside, .static yX2_isOutside, .code yX2_isOutside cX2_isOutside 3 (some .boolean), .methodLink RX2 128 yX2_checkTrade, .static yX2_checkTrade, .code yX2_checkTrade cX2_checkTrade 1 none] ++ wsX20 ++ (vx_atM "java/lang/ArrayIndexOutOfBoundsException" ["java/lang/IndexOutOfBoundsException", "java/lang/RuntimeException", "java/lang/Exception"]).filter goodWord ++ (vx_atS RX2 75 "java/lang/IllegalStateException" ["java/lang/RuntimeException", "java/lang/Exception"]).filter goodWord ++ (vx_atS RX2 62 "java/lang/IllegalArgumentException" ["java/lang/RuntimeException", "java/lang/Exception"]).filter goodWord)
def wsX2_checkPair : List Cond := .code yX2_checkPair cX2_checkPair 2 none :: ([.classLink RX2 58 "java/lang/IllegalArgumentException", .initialized "java/lang/IllegalArgumentException", .methodLink RX2 125 yX2_checkDepartment, .static yX2_checkDepartment, .initialized RX2, .code yX2_checkDepartment cX2_checkDepartment 1 none, .methodLink RX2 54 yX2_isOutside, .static yX2_isOutside, .code yX2_isOutside cX2_isOutside 3 (some .boolean)] ++ (vx_atS RX2 62 "java/lang/IllegalArgumentException" ["java/lang/RuntimeException", "java/lang/Exception"]).filter goodWord)
def wsX2_checkStock : List Cond := .code yX2_checkStock cX2_checkStock 3 none :: ([.classLink RX2 257 "java/lang/UnsupportedOperationException", .initialized "java/lang/UnsupportedOperationException", .fieldLink RX2 22 "TerminalYard" "kept" "[I"] ++ wsX20 ++ (vx_atM "java/lang/ArrayIndexOutOfBoundsException" ["java/lang/IndexOutOfBoundsException", "java/lang/RuntimeException", "java/lang/Exception"]).filter goodWord ++ (vx_atS RX2 261 "java/lang/UnsupportedOperationException" ["java/lang/RuntimeException", "java/lang/Exception"]).filter goodWord)
def wsX2_move : List Cond := .code yX2_move cX2_move 4 none :: ([.fieldLink RX2 22 "TerminalYard" "kept" "[I"] ++ wsX20 ++ (vx_atM "java/lang/ArrayIndexOutOfBoundsException" ["java/lang/IndexOutOfBoundsException", "java/lang/RuntimeException", "java/lang/Exception"]).filter goodWord)
def wsX2_lend_r1 : List Cond := [Cond.fieldLink RX2 30 "TerminalYard" "owed" "[[I", Cond.methodLink RX2 134 yX2_checkPair, Cond.static yX2_checkPair, Cond.initialized RX2, Cond.code yX2_checkPair cX2_checkPair 2 none, Cond.classLink RX2 58 "java/lang/IllegalArgumentException", Cond.initialized "java/lang/IllegalArgumentException", Cond.methodLink RX2 125 yX2_checkDepartment, Cond.static yX2_checkDepartment, Cond.code yX2_checkDepartment cX2_checkDepartment 1 none, Cond.methodLink RX2 54 yX2_isOutside, Cond.static yX2_isOutside, Cond.code yX2_isOutside cX2_isOutside 3 (some .boolean), Cond.methodLink RX2 128 yX2_checkTrade, Cond.static yX2_checkTrade, Cond.code yX2_checkTrade cX2_checkTrade 1 none, Cond.methodLink RX2 138 yX2_checkStock, Cond.instanceMethod yX2_checkStock, Cond.selects RX2 yX2_checkStock yX2_checkStock, Cond.code yX2_checkStock cX2_checkStock 3 none, Cond.classLink RX2 257 "java/lang/UnsupportedOperationException", Cond.initialized "java/lang/UnsupportedOperationException", Cond.fieldLink RX2 22 "TerminalYard" "kept" "[I", Cond.methodLink RX2 141 yX2_move]
def wsX2_lend_r2 : List Cond := [Cond.instanceMethod yX2_move, Cond.selects RX2 yX2_move yX2_move, Cond.code yX2_move cX2_move 4 none]
def wsX2_lend : List Cond := .code yX2_lend cX2_lend 4 (some .int) :: ((wsX2_lend_r1 ++ wsX2_lend_r2) ++ wsX20 ++ (vx_atM "java/lang/ArrayIndexOutOfBoundsException" ["java/lang/IndexOutOfBoundsException", "java/lang/RuntimeException", "java/lang/Exception"]).filter goodWord ++ (vx_atS RX2 62 "java/lang/IllegalArgumentException" ["java/lang/RuntimeException", "java/lang/Exception"]).filter goodWord ++ (vx_atS RX2 261 "java/lang/UnsupportedOperationException" ["java/lang/RuntimeException", "java/lang/Exception"]).filter goodWord)
def wsX2_giveBack_r1 : List Cond := [Cond.classLink RX2 71 "java/lang/IllegalStateException", Cond.initialized "java/lang/IllegalStateException", Cond.fieldLink RX2 30 "TerminalYard" "owed" "[[I", Cond.methodLink RX2 134 yX2_checkPair, Cond.static yX2_checkPair, Cond.initialized RX2, Cond.code yX2_checkPair cX2_checkPair 2 none, Cond.classLink RX2 58 "java/lang/IllegalArgumentException", Cond.initialized "java/lang/IllegalArgumentException", Cond.methodLink RX2 125 yX2_checkDepartment, Cond.static yX2_checkDepartment, Cond.code yX2_checkDepartment cX2_checkDepartment 1 none, Cond.methodLink RX2 54 yX2_isOutside, Cond.static yX2_isOutside, Cond.code yX2_isOutside cX2_isOutside 3 (some .boolean), Cond.methodLink RX2 128 yX2_checkTrade, Cond.static yX2_checkTrade, Cond.code yX2_checkTrade cX2_checkTrade 1 none, Cond.methodLink RX2 138 yX2_checkStock, Cond.instanceMethod yX2_checkStock, Cond.selects RX2 yX2_checkStock yX2_checkStock, Cond.code yX2_checkStock cX2_checkStock 3 none, Cond.classLink RX2 257 "java/lang/UnsupportedOperationException", Cond.initialized "java/lang/UnsupportedOperationException"]
def wsX2_giveBack_r2 : List Cond := [Cond.fieldLink RX2 22 "TerminalYard" "kept" "[I", Cond.methodLink RX2 141 yX2_move, Cond.instanceMethod yX2_move, Cond.selects RX2 yX2_move yX2_move, Cond.code yX2_move cX2_move 4 none]
def wsX2_giveBack : List Cond := .code yX2_giveBack cX2_giveBack 4 (some .int) :: ((wsX2_giveBack_r1 ++ wsX2_giveBack_r2) ++ wsX20 ++ (vx_atM "java/lang/ArrayIndexOutOfBoundsException" ["java/lang/IndexOutOfBoundsException", "java/lang/RuntimeException", "java/lang/Exception"]).filter goodWord ++ (vx_atS RX2 75 "java/lang/IllegalStateException" ["java/lang/RuntimeException", "java/lang/Exception"]).filter goodWord ++ (vx_atS RX2 62 "java/lang/IllegalArgumentException" ["java/lang/RuntimeException", "java/lang/Exception"]).filter goodWord ++ (vx_atS RX2 261 "java/lang/UnsupportedOperationException" ["java/lang/RuntimeException", "java/lang/Exception"]).filter goodWord)
def wsX2_minutes : List Cond := .code yX2_minutes cX2_minutes 2 (some .int) :: ([.fieldLink RX2 22 "TerminalYard" "kept" "[I", .methodLink RX2 125 yX2_checkDepartment, .static yX2_checkDepartment, .initialized RX2, .code yX2_checkDepartment cX2_checkDepartment 1 none, .classLink RX2 58 "java/lang/IllegalArgumentException", .initialized "java/lang/IllegalArgumentException", .methodLink RX2 54 yX2_isOutside, .static yX2_isOutside, .code yX2_isOutside cX2_isOutside 3 (some .boolean)] ++ wsX20 ++ (vx_atM "java/lang/ArrayIndexOutOfBoundsException" ["java/lang/IndexOutOfBoundsException", "java/lang/RuntimeException", "java/lang/Exception"]).filter goodWord ++ (vx_atS RX2 62 "java/lang/IllegalArgumentException" ["java/lang/RuntimeException", "java/lang/Exception"]).filter goodWord)
def wsX2_minutesBySessions_r1 : List Cond := [Cond.fieldLink RX2 25 "TerminalYard" "bought" "[I", Cond.fieldLink RX2 30 "TerminalYard" "owed" "[[I", Cond.fieldLink RX2 40 "TerminalYard" "sessions" "Ljava/util/ArrayList;", Cond.classLink RX2 147 "TerminalYard$Session", Cond.fieldLink RX2 149 "TerminalYard$Session" "chargedFrom" "[I", Cond.methodLink RX2 125 yX2_checkDepartment, Cond.static yX2_checkDepartment, Cond.initialized RX2, Cond.code yX2_checkDepartment cX2_checkDepartment 1 none, Cond.classLink RX2 58 "java/lang/IllegalArgumentException", Cond.initialized "java/lang/IllegalArgumentException", Cond.methodLink RX2 54 yX2_isOutside, Cond.static yX2_isOutside, Cond.code yX2_isOutside cX2_isOutside 3 (some .boolean), Cond.methodLink RX2 67 yJx4a65c_size_8abf5, Cond.instanceMethod yJx4a65c_size_8abf5, Cond.selects RJx4a65c yJx4a65c_size_8abf5 yJx4a65c_size_8abf5, Cond.initialized RJx4a65c, Cond.code yJx4a65c_size_8abf5 cJx4a65c_size_8abf5 1 (some .int), Cond.fieldLink RJx4a65c 48 "java/util/ArrayList" "size" "I", Cond.methodLink RX2 114 yJx4a65c_get_915e3, Cond.instanceMethod yJx4a65c_get_915e3, Cond.selects RJx4a65c yJx4a65c_get_915e3 yJx4a65c_get_915e3, Cond.code yJx4a65c_get_915e3 cJx4a65c_get_915e3 2 (some (.object "java/lang/Object"))]
def wsX2_minutesBySessions_r2 : List Cond := [Cond.methodLink RJx4a65c 118 yJ15_checkIndex_7cf53, Cond.static yJ15_checkIndex_7cf53, Cond.initialized RJ15, Cond.code yJ15_checkIndex_7cf53 cJ15_checkIndex_7cf53 2 (some .int), Cond.methodLink RJ15 105 yJ3_checkIndex_8e157, Cond.static yJ3_checkIndex_8e157, Cond.initialized RJ3, Cond.code yJ3_checkIndex_8e157 cJ3_checkIndex_8e157 3 (some .int), Cond.methodLink RJx4a65c 123 yJx4a65c_elementData_915e3, Cond.instanceMethod yJx4a65c_elementData_915e3, Cond.selects RJx4a65c yJx4a65c_elementData_915e3 yJx4a65c_elementData_915e3, Cond.code yJx4a65c_elementData_915e3 cJx4a65c_elementData_915e3 2 (some (.object "java/lang/Object")), Cond.fieldLink RJx4a65c 9 "java/util/ArrayList" "elementData" "[Ljava/lang/Object;"]
def wsX2_minutesBySessions : List Cond := .code yX2_minutesBySessions cX2_minutesBySessions 4 (some .int) :: ((wsX2_minutesBySessions_r1 ++ wsX2_minutesBySessions_r2) ++ wsX20 ++ wsX10 ++ wsJx4a65c0 ++ (vx_atM "java/lang/ArrayIndexOutOfBoundsException" ["java/lang/IndexOutOfBoundsException", "java/lang/RuntimeException", "java/lang/Exception"]).filter goodWord ++ (vx_atS RX2 62 "java/lang/IllegalArgumentException" ["java/lang/RuntimeException", "java/lang/Exception"]).filter goodWord)
def wsX2_ownsLiveSession_r1 : List Cond := [Cond.fieldLink RX2 40 "TerminalYard" "sessions" "Ljava/util/ArrayList;", Cond.classLink RX2 147 "TerminalYard$Session", Cond.fieldLink RX2 192 "TerminalYard$Session" "owner" "I", Cond.methodLink RX2 67 yJx4a65c_size_8abf5, Cond.instanceMethod yJx4a65c_size_8abf5, Cond.selects RJx4a65c yJx4a65c_size_8abf5 yJx4a65c_size_8abf5, Cond.initialized RJx4a65c, Cond.code yJx4a65c_size_8abf5 cJx4a65c_size_8abf5 1 (some .int), Cond.fieldLink RJx4a65c 48 "java/util/ArrayList" "size" "I", Cond.methodLink RX2 114 yJx4a65c_get_915e3, Cond.instanceMethod yJx4a65c_get_915e3, Cond.selects RJx4a65c yJx4a65c_get_915e3 yJx4a65c_get_915e3, Cond.code yJx4a65c_get_915e3 cJx4a65c_get_915e3 2 (some (.object "java/lang/Object")), Cond.methodLink RJx4a65c 118 yJ15_checkIndex_7cf53, Cond.static yJ15_checkIndex_7cf53, Cond.initialized RJ15, Cond.code yJ15_checkIndex_7cf53 cJ15_checkIndex_7cf53 2 (some .int), Cond.methodLink RJ15 105 yJ3_checkIndex_8e157, Cond.static yJ3_checkIndex_8e157, Cond.initialized RJ3, Cond.code yJ3_checkIndex_8e157 cJ3_checkIndex_8e157 3 (some .int), Cond.methodLink RJx4a65c 123 yJx4a65c_elementData_915e3, Cond.instanceMethod yJx4a65c_elementData_915e3, Cond.selects RJx4a65c yJx4a65c_elementData_915e3 yJx4a65c_elementData_915e3]
def wsX2_ownsLiveSession_r2 : List Cond := [Cond.code yJx4a65c_elementData_915e3 cJx4a65c_elementData_915e3 2 (some (.object "java/lang/Object")), Cond.fieldLink RJx4a65c 9 "java/util/ArrayList" "elementData" "[Ljava/lang/Object;", Cond.methodLink RX2 210 yX1_isLive, Cond.instanceMethod yX1_isLive, Cond.selects RX1 yX1_isLive yX1_isLive, Cond.initialized RX1, Cond.code yX1_isLive cX1_isLive 1 (some .boolean), Cond.fieldLink RX1 15 "TerminalYard$Session" "condition" "C"]
def wsX2_ownsLiveSession : List Cond := .code yX2_ownsLiveSession cX2_ownsLiveSession 4 (some .boolean) :: ((wsX2_ownsLiveSession_r1 ++ wsX2_ownsLiveSession_r2) ++ wsX20 ++ wsX10 ++ wsJx4a65c0)
def wsX2_logIn_r1 : List Cond := [Cond.classLink RX2 71 "java/lang/IllegalStateException", Cond.initialized "java/lang/IllegalStateException", Cond.fieldLink RX2 40 "TerminalYard" "sessions" "Ljava/util/ArrayList;", Cond.fieldLink RX2 19 "TerminalYard" "departmentOf" "[I", Cond.fieldLink RX2 100 "TerminalYard$Machine" "live" "I", Cond.classLink RX2 147 RX1, Cond.instantiable RX1 7, Cond.initialized RX1, Cond.fieldLink RX2 43 "TerminalYard" "now" "I", Cond.methodLink RX2 122 yX2_checkUser, Cond.static yX2_checkUser, Cond.initialized RX2, Cond.code yX2_checkUser cX2_checkUser 1 none, Cond.classLink RX2 58 "java/lang/IllegalArgumentException", Cond.initialized "java/lang/IllegalArgumentException", Cond.methodLink RX2 54 yX2_isOutside, Cond.static yX2_isOutside, Cond.code yX2_isOutside cX2_isOutside 3 (some .boolean), Cond.methodLink RX2 50 yX2_checkPool, Cond.static yX2_checkPool, Cond.code yX2_checkPool cX2_checkPool 1 none, Cond.methodLink RX2 152 yX2_ownsLiveSession, Cond.instanceMethod yX2_ownsLiveSession, Cond.selects RX2 yX2_ownsLiveSession yX2_ownsLiveSession]
def wsX2_logIn_r2 : List Cond := [Cond.code yX2_ownsLiveSession cX2_ownsLiveSession 4 (some .boolean), Cond.classLink RX2 147 "TerminalYard$Session", Cond.fieldLink RX2 192 "TerminalYard$Session" "owner" "I", Cond.methodLink RX2 67 yJx4a65c_size_8abf5, Cond.instanceMethod yJx4a65c_size_8abf5, Cond.selects RJx4a65c yJx4a65c_size_8abf5 yJx4a65c_size_8abf5, Cond.initialized RJx4a65c, Cond.code yJx4a65c_size_8abf5 cJx4a65c_size_8abf5 1 (some .int), Cond.fieldLink RJx4a65c 48 "java/util/ArrayList" "size" "I", Cond.methodLink RX2 114 yJx4a65c_get_915e3, Cond.instanceMethod yJx4a65c_get_915e3, Cond.selects RJx4a65c yJx4a65c_get_915e3 yJx4a65c_get_915e3, Cond.code yJx4a65c_get_915e3 cJx4a65c_get_915e3 2 (some (.object "java/lang/Object")), Cond.methodLink RJx4a65c 118 yJ15_checkIndex_7cf53, Cond.static yJ15_checkIndex_7cf53, Cond.initialized RJ15, Cond.code yJ15_checkIndex_7cf53 cJ15_checkIndex_7cf53 2 (some .int), Cond.methodLink RJ15 105 yJ3_checkIndex_8e157, Cond.static yJ3_checkIndex_8e157, Cond.initialized RJ3, Cond.code yJ3_checkIndex_8e157 cJ3_checkIndex_8e157 3 (some .int), Cond.methodLink RJx4a65c 123 yJx4a65c_elementData_915e3, Cond.instanceMethod yJx4a65c_elementData_915e3, Cond.selects RJx4a65c yJx4a65c_elementData_915e3 yJx4a65c_elementData_915e3]
def wsX2_logIn_r3 : List Cond := [Cond.code yJx4a65c_elementData_915e3 cJx4a65c_elementData_915e3 2 (some (.object "java/lang/Object")), Cond.fieldLink RJx4a65c 9 "java/util/ArrayList" "elementData" "[Ljava/lang/Object;", Cond.methodLink RX2 210 yX1_isLive, Cond.instanceMethod yX1_isLive, Cond.selects RX1 yX1_isLive yX1_isLive, Cond.code yX1_isLive cX1_isLive 1 (some .boolean), Cond.fieldLink RX1 15 "TerminalYard$Session" "condition" "C", Cond.methodLink RX2 138 yX2_checkStock, Cond.instanceMethod yX2_checkStock, Cond.selects RX2 yX2_checkStock yX2_checkStock, Cond.code yX2_checkStock cX2_checkStock 3 none, Cond.classLink RX2 257 "java/lang/UnsupportedOperationException", Cond.initialized "java/lang/UnsupportedOperationException", Cond.fieldLink RX2 22 "TerminalYard" "kept" "[I", Cond.methodLink RX2 108 yX2_emptiestMachine, Cond.instanceMethod yX2_emptiestMachine, Cond.selects RX2 yX2_emptiestMachine yX2_emptiestMachine, Cond.code yX2_emptiestMachine cX2_emptiestMachine 5 (some (.object "TerminalYard$Machine")), Cond.classLink RX2 271 "java/util/NoSuchElementException", Cond.initialized "java/util/NoSuchElementException", Cond.fieldLink RX2 36 "TerminalYard" "machines" "Ljava/util/ArrayList;", Cond.classLink RX2 76 "TerminalYard$Machine", Cond.methodLink RX2 118 yX0_serves, Cond.instanceMethod yX0_serves]
def wsX2_logIn_r4 : List Cond := [Cond.selects RX0 yX0_serves yX0_serves, Cond.initialized RX0, Cond.code yX0_serves cX0_serves 2 (some .boolean), Cond.fieldLink RX0 9 "TerminalYard$Machine" "condition" "C", Cond.fieldLink RX0 22 "TerminalYard$Machine" "pool" "I", Cond.methodLink RX2 105 yX0_freeSeats, Cond.instanceMethod yX0_freeSeats, Cond.selects RX0 yX0_freeSeats yX0_freeSeats, Cond.code yX0_freeSeats cX0_freeSeats 1 (some .int), Cond.fieldLink RX0 28 "TerminalYard$Machine" "seats" "I", Cond.fieldLink RX0 15 "TerminalYard$Machine" "live" "I", Cond.methodLink RX2 159 yX1_init, Cond.instanceMethod yX1_init, Cond.code yX1_init cX1_init 4 none, Cond.methodLink RX1 3 objectInit, Cond.instanceMethod objectInit, Cond.code objectInit ⟨#[0xb1]⟩ 1 none, Cond.arrayClass .int, Cond.fieldLink RX1 9 "TerminalYard$Session" "chargedFrom" "[I", Cond.fieldLink RX1 19 "TerminalYard$Session" "owner" "I", Cond.fieldLink RX1 23 "TerminalYard$Session" "host" "LTerminalYard$Machine;", Cond.fieldLink RX1 27 "TerminalYard$Session" "began" "I", Cond.fieldLink RX1 30 "TerminalYard$Session" "holder" "I", Cond.fieldLink RX1 33 "TerminalYard$Session" "usedLast" "I"]
def wsX2_logIn_r5 : List Cond := [Cond.methodLink RX2 81 yJx4a65c_add_9ea2d, Cond.instanceMethod yJx4a65c_add_9ea2d, Cond.selects RJx4a65c yJx4a65c_add_9ea2d yJx4a65c_add_9ea2d, Cond.code yJx4a65c_add_9ea2d cJx4a65c_add_9ea2d 2 (some .boolean), Cond.fieldLink RJx4a65c 63 "java/util/ArrayList" "modCount" "I", Cond.sameField "java/util/ArrayList" "java/util/AbstractList" "modCount" "I", Cond.methodLink RJx4a65c 131 yJx4a65c_add_72be8, Cond.instanceMethod yJx4a65c_add_72be8, Cond.selects RJx4a65c yJx4a65c_add_72be8 yJx4a65c_add_72be8, Cond.code yJx4a65c_add_72be8 cJx4a65c_add_72be8 4 none, Cond.methodLink RJx4a65c 129 yJx4a65c_grow_d5877, Cond.instanceMethod yJx4a65c_grow_d5877, Cond.selects RJx4a65c yJx4a65c_grow_d5877 yJx4a65c_grow_d5877, Cond.code yJx4a65c_grow_d5877 cJx4a65c_grow_d5877 1 (some (.array (.object "java/lang/Object"))), Cond.methodLink RJx4a65c 69 yJx4a65c_grow_92f84, Cond.instanceMethod yJx4a65c_grow_92f84, Cond.selects RJx4a65c yJx4a65c_grow_92f84 yJx4a65c_grow_92f84, Cond.code yJx4a65c_grow_92f84 cJx4a65c_grow_92f84 4 (some (.array (.object "java/lang/Object"))), Cond.fieldLink RJx4a65c 39 "java/util/ArrayList" "DEFAULTCAPACITY_EMPTY_ELEMENTDATA" "[Ljava/lang/Object;", Cond.methodLink RJx4a65c 79 Lib.Math.max.name, Cond.static Lib.Math.max.name, Cond.initialized "java/lang/Math", Cond.code Lib.Math.max.name Lib.Math.max.code 2 (some .int), Cond.classLink RJx4a65c 7 "java/lang/Object"]
def wsX2_logIn_r6 : List Cond := [Cond.methodLink RJx4a65c 73 yJ8_newLength_cabcc, Cond.static yJ8_newLength_cabcc, Cond.initialized RJ8, Cond.code yJ8_newLength_cabcc cJ8_newLength_cabcc 4 (some .int), Cond.methodLink RJ8 194 Lib.Math.max.name, Cond.constant RJ8 200 (2147483639), Cond.methodLink RJ8 201 yJ8_hugeLength_7cf53, Cond.static yJ8_hugeLength_7cf53, Cond.code yJ8_hugeLength_7cf53 cJ8_hugeLength_7cf53 3 (some .int), Cond.methodLink RJx4a65c 66 yJ7_copyOf_1904c, Cond.static yJ7_copyOf_1904c, Cond.initialized RJ7, Cond.code yJ7_copyOf_1904c cJ7_copyOf_1904c 2 (some (.array (.object "java/lang/Object"))), Cond.methodLink RJ7 86 ⟨"java/lang/Object", "getClass", "()Ljava/lang/Class;"⟩, Cond.selects "[Ljava/lang/Object;" ⟨"java/lang/Object", "getClass", "()Ljava/lang/Class;"⟩ ⟨"java/lang/Object", "getClass", "()Ljava/lang/Class;"⟩, Cond.instanceMethod ⟨"java/lang/Object", "getClass", "()Ljava/lang/Class;"⟩, Cond.native ⟨"java/lang/Object", "getClass", "()Ljava/lang/Class;"⟩, Cond.methodLink RJ7 300 yJ7_copyOf_6403c, Cond.static yJ7_copyOf_6403c, Cond.code yJ7_copyOf_6403c cJ7_copyOf_6403c 4 (some (.array (.object "java/lang/Object"))), Cond.classLink RJ7 110 "[Ljava/lang/Object;", Cond.classLink RJ7 2 "java/lang/Object", Cond.methodLink RJ7 304 Lib.Math.min.name, Cond.static Lib.Math.min.name]
def wsX2_logIn_r7 : List Cond := [Cond.code Lib.Math.min.name Lib.Math.min.code 2 (some .int), Cond.methodLink RJ7 150 arraycopyName, Cond.native arraycopyName, Cond.static arraycopyName, Cond.initialized "java/lang/System"]
def wsX2_logIn : List Cond := .code yX2_logIn cX2_logIn 5 (some .int) :: ((wsX2_logIn_r1 ++ (wsX2_logIn_r2 ++ (wsX2_logIn_r3 ++ (wsX2_logIn_r4 ++ (wsX2_logIn_r5 ++ (wsX2_logIn_r6 ++ wsX2_logIn_r7)))))) ++ wsX20 ++ wsX00 ++ wsX10 ++ wsJx4a65c0 ++ (vx_atS RX2 75 "java/lang/IllegalStateException" ["java/lang/RuntimeException", "java/lang/Exception"]).filter goodWord ++ (vx_atM "java/lang/ArrayIndexOutOfBoundsException" ["java/lang/IndexOutOfBoundsException", "java/lang/RuntimeException", "java/lang/Exception"]).filter goodWord ++ (vx_atS RX2 62 "java/lang/IllegalArgumentException" ["java/lang/RuntimeException", "java/lang/Exception"]).filter goodWord ++ (vx_atS RX2 261 "java/lang/UnsupportedOperationException" ["java/lang/RuntimeException", "java/lang/Exception"]).filter goodWord ++ (vx_atS RX2 275 "java/util/NoSuchElementException" ["java/lang/RuntimeException", "java/lang/Exception"]).filter goodWord)
def wsX2_sessionAt_r1 : List Cond := [Cond.classLink RX2 264 "java/lang/IndexOutOfBoundsException", Cond.initialized "java/lang/IndexOutOfBoundsException", Cond.fieldLink RX2 40 "TerminalYard" "sessions" "Ljava/util/ArrayList;", Cond.classLink RX2 147 "TerminalYard$Session", Cond.methodLink RX2 67 yJx4a65c_size_8abf5, Cond.instanceMethod yJx4a65c_size_8abf5, Cond.selects RJx4a65c yJx4a65c_size_8abf5 yJx4a65c_size_8abf5, Cond.initialized RJx4a65c, Cond.code yJx4a65c_size_8abf5 cJx4a65c_size_8abf5 1 (some .int), Cond.fieldLink RJx4a65c 48 "java/util/ArrayList" "size" "I", Cond.methodLink RX2 54 yX2_isOutside, Cond.static yX2_isOutside, Cond.initialized RX2, Cond.code yX2_isOutside cX2_isOutside 3 (some .boolean), Cond.methodLink RX2 114 yJx4a65c_get_915e3, Cond.instanceMethod yJx4a65c_get_915e3, Cond.selects RJx4a65c yJx4a65c_get_915e3 yJx4a65c_get_915e3, Cond.code yJx4a65c_get_915e3 cJx4a65c_get_915e3 2 (some (.object "java/lang/Object")), Cond.methodLink RJx4a65c 118 yJ15_checkIndex_7cf53, Cond.static yJ15_checkIndex_7cf53, Cond.initialized RJ15, Cond.code yJ15_checkIndex_7cf53 cJ15_checkIndex_7cf53 2 (some .int), Cond.methodLink RJ15 105 yJ3_checkIndex_8e157, Cond.static yJ3_checkIndex_8e157]
def wsX2_sessionAt_r2 : List Cond := [Cond.initialized RJ3, Cond.code yJ3_checkIndex_8e157 cJ3_checkIndex_8e157 3 (some .int), Cond.methodLink RJx4a65c 123 yJx4a65c_elementData_915e3, Cond.instanceMethod yJx4a65c_elementData_915e3, Cond.selects RJx4a65c yJx4a65c_elementData_915e3 yJx4a65c_elementData_915e3, Cond.code yJx4a65c_elementData_915e3 cJx4a65c_elementData_915e3 2 (some (.object "java/lang/Object")), Cond.fieldLink RJx4a65c 9 "java/util/ArrayList" "elementData" "[Ljava/lang/Object;"]
def wsX2_sessionAt : List Cond := .code yX2_sessionAt cX2_sessionAt 2 (some (.object "TerminalYard$Session")) :: ((wsX2_sessionAt_r1 ++ wsX2_sessionAt_r2) ++ wsX20 ++ wsJx4a65c0 ++ (vx_atS RX2 268 "java/lang/IndexOutOfBoundsException" ["java/lang/RuntimeException", "java/lang/Exception"]).filter goodWord)
def wsX2_checkLive : List Cond := .code yX2_checkLive cX2_checkLive 1 none :: ([.classLink RX2 71 "java/lang/IllegalStateException", .initialized "java/lang/IllegalStateException", .methodLink RX2 210 yX1_isLive, .instanceMethod yX1_isLive, .selects RX1 yX1_isLive yX1_isLive, .initialized RX1, .code yX1_isLive cX1_isLive 1 (some .boolean), .fieldLink RX1 15 "TerminalYard$Session" "condition" "C"] ++ wsX10 ++ (vx_atS RX2 75 "java/lang/IllegalStateException" ["java/lang/RuntimeException", "java/lang/Exception"]).filter goodWord)
def wsX2_liveSessionAt_r1 : List Cond := [Cond.methodLink RX2 176 yX2_sessionAt, Cond.instanceMethod yX2_sessionAt, Cond.selects RX2 yX2_sessionAt yX2_sessionAt, Cond.initialized RX2, Cond.code yX2_sessionAt cX2_sessionAt 2 (some (.object "TerminalYard$Session")), Cond.classLink RX2 264 "java/lang/IndexOutOfBoundsException", Cond.initialized "java/lang/IndexOutOfBoundsException", Cond.fieldLink RX2 40 "TerminalYard" "sessions" "Ljava/util/ArrayList;", Cond.classLink RX2 147 "TerminalYard$Session", Cond.methodLink RX2 67 yJx4a65c_size_8abf5, Cond.instanceMethod yJx4a65c_size_8abf5, Cond.selects RJx4a65c yJx4a65c_size_8abf5 yJx4a65c_size_8abf5, Cond.initialized RJx4a65c, Cond.code yJx4a65c_size_8abf5 cJx4a65c_size_8abf5 1 (some .int), Cond.fieldLink RJx4a65c 48 "java/util/ArrayList" "size" "I", Cond.methodLink RX2 54 yX2_isOutside, Cond.static yX2_isOutside, Cond.code yX2_isOutside cX2_isOutside 3 (some .boolean), Cond.methodLink RX2 114 yJx4a65c_get_915e3, Cond.instanceMethod yJx4a65c_get_915e3, Cond.selects RJx4a65c yJx4a65c_get_915e3 yJx4a65c_get_915e3, Cond.code yJx4a65c_get_915e3 cJx4a65c_get_915e3 2 (some (.object "java/lang/Object")), Cond.methodLink RJx4a65c 118 yJ15_checkIndex_7cf53, Cond.static yJ15_checkIndex_7cf53]
def wsX2_liveSessionAt_r2 : List Cond := [Cond.initialized RJ15, Cond.code yJ15_checkIndex_7cf53 cJ15_checkIndex_7cf53 2 (some .int), Cond.methodLink RJ15 105 yJ3_checkIndex_8e157, Cond.static yJ3_checkIndex_8e157, Cond.initialized RJ3, Cond.code yJ3_checkIndex_8e157 cJ3_checkIndex_8e157 3 (some .int), Cond.methodLink RJx4a65c 123 yJx4a65c_elementData_915e3, Cond.instanceMethod yJx4a65c_elementData_915e3, Cond.selects RJx4a65c yJx4a65c_elementData_915e3 yJx4a65c_elementData_915e3, Cond.code yJx4a65c_elementData_915e3 cJx4a65c_elementData_915e3 2 (some (.object "java/lang/Object")), Cond.fieldLink RJx4a65c 9 "java/util/ArrayList" "elementData" "[Ljava/lang/Object;", Cond.methodLink RX2 184 yX2_checkLive, Cond.static yX2_checkLive, Cond.code yX2_checkLive cX2_checkLive 1 none, Cond.classLink RX2 71 "java/lang/IllegalStateException", Cond.initialized "java/lang/IllegalStateException", Cond.methodLink RX2 210 yX1_isLive, Cond.instanceMethod yX1_isLive, Cond.selects RX1 yX1_isLive yX1_isLive, Cond.initialized RX1, Cond.code yX1_isLive cX1_isLive 1 (some .boolean), Cond.fieldLink RX1 15 "TerminalYard$Session" "condition" "C"]
def wsX2_liveSessionAt : List Cond := .code yX2_liveSessionAt cX2_liveSessionAt 3 (some (.object "TerminalYard$Session")) :: ((wsX2_liveSessionAt_r1 ++ wsX2_liveSessionAt_r2) ++ wsX20 ++ wsJx4a65c0 ++ wsX10 ++ (vx_atS RX2 268 "java/lang/IndexOutOfBoundsException" ["java/lang/RuntimeException", "java/lang/Exception"]).filter goodWord ++ (vx_atS RX2 75 "java/lang/IllegalStateException" ["java/lang/RuntimeException", "java/lang/Exception"]).filter goodWord)
def wsX2_end : List Cond := .code yX2_end cX2_end 3 none :: ([.fieldLink RX2 214 "TerminalYard$Session" "condition" "C", .fieldLink RX2 203 "TerminalYard$Session" "host" "LTerminalYard$Machine;", .fieldLink RX2 100 "TerminalYard$Machine" "live" "I", .methodLink RX2 97 yX0_repairWhenEmpty, .instanceMethod yX0_repairWhenEmpty, .selects RX0 yX0_repairWhenEmpty yX0_repairWhenEmpty, .initialized RX0, .code yX0_repairWhenEmpty cX0_repairWhenEmpty 1 none, .fieldLink RX0 9 "TerminalYard$Machine" "condition" "C", .fieldLink RX0 15 "TerminalYard$Machine" "live" "I"] ++ wsX10 ++ wsX00)
def wsX2_logOut_r1 : List Cond := [Cond.methodLink RX2 162 yX2_liveSessionAt, Cond.instanceMethod yX2_liveSessionAt, Cond.selects RX2 yX2_liveSessionAt yX2_liveSessionAt, Cond.initialized RX2, Cond.code yX2_liveSessionAt cX2_liveSessionAt 3 (some (.object "TerminalYard$Session")), Cond.methodLink RX2 176 yX2_sessionAt, Cond.instanceMethod yX2_sessionAt, Cond.selects RX2 yX2_sessionAt yX2_sessionAt, Cond.code yX2_sessionAt cX2_sessionAt 2 (some (.object "TerminalYard$Session")), Cond.classLink RX2 264 "java/lang/IndexOutOfBoundsException", Cond.initialized "java/lang/IndexOutOfBoundsException", Cond.fieldLink RX2 40 "TerminalYard" "sessions" "Ljava/util/ArrayList;", Cond.classLink RX2 147 "TerminalYard$Session", Cond.methodLink RX2 67 yJx4a65c_size_8abf5, Cond.instanceMethod yJx4a65c_size_8abf5, Cond.selects RJx4a65c yJx4a65c_size_8abf5 yJx4a65c_size_8abf5, Cond.initialized RJx4a65c, Cond.code yJx4a65c_size_8abf5 cJx4a65c_size_8abf5 1 (some .int), Cond.fieldLink RJx4a65c 48 "java/util/ArrayList" "size" "I", Cond.methodLink RX2 54 yX2_isOutside, Cond.static yX2_isOutside, Cond.code yX2_isOutside cX2_isOutside 3 (some .boolean), Cond.methodLink RX2 114 yJx4a65c_get_915e3, Cond.instanceMethod yJx4a65c_get_915e3]
def wsX2_logOut_r2 : List Cond := [Cond.selects RJx4a65c yJx4a65c_get_915e3 yJx4a65c_get_915e3, Cond.code yJx4a65c_get_915e3 cJx4a65c_get_915e3 2 (some (.object "java/lang/Object")), Cond.methodLink RJx4a65c 118 yJ15_checkIndex_7cf53, Cond.static yJ15_checkIndex_7cf53, Cond.initialized RJ15, Cond.code yJ15_checkIndex_7cf53 cJ15_checkIndex_7cf53 2 (some .int), Cond.methodLink RJ15 105 yJ3_checkIndex_8e157, Cond.static yJ3_checkIndex_8e157, Cond.initialized RJ3, Cond.code yJ3_checkIndex_8e157 cJ3_checkIndex_8e157 3 (some .int), Cond.methodLink RJx4a65c 123 yJx4a65c_elementData_915e3, Cond.instanceMethod yJx4a65c_elementData_915e3, Cond.selects RJx4a65c yJx4a65c_elementData_915e3 yJx4a65c_elementData_915e3, Cond.code yJx4a65c_elementData_915e3 cJx4a65c_elementData_915e3 2 (some (.object "java/lang/Object")), Cond.fieldLink RJx4a65c 9 "java/util/ArrayList" "elementData" "[Ljava/lang/Object;", Cond.methodLink RX2 184 yX2_checkLive, Cond.static yX2_checkLive, Cond.code yX2_checkLive cX2_checkLive 1 none, Cond.classLink RX2 71 "java/lang/IllegalStateException", Cond.initialized "java/lang/IllegalStateException", Cond.methodLink RX2 210 yX1_isLive, Cond.instanceMethod yX1_isLive, Cond.selects RX1 yX1_isLive yX1_isLive, Cond.initialized RX1]
def wsX2_logOut_r3 : List Cond := [Cond.code yX1_isLive cX1_isLive 1 (some .boolean), Cond.fieldLink RX1 15 "TerminalYard$Session" "condition" "C", Cond.methodLink RX2 166 yX2_end, Cond.instanceMethod yX2_end, Cond.selects RX2 yX2_end yX2_end, Cond.code yX2_end cX2_end 3 none, Cond.fieldLink RX2 214 "TerminalYard$Session" "condition" "C", Cond.fieldLink RX2 203 "TerminalYard$Session" "host" "LTerminalYard$Machine;", Cond.fieldLink RX2 100 "TerminalYard$Machine" "live" "I", Cond.methodLink RX2 97 yX0_repairWhenEmpty, Cond.instanceMethod yX0_repairWhenEmpty, Cond.selects RX0 yX0_repairWhenEmpty yX0_repairWhenEmpty, Cond.initialized RX0, Cond.code yX0_repairWhenEmpty cX0_repairWhenEmpty 1 none, Cond.fieldLink RX0 9 "TerminalYard$Machine" "condition" "C", Cond.fieldLink RX0 15 "TerminalYard$Machine" "live" "I", Cond.methodLink RX2 170 yX1_chargedInAll, Cond.instanceMethod yX1_chargedInAll, Cond.selects RX1 yX1_chargedInAll yX1_chargedInAll, Cond.code yX1_chargedInAll cX1_chargedInAll 3 (some .int), Cond.fieldLink RX1 9 "TerminalYard$Session" "chargedFrom" "[I"]
def wsX2_logOut : List Cond := .code yX2_logOut cX2_logOut 3 (some .int) :: ((wsX2_logOut_r1 ++ (wsX2_logOut_r2 ++ wsX2_logOut_r3)) ++ wsX20 ++ wsJx4a65c0 ++ wsX10 ++ wsX00 ++ (vx_atS RX2 268 "java/lang/IndexOutOfBoundsException" ["java/lang/RuntimeException", "java/lang/Exception"]).filter goodWord ++ (vx_atS RX2 75 "java/lang/IllegalStateException" ["java/lang/RuntimeException", "java/lang/Exception"]).filter goodWord ++ (vx_atM "java/lang/ArrayIndexOutOfBoundsException" ["java/lang/IndexOutOfBoundsException", "java/lang/RuntimeException", "java/lang/Exception"]).filter goodWord)
def wsX2_use_r1 : List Cond := [Cond.fieldLink RX2 43 "TerminalYard" "now" "I", Cond.fieldLink RX2 173 "TerminalYard$Session" "usedLast" "I", Cond.methodLink RX2 162 yX2_liveSessionAt, Cond.instanceMethod yX2_liveSessionAt, Cond.selects RX2 yX2_liveSessionAt yX2_liveSessionAt, Cond.initialized RX2, Cond.code yX2_liveSessionAt cX2_liveSessionAt 3 (some (.object "TerminalYard$Session")), Cond.methodLink RX2 176 yX2_sessionAt, Cond.instanceMethod yX2_sessionAt, Cond.selects RX2 yX2_sessionAt yX2_sessionAt, Cond.code yX2_sessionAt cX2_sessionAt 2 (some (.object "TerminalYard$Session")), Cond.classLink RX2 264 "java/lang/IndexOutOfBoundsException", Cond.initialized "java/lang/IndexOutOfBoundsException", Cond.fieldLink RX2 40 "TerminalYard" "sessions" "Ljava/util/ArrayList;", Cond.classLink RX2 147 "TerminalYard$Session", Cond.methodLink RX2 67 yJx4a65c_size_8abf5, Cond.instanceMethod yJx4a65c_size_8abf5, Cond.selects RJx4a65c yJx4a65c_size_8abf5 yJx4a65c_size_8abf5, Cond.initialized RJx4a65c, Cond.code yJx4a65c_size_8abf5 cJx4a65c_size_8abf5 1 (some .int), Cond.fieldLink RJx4a65c 48 "java/util/ArrayList" "size" "I", Cond.methodLink RX2 54 yX2_isOutside, Cond.static yX2_isOutside, Cond.code yX2_isOutside cX2_isOutside 3 (some .boolean)]
def wsX2_use_r2 : List Cond := [Cond.methodLink RX2 114 yJx4a65c_get_915e3, Cond.instanceMethod yJx4a65c_get_915e3, Cond.selects RJx4a65c yJx4a65c_get_915e3 yJx4a65c_get_915e3, Cond.code yJx4a65c_get_915e3 cJx4a65c_get_915e3 2 (some (.object "java/lang/Object")), Cond.methodLink RJx4a65c 118 yJ15_checkIndex_7cf53, Cond.static yJ15_checkIndex_7cf53, Cond.initialized RJ15, Cond.code yJ15_checkIndex_7cf53 cJ15_checkIndex_7cf53 2 (some .int), Cond.methodLink RJ15 105 yJ3_checkIndex_8e157, Cond.static yJ3_checkIndex_8e157, Cond.initialized RJ3, Cond.code yJ3_checkIndex_8e157 cJ3_checkIndex_8e157 3 (some .int), Cond.methodLink RJx4a65c 123 yJx4a65c_elementData_915e3, Cond.instanceMethod yJx4a65c_elementData_915e3, Cond.selects RJx4a65c yJx4a65c_elementData_915e3 yJx4a65c_elementData_915e3, Cond.code yJx4a65c_elementData_915e3 cJx4a65c_elementData_915e3 2 (some (.object "java/lang/Object")), Cond.fieldLink RJx4a65c 9 "java/util/ArrayList" "elementData" "[Ljava/lang/Object;", Cond.methodLink RX2 184 yX2_checkLive, Cond.static yX2_checkLive, Cond.code yX2_checkLive cX2_checkLive 1 none, Cond.classLink RX2 71 "java/lang/IllegalStateException", Cond.initialized "java/lang/IllegalStateException", Cond.methodLink RX2 210 yX1_isLive, Cond.instanceMethod yX1_isLive]
def wsX2_use_r3 : List Cond := [Cond.selects RX1 yX1_isLive yX1_isLive, Cond.initialized RX1, Cond.code yX1_isLive cX1_isLive 1 (some .boolean), Cond.fieldLink RX1 15 "TerminalYard$Session" "condition" "C"]
def wsX2_use : List Cond := .code yX2_use cX2_use 4 (some .int) :: ((wsX2_use_r1 ++ (wsX2_use_r2 ++ wsX2_use_r3)) ++ wsX20 ++ wsX10 ++ wsJx4a65c0 ++ (vx_atS RX2 268 "java/lang/IndexOutOfBoundsException" ["java/lang/RuntimeException", "java/lang/Exception"]).filter goodWord ++ (vx_atS RX2 75 "java/lang/IllegalStateException" ["java/lang/RuntimeException", "java/lang/Exception"]).filter goodWord)
def wsX2_passTo : List Cond := .code yX2_passTo cX2_passTo 4 (some .int) :: ([.fieldLink RX2 179 "TerminalYard$Session" "holder" "I", .fieldLink RX2 43 "TerminalYard" "now" "I", .fieldLink RX2 173 "TerminalYard$Session" "usedLast" "I"] ++ wsX10 ++ wsX20)
def wsX2_takeOver_r1 : List Cond := [Cond.classLink RX2 58 "java/lang/IllegalArgumentException", Cond.initialized "java/lang/IllegalArgumentException", Cond.fieldLink RX2 179 "TerminalYard$Session" "holder" "I", Cond.fieldLink RX2 19 "TerminalYard" "departmentOf" "[I", Cond.methodLink RX2 176 yX2_sessionAt, Cond.instanceMethod yX2_sessionAt, Cond.selects RX2 yX2_sessionAt yX2_sessionAt, Cond.initialized RX2, Cond.code yX2_sessionAt cX2_sessionAt 2 (some (.object "TerminalYard$Session")), Cond.classLink RX2 264 "java/lang/IndexOutOfBoundsException", Cond.initialized "java/lang/IndexOutOfBoundsException", Cond.fieldLink RX2 40 "TerminalYard" "sessions" "Ljava/util/ArrayList;", Cond.classLink RX2 147 "TerminalYard$Session", Cond.methodLink RX2 67 yJx4a65c_size_8abf5, Cond.instanceMethod yJx4a65c_size_8abf5, Cond.selects RJx4a65c yJx4a65c_size_8abf5 yJx4a65c_size_8abf5, Cond.initialized RJx4a65c, Cond.code yJx4a65c_size_8abf5 cJx4a65c_size_8abf5 1 (some .int), Cond.fieldLink RJx4a65c 48 "java/util/ArrayList" "size" "I", Cond.methodLink RX2 54 yX2_isOutside, Cond.static yX2_isOutside, Cond.code yX2_isOutside cX2_isOutside 3 (some .boolean), Cond.methodLink RX2 114 yJx4a65c_get_915e3, Cond.instanceMethod yJx4a65c_get_915e3]
def wsX2_takeOver_r2 : List Cond := [Cond.selects RJx4a65c yJx4a65c_get_915e3 yJx4a65c_get_915e3, Cond.code yJx4a65c_get_915e3 cJx4a65c_get_915e3 2 (some (.object "java/lang/Object")), Cond.methodLink RJx4a65c 118 yJ15_checkIndex_7cf53, Cond.static yJ15_checkIndex_7cf53, Cond.initialized RJ15, Cond.code yJ15_checkIndex_7cf53 cJ15_checkIndex_7cf53 2 (some .int), Cond.methodLink RJ15 105 yJ3_checkIndex_8e157, Cond.static yJ3_checkIndex_8e157, Cond.initialized RJ3, Cond.code yJ3_checkIndex_8e157 cJ3_checkIndex_8e157 3 (some .int), Cond.methodLink RJx4a65c 123 yJx4a65c_elementData_915e3, Cond.instanceMethod yJx4a65c_elementData_915e3, Cond.selects RJx4a65c yJx4a65c_elementData_915e3 yJx4a65c_elementData_915e3, Cond.code yJx4a65c_elementData_915e3 cJx4a65c_elementData_915e3 2 (some (.object "java/lang/Object")), Cond.fieldLink RJx4a65c 9 "java/util/ArrayList" "elementData" "[Ljava/lang/Object;", Cond.methodLink RX2 122 yX2_checkUser, Cond.static yX2_checkUser, Cond.code yX2_checkUser cX2_checkUser 1 none, Cond.methodLink RX2 184 yX2_checkLive, Cond.static yX2_checkLive, Cond.code yX2_checkLive cX2_checkLive 1 none, Cond.classLink RX2 71 "java/lang/IllegalStateException", Cond.initialized "java/lang/IllegalStateException", Cond.methodLink RX2 210 yX1_isLive]
def wsX2_takeOver_r3 : List Cond := [Cond.instanceMethod yX1_isLive, Cond.selects RX1 yX1_isLive yX1_isLive, Cond.initialized RX1, Cond.code yX1_isLive cX1_isLive 1 (some .boolean), Cond.fieldLink RX1 15 "TerminalYard$Session" "condition" "C", Cond.methodLink RX2 138 yX2_checkStock, Cond.instanceMethod yX2_checkStock, Cond.selects RX2 yX2_checkStock yX2_checkStock, Cond.code yX2_checkStock cX2_checkStock 3 none, Cond.classLink RX2 257 "java/lang/UnsupportedOperationException", Cond.initialized "java/lang/UnsupportedOperationException", Cond.fieldLink RX2 22 "TerminalYard" "kept" "[I", Cond.methodLink RX2 188 yX2_passTo, Cond.instanceMethod yX2_passTo, Cond.selects RX2 yX2_passTo yX2_passTo, Cond.code yX2_passTo cX2_passTo 4 (some .int), Cond.fieldLink RX2 43 "TerminalYard" "now" "I", Cond.fieldLink RX2 173 "TerminalYard$Session" "usedLast" "I"]
def wsX2_takeOver : List Cond := .code yX2_takeOver cX2_takeOver 4 (some .int) :: ((wsX2_takeOver_r1 ++ (wsX2_takeOver_r2 ++ wsX2_takeOver_r3)) ++ wsX10 ++ wsX20 ++ wsJx4a65c0 ++ (vx_atS RX2 62 "java/lang/IllegalArgumentException" ["java/lang/RuntimeException", "java/lang/Exception"]).filter goodWord ++ (vx_atM "java/lang/ArrayIndexOutOfBoundsException" ["java/lang/IndexOutOfBoundsException", "java/lang/RuntimeException", "java/lang/Exception"]).filter goodWord ++ (vx_atS RX2 268 "java/lang/IndexOutOfBoundsException" ["java/lang/RuntimeException", "java/lang/Exception"]).filter goodWord ++ (vx_atS RX2 75 "java/lang/IllegalStateException" ["java/lang/RuntimeException", "java/lang/Exception"]).filter goodWord ++ (vx_atS RX2 261 "java/lang/UnsupportedOperationException" ["java/lang/RuntimeException", "java/lang/Exception"]).filter goodWord)
def wsX2_handBack_r1 : List Cond := [Cond.classLink RX2 71 "java/lang/IllegalStateException", Cond.initialized "java/lang/IllegalStateException", Cond.fieldLink RX2 179 "TerminalYard$Session" "holder" "I", Cond.fieldLink RX2 192 "TerminalYard$Session" "owner" "I", Cond.methodLink RX2 162 yX2_liveSessionAt, Cond.instanceMethod yX2_liveSessionAt, Cond.selects RX2 yX2_liveSessionAt yX2_liveSessionAt, Cond.initialized RX2, Cond.code yX2_liveSessionAt cX2_liveSessionAt 3 (some (.object "TerminalYard$Session")), Cond.methodLink RX2 176 yX2_sessionAt, Cond.instanceMethod yX2_sessionAt, Cond.selects RX2 yX2_sessionAt yX2_sessionAt, Cond.code yX2_sessionAt cX2_sessionAt 2 (some (.object "TerminalYard$Session")), Cond.classLink RX2 264 "java/lang/IndexOutOfBoundsException", Cond.initialized "java/lang/IndexOutOfBoundsException", Cond.fieldLink RX2 40 "TerminalYard" "sessions" "Ljava/util/ArrayList;", Cond.classLink RX2 147 "TerminalYard$Session", Cond.methodLink RX2 67 yJx4a65c_size_8abf5, Cond.instanceMethod yJx4a65c_size_8abf5, Cond.selects RJx4a65c yJx4a65c_size_8abf5 yJx4a65c_size_8abf5, Cond.initialized RJx4a65c, Cond.code yJx4a65c_size_8abf5 cJx4a65c_size_8abf5 1 (some .int), Cond.fieldLink RJx4a65c 48 "java/util/ArrayList" "size" "I", Cond.methodLink RX2 54 yX2_isOutside]
def wsX2_handBack_r2 : List Cond := [Cond.static yX2_isOutside, Cond.code yX2_isOutside cX2_isOutside 3 (some .boolean), Cond.methodLink RX2 114 yJx4a65c_get_915e3, Cond.instanceMethod yJx4a65c_get_915e3, Cond.selects RJx4a65c yJx4a65c_get_915e3 yJx4a65c_get_915e3, Cond.code yJx4a65c_get_915e3 cJx4a65c_get_915e3 2 (some (.object "java/lang/Object")), Cond.methodLink RJx4a65c 118 yJ15_checkIndex_7cf53, Cond.static yJ15_checkIndex_7cf53, Cond.initialized RJ15, Cond.code yJ15_checkIndex_7cf53 cJ15_checkIndex_7cf53 2 (some .int), Cond.methodLink RJ15 105 yJ3_checkIndex_8e157, Cond.static yJ3_checkIndex_8e157, Cond.initialized RJ3, Cond.code yJ3_checkIndex_8e157 cJ3_checkIndex_8e157 3 (some .int), Cond.methodLink RJx4a65c 123 yJx4a65c_elementData_915e3, Cond.instanceMethod yJx4a65c_elementData_915e3, Cond.selects RJx4a65c yJx4a65c_elementData_915e3 yJx4a65c_elementData_915e3, Cond.code yJx4a65c_elementData_915e3 cJx4a65c_elementData_915e3 2 (some (.object "java/lang/Object")), Cond.fieldLink RJx4a65c 9 "java/util/ArrayList" "elementData" "[Ljava/lang/Object;", Cond.methodLink RX2 184 yX2_checkLive, Cond.static yX2_checkLive, Cond.code yX2_checkLive cX2_checkLive 1 none, Cond.methodLink RX2 210 yX1_isLive, Cond.instanceMethod yX1_isLive]
def wsX2_handBack_r3 : List Cond := [Cond.selects RX1 yX1_isLive yX1_isLive, Cond.initialized RX1, Cond.code yX1_isLive cX1_isLive 1 (some .boolean), Cond.fieldLink RX1 15 "TerminalYard$Session" "condition" "C", Cond.methodLink RX2 188 yX2_passTo, Cond.instanceMethod yX2_passTo, Cond.selects RX2 yX2_passTo yX2_passTo, Cond.code yX2_passTo cX2_passTo 4 (some .int), Cond.fieldLink RX2 43 "TerminalYard" "now" "I", Cond.fieldLink RX2 173 "TerminalYard$Session" "usedLast" "I"]
def wsX2_handBack : List Cond := .code yX2_handBack cX2_handBack 3 (some .int) :: ((wsX2_handBack_r1 ++ (wsX2_handBack_r2 ++ wsX2_handBack_r3)) ++ wsX10 ++ wsX20 ++ wsJx4a65c0 ++ (vx_atS RX2 75 "java/lang/IllegalStateException" ["java/lang/RuntimeException", "java/lang/Exception"]).filter goodWord ++ (vx_atS RX2 268 "java/lang/IndexOutOfBoundsException" ["java/lang/RuntimeException", "java/lang/Exception"]).filter goodWord)
def wsX2_charge : List Cond := .code yX2_charge cX2_charge 4 none :: ([.fieldLink RX2 19 "TerminalYard" "departmentOf" "[I", .fieldLink RX2 179 "TerminalYard$Session" "holder" "I", .fieldLink RX2 22 "TerminalYard" "kept" "[I", .fieldLink RX2 149 "TerminalYard$Session" "chargedFrom" "[I"] ++ wsX20 ++ wsX10 ++ (vx_atM "java/lang/ArrayIndexOutOfBoundsException" ["java/lang/IndexOutOfBoundsException", "java/lang/RuntimeException", "java/lang/Exception"]).filter goodWord)
def wsX2_print_r1 : List Cond := [Cond.classLink RX2 58 "java/lang/IllegalArgumentException", Cond.initialized "java/lang/IllegalArgumentException", Cond.fieldLink RX2 19 "TerminalYard" "departmentOf" "[I", Cond.fieldLink RX2 179 "TerminalYard$Session" "holder" "I", Cond.fieldLink RX2 47 "TerminalYard" "chargedForPages" "I", Cond.fieldLink RX2 43 "TerminalYard" "now" "I", Cond.fieldLink RX2 173 "TerminalYard$Session" "usedLast" "I", Cond.fieldLink RX2 203 "TerminalYard$Session" "host" "LTerminalYard$Machine;", Cond.fieldLink RX2 207 "TerminalYard$Machine" "room" "I", Cond.fieldLink RX2 16 "TerminalYard" "pagesInRoom" "[I", Cond.methodLink RX2 176 yX2_sessionAt, Cond.instanceMethod yX2_sessionAt, Cond.selects RX2 yX2_sessionAt yX2_sessionAt, Cond.initialized RX2, Cond.code yX2_sessionAt cX2_sessionAt 2 (some (.object "TerminalYard$Session")), Cond.classLink RX2 264 "java/lang/IndexOutOfBoundsException", Cond.initialized "java/lang/IndexOutOfBoundsException", Cond.fieldLink RX2 40 "TerminalYard" "sessions" "Ljava/util/ArrayList;", Cond.classLink RX2 147 "TerminalYard$Session", Cond.methodLink RX2 67 yJx4a65c_size_8abf5, Cond.instanceMethod yJx4a65c_size_8abf5, Cond.selects RJx4a65c yJx4a65c_size_8abf5 yJx4a65c_size_8abf5, Cond.initialized RJx4a65c, Cond.code yJx4a65c_size_8abf5 cJx4a65c_size_8abf5 1 (some .int)]
def wsX2_print_r2 : List Cond := [Cond.fieldLink RJx4a65c 48 "java/util/ArrayList" "size" "I", Cond.methodLink RX2 54 yX2_isOutside, Cond.static yX2_isOutside, Cond.code yX2_isOutside cX2_isOutside 3 (some .boolean), Cond.methodLink RX2 114 yJx4a65c_get_915e3, Cond.instanceMethod yJx4a65c_get_915e3, Cond.selects RJx4a65c yJx4a65c_get_915e3 yJx4a65c_get_915e3, Cond.code yJx4a65c_get_915e3 cJx4a65c_get_915e3 2 (some (.object "java/lang/Object")), Cond.methodLink RJx4a65c 118 yJ15_checkIndex_7cf53, Cond.static yJ15_checkIndex_7cf53, Cond.initialized RJ15, Cond.code yJ15_checkIndex_7cf53 cJ15_checkIndex_7cf53 2 (some .int), Cond.methodLink RJ15 105 yJ3_checkIndex_8e157, Cond.static yJ3_checkIndex_8e157, Cond.initialized RJ3, Cond.code yJ3_checkIndex_8e157 cJ3_checkIndex_8e157 3 (some .int), Cond.methodLink RJx4a65c 123 yJx4a65c_elementData_915e3, Cond.instanceMethod yJx4a65c_elementData_915e3, Cond.selects RJx4a65c yJx4a65c_elementData_915e3 yJx4a65c_elementData_915e3, Cond.code yJx4a65c_elementData_915e3 cJx4a65c_elementData_915e3 2 (some (.object "java/lang/Object")), Cond.fieldLink RJx4a65c 9 "java/util/ArrayList" "elementData" "[Ljava/lang/Object;", Cond.methodLink RX2 184 yX2_checkLive, Cond.static yX2_checkLive, Cond.code yX2_checkLive cX2_checkLive 1 none]
def wsX2_print_r3 : List Cond := [Cond.classLink RX2 71 "java/lang/IllegalStateException", Cond.initialized "java/lang/IllegalStateException", Cond.methodLink RX2 210 yX1_isLive, Cond.instanceMethod yX1_isLive, Cond.selects RX1 yX1_isLive yX1_isLive, Cond.initialized RX1, Cond.code yX1_isLive cX1_isLive 1 (some .boolean), Cond.fieldLink RX1 15 "TerminalYard$Session" "condition" "C", Cond.methodLink RX2 138 yX2_checkStock, Cond.instanceMethod yX2_checkStock, Cond.selects RX2 yX2_checkStock yX2_checkStock, Cond.code yX2_checkStock cX2_checkStock 3 none, Cond.classLink RX2 257 "java/lang/UnsupportedOperationException", Cond.initialized "java/lang/UnsupportedOperationException", Cond.fieldLink RX2 22 "TerminalYard" "kept" "[I", Cond.methodLink RX2 199 yX2_charge, Cond.instanceMethod yX2_charge, Cond.selects RX2 yX2_charge yX2_charge, Cond.code yX2_charge cX2_charge 4 none, Cond.fieldLink RX2 149 "TerminalYard$Session" "chargedFrom" "[I"]
def wsX2_print : List Cond := .code yX2_print cX2_print 6 (some .int) :: ((wsX2_print_r1 ++ (wsX2_print_r2 ++ wsX2_print_r3)) ++ wsX20 ++ wsX10 ++ wsX00 ++ wsJx4a65c0 ++ (vx_atS RX2 62 "java/lang/IllegalArgumentException" ["java/lang/RuntimeException", "java/lang/Exception"]).filter goodWord ++ (vx_atM "java/lang/ArrayIndexOutOfBoundsException" ["java/lang/IndexOutOfBoundsException", "java/lang/RuntimeException", "java/lang/Exception"]).filter goodWord ++ (vx_atS RX2 268 "java/lang/IndexOutOfBoundsException" ["java/lang/RuntimeException", "java/lang/Exception"]).filter goodWord ++ (vx_atS RX2 75 "java/lang/IllegalStateException" ["java/lang/RuntimeException", "java/lang/Exception"]).filter goodWord ++ (vx_atS RX2 261 "java/lang/UnsupportedOperationException" ["java/lang/RuntimeException", "java/lang/Exception"]).filter goodWord)
def wsX2_state_r1 : List Cond := [Cond.fieldLink RX2 179 "TerminalYard$Session" "holder" "I", Cond.fieldLink RX2 192 "TerminalYard$Session" "owner" "I", Cond.fieldLink RX2 214 "TerminalYard$Session" "condition" "C", Cond.methodLink RX2 176 yX2_sessionAt, Cond.instanceMethod yX2_sessionAt, Cond.selects RX2 yX2_sessionAt yX2_sessionAt, Cond.initialized RX2, Cond.code yX2_sessionAt cX2_sessionAt 2 (some (.object "TerminalYard$Session")), Cond.classLink RX2 264 "java/lang/IndexOutOfBoundsException", Cond.initialized "java/lang/IndexOutOfBoundsException", Cond.fieldLink RX2 40 "TerminalYard" "sessions" "Ljava/util/ArrayList;", Cond.classLink RX2 147 "TerminalYard$Session", Cond.methodLink RX2 67 yJx4a65c_size_8abf5, Cond.instanceMethod yJx4a65c_size_8abf5, Cond.selects RJx4a65c yJx4a65c_size_8abf5 yJx4a65c_size_8abf5, Cond.initialized RJx4a65c, Cond.code yJx4a65c_size_8abf5 cJx4a65c_size_8abf5 1 (some .int), Cond.fieldLink RJx4a65c 48 "java/util/ArrayList" "size" "I", Cond.methodLink RX2 54 yX2_isOutside, Cond.static yX2_isOutside, Cond.code yX2_isOutside cX2_isOutside 3 (some .boolean), Cond.methodLink RX2 114 yJx4a65c_get_915e3, Cond.instanceMethod yJx4a65c_get_915e3, Cond.selects RJx4a65c yJx4a65c_get_915e3 yJx4a65c_get_915e3]
def wsX2_state_r2 : List Cond := [Cond.code yJx4a65c_get_915e3 cJx4a65c_get_915e3 2 (some (.object "java/lang/Object")), Cond.methodLink RJx4a65c 118 yJ15_checkIndex_7cf53, Cond.static yJ15_checkIndex_7cf53, Cond.initialized RJ15, Cond.code yJ15_checkIndex_7cf53 cJ15_checkIndex_7cf53 2 (some .int), Cond.methodLink RJ15 105 yJ3_checkIndex_8e157, Cond.static yJ3_checkIndex_8e157, Cond.initialized RJ3, Cond.code yJ3_checkIndex_8e157 cJ3_checkIndex_8e157 3 (some .int), Cond.methodLink RJx4a65c 123 yJx4a65c_elementData_915e3, Cond.instanceMethod yJx4a65c_elementData_915e3, Cond.selects RJx4a65c yJx4a65c_elementData_915e3 yJx4a65c_elementData_915e3, Cond.code yJx4a65c_elementData_915e3 cJx4a65c_elementData_915e3 2 (some (.object "java/lang/Object")), Cond.fieldLink RJx4a65c 9 "java/util/ArrayList" "elementData" "[Ljava/lang/Object;", Cond.methodLink RX2 210 yX1_isLive, Cond.instanceMethod yX1_isLive, Cond.selects RX1 yX1_isLive yX1_isLive, Cond.initialized RX1, Cond.code yX1_isLive cX1_isLive 1 (some .boolean), Cond.fieldLink RX1 15 "TerminalYard$Session" "condition" "C"]
def wsX2_state : List Cond := .code yX2_state cX2_state 3 (some .char) :: ((wsX2_state_r1 ++ wsX2_state_r2) ++ wsX10 ++ wsX20 ++ wsJx4a65c0 ++ (vx_atS RX2 268 "java/lang/IndexOutOfBoundsException" ["java/lang/RuntimeException", "java/lang/Exception"]).filter goodWord)
def wsX2_machineOf_r1 : List Cond := [Cond.fieldLink RX2 203 "TerminalYard$Session" "host" "LTerminalYard$Machine;", Cond.fieldLink RX2 111 "TerminalYard$Machine" "number" "I", Cond.methodLink RX2 176 yX2_sessionAt, Cond.instanceMethod yX2_sessionAt, Cond.selects RX2 yX2_sessionAt yX2_sessionAt, Cond.initialized RX2, Cond.code yX2_sessionAt cX2_sessionAt 2 (some (.object "TerminalYard$Session")), Cond.classLink RX2 264 "java/lang/IndexOutOfBoundsException", Cond.initialized "java/lang/IndexOutOfBoundsException", Cond.fieldLink RX2 40 "TerminalYard" "sessions" "Ljava/util/ArrayList;", Cond.classLink RX2 147 "TerminalYard$Session", Cond.methodLink RX2 67 yJx4a65c_size_8abf5, Cond.instanceMethod yJx4a65c_size_8abf5, Cond.selects RJx4a65c yJx4a65c_size_8abf5 yJx4a65c_size_8abf5, Cond.initialized RJx4a65c, Cond.code yJx4a65c_size_8abf5 cJx4a65c_size_8abf5 1 (some .int), Cond.fieldLink RJx4a65c 48 "java/util/ArrayList" "size" "I", Cond.methodLink RX2 54 yX2_isOutside, Cond.static yX2_isOutside, Cond.code yX2_isOutside cX2_isOutside 3 (some .boolean), Cond.methodLink RX2 114 yJx4a65c_get_915e3, Cond.instanceMethod yJx4a65c_get_915e3, Cond.selects RJx4a65c yJx4a65c_get_915e3 yJx4a65c_get_915e3, Cond.code yJx4a65c_get_915e3 cJx4a65c_get_915e3 2 (some (.object "java/lang/Object"))]
def wsX2_machineOf_r2 : List Cond := [Cond.methodLink RJx4a65c 118 yJ15_checkIndex_7cf53, Cond.static yJ15_checkIndex_7cf53, Cond.initialized RJ15, Cond.code yJ15_checkIndex_7cf53 cJ15_checkIndex_7cf53 2 (some .int), Cond.methodLink RJ15 105 yJ3_checkIndex_8e157, Cond.static yJ3_checkIndex_8e157, Cond.initialized RJ3, Cond.code yJ3_checkIndex_8e157 cJ3_checkIndex_8e157 3 (some .int), Cond.methodLink RJx4a65c 123 yJx4a65c_elementData_915e3, Cond.instanceMethod yJx4a65c_elementData_915e3, Cond.selects RJx4a65c yJx4a65c_elementData_915e3 yJx4a65c_elementData_915e3, Cond.code yJx4a65c_elementData_915e3 cJx4a65c_elementData_915e3 2 (some (.object "java/lang/Object")), Cond.fieldLink RJx4a65c 9 "java/util/ArrayList" "elementData" "[Ljava/lang/Object;"]
def wsX2_machineOf : List Cond := .code yX2_machineOf cX2_machineOf 2 (some .int) :: ((wsX2_machineOf_r1 ++ wsX2_machineOf_r2) ++ wsX10 ++ wsX00 ++ wsX20 ++ wsJx4a65c0 ++ (vx_atS RX2 268 "java/lang/IndexOutOfBoundsException" ["java/lang/RuntimeException", "java/lang/Exception"]).filter goodWord)
def wsX2_userOf_r1 : List Cond := [Cond.fieldLink RX2 179 "TerminalYard$Session" "holder" "I", Cond.methodLink RX2 176 yX2_sessionAt, Cond.instanceMethod yX2_sessionAt, Cond.selects RX2 yX2_sessionAt yX2_sessionAt, Cond.initialized RX2, Cond.code yX2_sessionAt cX2_sessionAt 2 (some (.object "TerminalYard$Session")), Cond.classLink RX2 264 "java/lang/IndexOutOfBoundsException", Cond.initialized "java/lang/IndexOutOfBoundsException", Cond.fieldLink RX2 40 "TerminalYard" "sessions" "Ljava/util/ArrayList;", Cond.classLink RX2 147 "TerminalYard$Session", Cond.methodLink RX2 67 yJx4a65c_size_8abf5, Cond.instanceMethod yJx4a65c_size_8abf5, Cond.selects RJx4a65c yJx4a65c_size_8abf5 yJx4a65c_size_8abf5, Cond.initialized RJx4a65c, Cond.code yJx4a65c_size_8abf5 cJx4a65c_size_8abf5 1 (some .int), Cond.fieldLink RJx4a65c 48 "java/util/ArrayList" "size" "I", Cond.methodLink RX2 54 yX2_isOutside, Cond.static yX2_isOutside, Cond.code yX2_isOutside cX2_isOutside 3 (some .boolean), Cond.methodLink RX2 114 yJx4a65c_get_915e3, Cond.instanceMethod yJx4a65c_get_915e3, Cond.selects RJx4a65c yJx4a65c_get_915e3 yJx4a65c_get_915e3, Cond.code yJx4a65c_get_915e3 cJx4a65c_get_915e3 2 (some (.object "java/lang/Object")), Cond.methodLink RJx4a65c 118 yJ15_checkIndex_7cf53]
def wsX2_userOf_r2 : List Cond := [Cond.static yJ15_checkIndex_7cf53, Cond.initialized RJ15, Cond.code yJ15_checkIndex_7cf53 cJ15_checkIndex_7cf53 2 (some .int), Cond.methodLink RJ15 105 yJ3_checkIndex_8e157, Cond.static yJ3_checkIndex_8e157, Cond.initialized RJ3, Cond.code yJ3_checkIndex_8e157 cJ3_checkIndex_8e157 3 (some .int), Cond.methodLink RJx4a65c 123 yJx4a65c_elementData_915e3, Cond.instanceMethod yJx4a65c_elementData_915e3, Cond.selects RJx4a65c yJx4a65c_elementData_915e3 yJx4a65c_elementData_915e3, Cond.code yJx4a65c_elementData_915e3 cJx4a65c_elementData_915e3 2 (some (.object "java/lang/Object")), Cond.fieldLink RJx4a65c 9 "java/util/ArrayList" "elementData" "[Ljava/lang/Object;"]
def wsX2_userOf : List Cond := .code yX2_userOf cX2_userOf 2 (some .int) :: ((wsX2_userOf_r1 ++ wsX2_userOf_r2) ++ wsX10 ++ wsX20 ++ wsJx4a65c0 ++ (vx_atS RX2 268 "java/lang/IndexOutOfBoundsException" ["java/lang/RuntimeException", "java/lang/Exception"]).filter goodWord)
def wsX2_charged_r1 : List Cond := [Cond.fieldLink RX2 149 "TerminalYard$Session" "chargedFrom" "[I", Cond.methodLink RX2 176 yX2_sessionAt, Cond.instanceMethod yX2_sessionAt, Cond.selects RX2 yX2_sessionAt yX2_sessionAt, Cond.initialized RX2, Cond.code yX2_sessionAt cX2_sessionAt 2 (some (.object "TerminalYard$Session")), Cond.classLink RX2 264 "java/lang/IndexOutOfBoundsException", Cond.initialized "java/lang/IndexOutOfBoundsException", Cond.fieldLink RX2 40 "TerminalYard" "sessions" "Ljava/util/ArrayList;", Cond.classLink RX2 147 "TerminalYard$Session", Cond.methodLink RX2 67 yJx4a65c_size_8abf5, Cond.instanceMethod yJx4a65c_size_8abf5, Cond.selects RJx4a65c yJx4a65c_size_8abf5 yJx4a65c_size_8abf5, Cond.initialized RJx4a65c, Cond.code yJx4a65c_size_8abf5 cJx4a65c_size_8abf5 1 (some .int), Cond.fieldLink RJx4a65c 48 "java/util/ArrayList" "size" "I", Cond.methodLink RX2 54 yX2_isOutside, Cond.static yX2_isOutside, Cond.code yX2_isOutside cX2_isOutside 3 (some .boolean), Cond.methodLink RX2 114 yJx4a65c_get_915e3, Cond.instanceMethod yJx4a65c_get_915e3, Cond.selects RJx4a65c yJx4a65c_get_915e3 yJx4a65c_get_915e3, Cond.code yJx4a65c_get_915e3 cJx4a65c_get_915e3 2 (some (.object "java/lang/Object")), Cond.methodLink RJx4a65c 118 yJ15_checkIndex_7cf53]
def wsX2_charged_r2 : List Cond := [Cond.static yJ15_checkIndex_7cf53, Cond.initialized RJ15, Cond.code yJ15_checkIndex_7cf53 cJ15_checkIndex_7cf53 2 (some .int), Cond.methodLink RJ15 105 yJ3_checkIndex_8e157, Cond.static yJ3_checkIndex_8e157, Cond.initialized RJ3, Cond.code yJ3_checkIndex_8e157 cJ3_checkIndex_8e157 3 (some .int), Cond.methodLink RJx4a65c 123 yJx4a65c_elementData_915e3, Cond.instanceMethod yJx4a65c_elementData_915e3, Cond.selects RJx4a65c yJx4a65c_elementData_915e3 yJx4a65c_elementData_915e3, Cond.code yJx4a65c_elementData_915e3 cJx4a65c_elementData_915e3 2 (some (.object "java/lang/Object")), Cond.fieldLink RJx4a65c 9 "java/util/ArrayList" "elementData" "[Ljava/lang/Object;", Cond.methodLink RX2 125 yX2_checkDepartment, Cond.static yX2_checkDepartment, Cond.code yX2_checkDepartment cX2_checkDepartment 1 none, Cond.classLink RX2 58 "java/lang/IllegalArgumentException", Cond.initialized "java/lang/IllegalArgumentException"]
def wsX2_charged : List Cond := .code yX2_charged cX2_charged 4 (some .int) :: ((wsX2_charged_r1 ++ wsX2_charged_r2) ++ wsX10 ++ wsX20 ++ wsJx4a65c0 ++ (vx_atM "java/lang/ArrayIndexOutOfBoundsException" ["java/lang/IndexOutOfBoundsException", "java/lang/RuntimeException", "java/lang/Exception"]).filter goodWord ++ (vx_atS RX2 268 "java/lang/IndexOutOfBoundsException" ["java/lang/RuntimeException", "java/lang/Exception"]).filter goodWord ++ (vx_atS RX2 62 "java/lang/IllegalArgumentException" ["java/lang/RuntimeException", "java/lang/Exception"]).filter goodWord)
def wsX2_endsIn_r1 : List Cond := [Cond.fieldLink RX2 203 "TerminalYard$Session" "host" "LTerminalYard$Machine;", Cond.fieldLink RX2 215 "TerminalYard$Machine" "pool" "I", Cond.fieldLink RX2 173 "TerminalYard$Session" "usedLast" "I", Cond.fieldLink RX2 9 "TerminalYard" "idleLimits" "[I", Cond.fieldLink RX2 43 "TerminalYard" "now" "I", Cond.fieldLink RX2 218 "TerminalYard$Session" "began" "I", Cond.fieldLink RX2 13 "TerminalYard" "hardLimits" "[I", Cond.methodLink RX2 221 Lib.Math.min.name, Cond.static Lib.Math.min.name, Cond.initialized "java/lang/Math", Cond.code Lib.Math.min.name Lib.Math.min.code 2 (some .int), Cond.methodLink RX2 227 Lib.Math.max.name, Cond.static Lib.Math.max.name, Cond.code Lib.Math.max.name Lib.Math.max.code 2 (some .int), Cond.methodLink RX2 162 yX2_liveSessionAt, Cond.instanceMethod yX2_liveSessionAt, Cond.selects RX2 yX2_liveSessionAt yX2_liveSessionAt, Cond.initialized RX2, Cond.code yX2_liveSessionAt cX2_liveSessionAt 3 (some (.object "TerminalYard$Session")), Cond.methodLink RX2 176 yX2_sessionAt, Cond.instanceMethod yX2_sessionAt, Cond.selects RX2 yX2_sessionAt yX2_sessionAt, Cond.code yX2_sessionAt cX2_sessionAt 2 (some (.object "TerminalYard$Session")), Cond.classLink RX2 264 "java/lang/IndexOutOfBoundsException"]
def wsX2_endsIn_r2 : List Cond := [Cond.initialized "java/lang/IndexOutOfBoundsException", Cond.fieldLink RX2 40 "TerminalYard" "sessions" "Ljava/util/ArrayList;", Cond.classLink RX2 147 "TerminalYard$Session", Cond.methodLink RX2 67 yJx4a65c_size_8abf5, Cond.instanceMethod yJx4a65c_size_8abf5, Cond.selects RJx4a65c yJx4a65c_size_8abf5 yJx4a65c_size_8abf5, Cond.initialized RJx4a65c, Cond.code yJx4a65c_size_8abf5 cJx4a65c_size_8abf5 1 (some .int), Cond.fieldLink RJx4a65c 48 "java/util/ArrayList" "size" "I", Cond.methodLink RX2 54 yX2_isOutside, Cond.static yX2_isOutside, Cond.code yX2_isOutside cX2_isOutside 3 (some .boolean), Cond.methodLink RX2 114 yJx4a65c_get_915e3, Cond.instanceMethod yJx4a65c_get_915e3, Cond.selects RJx4a65c yJx4a65c_get_915e3 yJx4a65c_get_915e3, Cond.code yJx4a65c_get_915e3 cJx4a65c_get_915e3 2 (some (.object "java/lang/Object")), Cond.methodLink RJx4a65c 118 yJ15_checkIndex_7cf53, Cond.static yJ15_checkIndex_7cf53, Cond.initialized RJ15, Cond.code yJ15_checkIndex_7cf53 cJ15_checkIndex_7cf53 2 (some .int), Cond.methodLink RJ15 105 yJ3_checkIndex_8e157, Cond.static yJ3_checkIndex_8e157, Cond.initialized RJ3, Cond.code yJ3_checkIndex_8e157 cJ3_checkIndex_8e157 3 (some .int)]
def wsX2_endsIn_r3 : List Cond := [Cond.methodLink RJx4a65c 123 yJx4a65c_elementData_915e3, Cond.instanceMethod yJx4a65c_elementData_915e3, Cond.selects RJx4a65c yJx4a65c_elementData_915e3 yJx4a65c_elementData_915e3, Cond.code yJx4a65c_elementData_915e3 cJx4a65c_elementData_915e3 2 (some (.object "java/lang/Object")), Cond.fieldLink RJx4a65c 9 "java/util/ArrayList" "elementData" "[Ljava/lang/Object;", Cond.methodLink RX2 184 yX2_checkLive, Cond.static yX2_checkLive, Cond.code yX2_checkLive cX2_checkLive 1 none, Cond.classLink RX2 71 "java/lang/IllegalStateException", Cond.initialized "java/lang/IllegalStateException", Cond.methodLink RX2 210 yX1_isLive, Cond.instanceMethod yX1_isLive, Cond.selects RX1 yX1_isLive yX1_isLive, Cond.initialized RX1, Cond.code yX1_isLive cX1_isLive 1 (some .boolean), Cond.fieldLink RX1 15 "TerminalYard$Session" "condition" "C"]
def wsX2_endsIn : List Cond := .code yX2_endsIn cX2_endsIn 6 (some .int) :: ((wsX2_endsIn_r1 ++ (wsX2_endsIn_r2 ++ wsX2_endsIn_r3)) ++ wsX10 ++ wsX00 ++ wsX20 ++ wsJx4a65c0 ++ (vx_atM "java/lang/ArrayIndexOutOfBoundsException" ["java/lang/IndexOutOfBoundsException", "java/lang/RuntimeException", "java/lang/Exception"]).filter goodWord ++ (vx_atS RX2 268 "java/lang/IndexOutOfBoundsException" ["java/lang/RuntimeException", "java/lang/Exception"]).filter goodWord ++ (vx_atS RX2 75 "java/lang/IllegalStateException" ["java/lang/RuntimeException", "java/lang/Exception"]).filter goodWord)
def wsX2_afterOneMinute : List Cond := .code yX2_afterOneMinute cX2_afterOneMinute 3 (some .char) :: ([.fieldLink RX2 22 "TerminalYard" "kept" "[I", .fieldLink RX2 19 "TerminalYard" "departmentOf" "[I", .fieldLink RX2 179 "TerminalYard$Session" "holder" "I", .fieldLink RX2 203 "TerminalYard$Session" "host" "LTerminalYard$Machine;", .fieldLink RX2 215 "TerminalYard$Machine" "pool" "I", .fieldLink RX2 43 "TerminalYard" "now" "I", .fieldLink RX2 173 "TerminalYard$Session" "usedLast" "I", .fieldLink RX2 9 "TerminalYard" "idleLimits" "[I", .fieldLink RX2 218 "TerminalYard$Session" "began" "I", .fieldLink RX2 13 "TerminalYard" "hardLimits" "[I", .methodLink RX2 199 yX2_charge, .instanceMethod yX2_charge, .selects RX2 yX2_charge yX2_charge, .initialized RX2, .code yX2_charge cX2_charge 4 none, .fieldLink RX2 149 "TerminalYard$Session" "chargedFrom" "[I"] ++ wsX20 ++ wsX10 ++ wsX00 ++ (vx_atM "java/lang/ArrayIndexOutOfBoundsException" ["java/lang/IndexOutOfBoundsException", "java/lang/RuntimeException", "java/lang/Exception"]).filter goodWord)
def wsX2_chargeLiveSessions_r1 : List Cond := [Cond.fieldLink RX2 40 "TerminalYard" "sessions" "Ljava/util/ArrayList;", Cond.classLink RX2 147 "TerminalYard$Session", Cond.methodLink RX2 67 yJx4a65c_size_8abf5, Cond.instanceMethod yJx4a65c_size_8abf5, Cond.selects RJx4a65c yJx4a65c_size_8abf5 yJx4a65c_size_8abf5, Cond.initialized RJx4a65c, Cond.code yJx4a65c_size_8abf5 cJx4a65c_size_8abf5 1 (some .int), Cond.fieldLink RJx4a65c 48 "java/util/ArrayList" "size" "I", Cond.methodLink RX2 114 yJx4a65c_get_915e3, Cond.instanceMethod yJx4a65c_get_915e3, Cond.selects RJx4a65c yJx4a65c_get_915e3 yJx4a65c_get_915e3, Cond.code yJx4a65c_get_915e3 cJx4a65c_get_915e3 2 (some (.object "java/lang/Object")), Cond.methodLink RJx4a65c 118 yJ15_checkIndex_7cf53, Cond.static yJ15_checkIndex_7cf53, Cond.initialized RJ15, Cond.code yJ15_checkIndex_7cf53 cJ15_checkIndex_7cf53 2 (some .int), Cond.methodLink RJ15 105 yJ3_checkIndex_8e157, Cond.static yJ3_checkIndex_8e157, Cond.initialized RJ3, Cond.code yJ3_checkIndex_8e157 cJ3_checkIndex_8e157 3 (some .int), Cond.methodLink RJx4a65c 123 yJx4a65c_elementData_915e3, Cond.instanceMethod yJx4a65c_elementData_915e3, Cond.selects RJx4a65c yJx4a65c_elementData_915e3 yJx4a65c_elementData_915e3, Cond.code yJx4a65c_elementData_915e3 cJx4a65c_elementData_915e3 2 (some (.object "java/lang/Object"))]
def wsX2_chargeLiveSessions_r2 : List Cond := [Cond.fieldLink RJx4a65c 9 "java/util/ArrayList" "elementData" "[Ljava/lang/Object;", Cond.methodLink RX2 210 yX1_isLive, Cond.instanceMethod yX1_isLive, Cond.selects RX1 yX1_isLive yX1_isLive, Cond.initialized RX1, Cond.code yX1_isLive cX1_isLive 1 (some .boolean), Cond.fieldLink RX1 15 "TerminalYard$Session" "condition" "C", Cond.methodLink RX2 276 yX2_afterOneMinute, Cond.instanceMethod yX2_afterOneMinute, Cond.selects RX2 yX2_afterOneMinute yX2_afterOneMinute, Cond.initialized RX2, Cond.code yX2_afterOneMinute cX2_afterOneMinute 3 (some .char), Cond.fieldLink RX2 22 "TerminalYard" "kept" "[I", Cond.fieldLink RX2 19 "TerminalYard" "departmentOf" "[I", Cond.fieldLink RX2 179 "TerminalYard$Session" "holder" "I", Cond.fieldLink RX2 203 "TerminalYard$Session" "host" "LTerminalYard$Machine;", Cond.fieldLink RX2 215 "TerminalYard$Machine" "pool" "I", Cond.fieldLink RX2 43 "TerminalYard" "now" "I", Cond.fieldLink RX2 173 "TerminalYard$Session" "usedLast" "I", Cond.fieldLink RX2 9 "TerminalYard" "idleLimits" "[I", Cond.fieldLink RX2 218 "TerminalYard$Session" "began" "I", Cond.fieldLink RX2 13 "TerminalYard" "hardLimits" "[I", Cond.methodLink RX2 199 yX2_charge, Cond.instanceMethod yX2_charge]
def wsX2_chargeLiveSessions_r3 : List Cond := [Cond.selects RX2 yX2_charge yX2_charge, Cond.code yX2_charge cX2_charge 4 none, Cond.fieldLink RX2 149 "TerminalYard$Session" "chargedFrom" "[I", Cond.methodLink RX2 166 yX2_end, Cond.instanceMethod yX2_end, Cond.selects RX2 yX2_end yX2_end, Cond.code yX2_end cX2_end 3 none, Cond.fieldLink RX2 214 "TerminalYard$Session" "condition" "C", Cond.fieldLink RX2 100 "TerminalYard$Machine" "live" "I", Cond.methodLink RX2 97 yX0_repairWhenEmpty, Cond.instanceMethod yX0_repairWhenEmpty, Cond.selects RX0 yX0_repairWhenEmpty yX0_repairWhenEmpty, Cond.initialized RX0, Cond.code yX0_repairWhenEmpty cX0_repairWhenEmpty 1 none, Cond.fieldLink RX0 9 "TerminalYard$Machine" "condition" "C", Cond.fieldLink RX0 15 "TerminalYard$Machine" "live" "I"]
def wsX2_chargeLiveSessions : List Cond := .code yX2_chargeLiveSessions cX2_chargeLiveSessions 5 (some .int) :: ((wsX2_chargeLiveSessions_r1 ++ (wsX2_chargeLiveSessions_r2 ++ wsX2_chargeLiveSessions_r3)) ++ wsX20 ++ wsJx4a65c0 ++ wsX10 ++ wsX00 ++ (vx_atM "java/lang/ArrayIndexOutOfBoundsException" ["java/lang/IndexOutOfBoundsException", "java/lang/RuntimeException", "java/lang/Exception"]).filter goodWord)
def wsX2_pass_r1 : List Cond := [Cond.classLink RX2 58 "java/lang/IllegalArgumentException", Cond.initialized "java/lang/IllegalArgumentException", Cond.fieldLink RX2 43 "TerminalYard" "now" "I", Cond.methodLink RX2 54 yX2_isOutside, Cond.static yX2_isOutside, Cond.initialized RX2, Cond.code yX2_isOutside cX2_isOutside 3 (some .boolean), Cond.methodLink RX2 234 yX2_chargeLiveSessions, Cond.instanceMethod yX2_chargeLiveSessions, Cond.selects RX2 yX2_chargeLiveSessions yX2_chargeLiveSessions, Cond.code yX2_chargeLiveSessions cX2_chargeLiveSessions 5 (some .int), Cond.fieldLink RX2 40 "TerminalYard" "sessions" "Ljava/util/ArrayList;", Cond.classLink RX2 147 "TerminalYard$Session", Cond.methodLink RX2 67 yJx4a65c_size_8abf5, Cond.instanceMethod yJx4a65c_size_8abf5, Cond.selects RJx4a65c yJx4a65c_size_8abf5 yJx4a65c_size_8abf5, Cond.initialized RJx4a65c, Cond.code yJx4a65c_size_8abf5 cJx4a65c_size_8abf5 1 (some .int), Cond.fieldLink RJx4a65c 48 "java/util/ArrayList" "size" "I", Cond.methodLink RX2 114 yJx4a65c_get_915e3, Cond.instanceMethod yJx4a65c_get_915e3, Cond.selects RJx4a65c yJx4a65c_get_915e3 yJx4a65c_get_915e3, Cond.code yJx4a65c_get_915e3 cJx4a65c_get_915e3 2 (some (.object "java/lang/Object")), Cond.methodLink RJx4a65c 118 yJ15_checkIndex_7cf53]
def wsX2_pass_r2 : List Cond := [Cond.static yJ15_checkIndex_7cf53, Cond.initialized RJ15, Cond.code yJ15_checkIndex_7cf53 cJ15_checkIndex_7cf53 2 (some .int), Cond.methodLink RJ15 105 yJ3_checkIndex_8e157, Cond.static yJ3_checkIndex_8e157, Cond.initialized RJ3, Cond.code yJ3_checkIndex_8e157 cJ3_checkIndex_8e157 3 (some .int), Cond.methodLink RJx4a65c 123 yJx4a65c_elementData_915e3, Cond.instanceMethod yJx4a65c_elementData_915e3, Cond.selects RJx4a65c yJx4a65c_elementData_915e3 yJx4a65c_elementData_915e3, Cond.code yJx4a65c_elementData_915e3 cJx4a65c_elementData_915e3 2 (some (.object "java/lang/Object")), Cond.fieldLink RJx4a65c 9 "java/util/ArrayList" "elementData" "[Ljava/lang/Object;", Cond.methodLink RX2 210 yX1_isLive, Cond.instanceMethod yX1_isLive, Cond.selects RX1 yX1_isLive yX1_isLive, Cond.initialized RX1, Cond.code yX1_isLive cX1_isLive 1 (some .boolean), Cond.fieldLink RX1 15 "TerminalYard$Session" "condition" "C", Cond.methodLink RX2 276 yX2_afterOneMinute, Cond.instanceMethod yX2_afterOneMinute, Cond.selects RX2 yX2_afterOneMinute yX2_afterOneMinute, Cond.code yX2_afterOneMinute cX2_afterOneMinute 3 (some .char), Cond.fieldLink RX2 22 "TerminalYard" "kept" "[I", Cond.fieldLink RX2 19 "TerminalYard" "departmentOf" "[I"]
def wsX2_pass_r3 : List Cond := [Cond.fieldLink RX2 179 "TerminalYard$Session" "holder" "I", Cond.fieldLink RX2 203 "TerminalYard$Session" "host" "LTerminalYard$Machine;", Cond.fieldLink RX2 215 "TerminalYard$Machine" "pool" "I", Cond.fieldLink RX2 173 "TerminalYard$Session" "usedLast" "I", Cond.fieldLink RX2 9 "TerminalYard" "idleLimits" "[I", Cond.fieldLink RX2 218 "TerminalYard$Session" "began" "I", Cond.fieldLink RX2 13 "TerminalYard" "hardLimits" "[I", Cond.methodLink RX2 199 yX2_charge, Cond.instanceMethod yX2_charge, Cond.selects RX2 yX2_charge yX2_charge, Cond.code yX2_charge cX2_charge 4 none, Cond.fieldLink RX2 149 "TerminalYard$Session" "chargedFrom" "[I", Cond.methodLink RX2 166 yX2_end, Cond.instanceMethod yX2_end, Cond.selects RX2 yX2_end yX2_end, Cond.code yX2_end cX2_end 3 none, Cond.fieldLink RX2 214 "TerminalYard$Session" "condition" "C", Cond.fieldLink RX2 100 "TerminalYard$Machine" "live" "I", Cond.methodLink RX2 97 yX0_repairWhenEmpty, Cond.instanceMethod yX0_repairWhenEmpty, Cond.selects RX0 yX0_repairWhenEmpty yX0_repairWhenEmpty, Cond.initialized RX0, Cond.code yX0_repairWhenEmpty cX0_repairWhenEmpty 1 none, Cond.fieldLink RX0 9 "TerminalYard$Machine" "condition" "C"]
def wsX2_pass_r4 : List Cond := [Cond.fieldLink RX0 15 "TerminalYard$Machine" "live" "I"]
def wsX2_pass : List Cond := .code yX2_pass cX2_pass 4 (some .int) :: ((wsX2_pass_r1 ++ (wsX2_pass_r2 ++ (wsX2_pass_r3 ++ wsX2_pass_r4))) ++ wsX20 ++ wsJx4a65c0 ++ wsX10 ++ wsX00 ++ (vx_atS RX2 62 "java/lang/IllegalArgumentException" ["java/lang/RuntimeException", "java/lang/Exception"]).filter goodWord ++ (vx_atM "java/lang/ArrayIndexOutOfBoundsException" ["java/lang/IndexOutOfBoundsException", "java/lang/RuntimeException", "java/lang/Exception"]).filter goodWord)
def wsX2_time : List Cond := .code yX2_time cX2_time 1 (some .int) :: ([.fieldLink RX2 43 "TerminalYard" "now" "I"] ++ wsX20)
def wsX2_chargedToAllSessions_r1 : List Cond := [Cond.fieldLink RX2 40 "TerminalYard" "sessions" "Ljava/util/ArrayList;", Cond.classLink RX2 147 "TerminalYard$Session", Cond.methodLink RX2 67 yJx4a65c_size_8abf5, Cond.instanceMethod yJx4a65c_size_8abf5, Cond.selects RJx4a65c yJx4a65c_size_8abf5 yJx4a65c_size_8abf5, Cond.initialized RJx4a65c, Cond.code yJx4a65c_size_8abf5 cJx4a65c_size_8abf5 1 (some .int), Cond.fieldLink RJx4a65c 48 "java/util/ArrayList" "size" "I", Cond.methodLink RX2 114 yJx4a65c_get_915e3, Cond.instanceMethod yJx4a65c_get_915e3, Cond.selects RJx4a65c yJx4a65c_get_915e3 yJx4a65c_get_915e3, Cond.code yJx4a65c_get_915e3 cJx4a65c_get_915e3 2 (some (.object "java/lang/Object")), Cond.methodLink RJx4a65c 118 yJ15_checkIndex_7cf53, Cond.static yJ15_checkIndex_7cf53, Cond.initialized RJ15, Cond.code yJ15_checkIndex_7cf53 cJ15_checkIndex_7cf53 2 (some .int), Cond.methodLink RJ15 105 yJ3_checkIndex_8e157, Cond.static yJ3_checkIndex_8e157, Cond.initialized RJ3, Cond.code yJ3_checkIndex_8e157 cJ3_checkIndex_8e157 3 (some .int), Cond.methodLink RJx4a65c 123 yJx4a65c_elementData_915e3, Cond.instanceMethod yJx4a65c_elementData_915e3, Cond.selects RJx4a65c yJx4a65c_elementData_915e3 yJx4a65c_elementData_915e3, Cond.code yJx4a65c_elementData_915e3 cJx4a65c_elementData_915e3 2 (some (.object "java/lang/Object"))]
def wsX2_chargedToAllSessions_r2 : List Cond := [Cond.fieldLink RJx4a65c 9 "java/util/ArrayList" "elementData" "[Ljava/lang/Object;", Cond.methodLink RX2 170 yX1_chargedInAll, Cond.instanceMethod yX1_chargedInAll, Cond.selects RX1 yX1_chargedInAll yX1_chargedInAll, Cond.initialized RX1, Cond.code yX1_chargedInAll cX1_chargedInAll 3 (some .int), Cond.fieldLink RX1 9 "TerminalYard$Session" "chargedFrom" "[I"]
def wsX2_chargedToAllSessions : List Cond := .code yX2_chargedToAllSessions cX2_chargedToAllSessions 3 (some .int) :: ((wsX2_chargedToAllSessions_r1 ++ wsX2_chargedToAllSessions_r2) ++ wsX20 ++ wsJx4a65c0 ++ wsX10 ++ (vx_atM "java/lang/ArrayIndexOutOfBoundsException" ["java/lang/IndexOutOfBoundsException", "java/lang/RuntimeException", "java/lang/Exception"]).filter goodWord)
def wsX2_pageShare_r1 : List Cond := [Cond.classLink RX2 240 "java/lang/ArithmeticException", Cond.initialized "java/lang/ArithmeticException", Cond.fieldLink RX2 47 "TerminalYard" "chargedForPages" "I", Cond.methodLink RX2 237 yX2_chargedToAllSessions, Cond.instanceMethod yX2_chargedToAllSessions, Cond.selects RX2 yX2_chargedToAllSessions yX2_chargedToAllSessions, Cond.initialized RX2, Cond.code yX2_chargedToAllSessions cX2_chargedToAllSessions 3 (some .int), Cond.fieldLink RX2 40 "TerminalYard" "sessions" "Ljava/util/ArrayList;", Cond.classLink RX2 147 "TerminalYard$Session", Cond.methodLink RX2 67 yJx4a65c_size_8abf5, Cond.instanceMethod yJx4a65c_size_8abf5, Cond.selects RJx4a65c yJx4a65c_size_8abf5 yJx4a65c_size_8abf5, Cond.initialized RJx4a65c, Cond.code yJx4a65c_size_8abf5 cJx4a65c_size_8abf5 1 (some .int), Cond.fieldLink RJx4a65c 48 "java/util/ArrayList" "size" "I", Cond.methodLink RX2 114 yJx4a65c_get_915e3, Cond.instanceMethod yJx4a65c_get_915e3, Cond.selects RJx4a65c yJx4a65c_get_915e3 yJx4a65c_get_915e3, Cond.code yJx4a65c_get_915e3 cJx4a65c_get_915e3 2 (some (.object "java/lang/Object")), Cond.methodLink RJx4a65c 118 yJ15_checkIndex_7cf53, Cond.static yJ15_checkIndex_7cf53, Cond.initialized RJ15, Cond.code yJ15_checkIndex_7cf53 cJ15_checkIndex_7cf53 2 (some .int)]
def wsX2_pageShare_r2 : List Cond := [Cond.methodLink RJ15 105 yJ3_checkIndex_8e157, Cond.static yJ3_checkIndex_8e157, Cond.initialized RJ3, Cond.code yJ3_checkIndex_8e157 cJ3_checkIndex_8e157 3 (some .int), Cond.methodLink RJx4a65c 123 yJx4a65c_elementData_915e3, Cond.instanceMethod yJx4a65c_elementData_915e3, Cond.selects RJx4a65c yJx4a65c_elementData_915e3 yJx4a65c_elementData_915e3, Cond.code yJx4a65c_elementData_915e3 cJx4a65c_elementData_915e3 2 (some (.object "java/lang/Object")), Cond.fieldLink RJx4a65c 9 "java/util/ArrayList" "elementData" "[Ljava/lang/Object;", Cond.methodLink RX2 170 yX1_chargedInAll, Cond.instanceMethod yX1_chargedInAll, Cond.selects RX1 yX1_chargedInAll yX1_chargedInAll, Cond.initialized RX1, Cond.code yX1_chargedInAll cX1_chargedInAll 3 (some .int), Cond.fieldLink RX1 9 "TerminalYard$Session" "chargedFrom" "[I"]
def wsX2_pageShare : List Cond := .code yX2_pageShare cX2_pageShare 2 (some .float) :: ((wsX2_pageShare_r1 ++ wsX2_pageShare_r2) ++ wsX20 ++ wsJx4a65c0 ++ wsX10 ++ (vx_atS RX2 244 "java/lang/ArithmeticException" ["java/lang/RuntimeException", "java/lang/Exception"]).filter goodWord ++ (vx_atM "java/lang/ArrayIndexOutOfBoundsException" ["java/lang/IndexOutOfBoundsException", "java/lang/RuntimeException", "java/lang/Exception"]).filter goodWord)
def wsX2_meanCharge_r1 : List Cond := [Cond.classLink RX2 240 "java/lang/ArithmeticException", Cond.initialized "java/lang/ArithmeticException", Cond.fieldLink RX2 40 "TerminalYard" "sessions" "Ljava/util/ArrayList;", Cond.methodLink RX2 67 yJx4a65c_size_8abf5, Cond.instanceMethod yJx4a65c_size_8abf5, Cond.selects RJx4a65c yJx4a65c_size_8abf5 yJx4a65c_size_8abf5, Cond.initialized RJx4a65c, Cond.code yJx4a65c_size_8abf5 cJx4a65c_size_8abf5 1 (some .int), Cond.fieldLink RJx4a65c 48 "java/util/ArrayList" "size" "I", Cond.methodLink RX2 237 yX2_chargedToAllSessions, Cond.instanceMethod yX2_chargedToAllSessions, Cond.selects RX2 yX2_chargedToAllSessions yX2_chargedToAllSessions, Cond.initialized RX2, Cond.code yX2_chargedToAllSessions cX2_chargedToAllSessions 3 (some .int), Cond.classLink RX2 147 "TerminalYard$Session", Cond.methodLink RX2 114 yJx4a65c_get_915e3, Cond.instanceMethod yJx4a65c_get_915e3, Cond.selects RJx4a65c yJx4a65c_get_915e3 yJx4a65c_get_915e3, Cond.code yJx4a65c_get_915e3 cJx4a65c_get_915e3 2 (some (.object "java/lang/Object")), Cond.methodLink RJx4a65c 118 yJ15_checkIndex_7cf53, Cond.static yJ15_checkIndex_7cf53, Cond.initialized RJ15, Cond.code yJ15_checkIndex_7cf53 cJ15_checkIndex_7cf53 2 (some .int), Cond.methodLink RJ15 105 yJ3_checkIndex_8e157]
def wsX2_meanCharge_r2 : List Cond := [Cond.static yJ3_checkIndex_8e157, Cond.initialized RJ3, Cond.code yJ3_checkIndex_8e157 cJ3_checkIndex_8e157 3 (some .int), Cond.methodLink RJx4a65c 123 yJx4a65c_elementData_915e3, Cond.instanceMethod yJx4a65c_elementData_915e3, Cond.selects RJx4a65c yJx4a65c_elementData_915e3 yJx4a65c_elementData_915e3, Cond.code yJx4a65c_elementData_915e3 cJx4a65c_elementData_915e3 2 (some (.object "java/lang/Object")), Cond.fieldLink RJx4a65c 9 "java/util/ArrayList" "elementData" "[Ljava/lang/Object;", Cond.methodLink RX2 170 yX1_chargedInAll, Cond.instanceMethod yX1_chargedInAll, Cond.selects RX1 yX1_chargedInAll yX1_chargedInAll, Cond.initialized RX1, Cond.code yX1_chargedInAll cX1_chargedInAll 3 (some .int), Cond.fieldLink RX1 9 "TerminalYard$Session" "chargedFrom" "[I"]
def wsX2_meanCharge : List Cond := .code yX2_meanCharge cX2_meanCharge 2 (some .double) :: ((wsX2_meanCharge_r1 ++ wsX2_meanCharge_r2) ++ wsX20 ++ wsJx4a65c0 ++ wsX10 ++ (vx_atS RX2 244 "java/lang/ArithmeticException" ["java/lang/RuntimeException", "java/lang/Exception"]).filter goodWord ++ (vx_atM "java/lang/ArrayIndexOutOfBoundsException" ["java/lang/IndexOutOfBoundsException", "java/lang/RuntimeException", "java/lang/Exception"]).filter goodWord)
def wsX3_init : List Cond := .code yX3_init cX3_init 1 none :: ([.methodLink RX3 1 objectInit, .instanceMethod objectInit, .code objectInit ⟨#[0xb1]⟩ 1 none, .arrayClass .int, .fieldLink RX3 7 "TerminalYardModel" "idle" "[I", .fieldLink RX3 13 "TerminalYardModel" "hard" "[I", .fieldLink RX3 16 "TerminalYardModel" "pool" "[I", .fieldLink RX3 19 "TerminalYardModel" "room" "[I", .fieldLink RX3 22 "TerminalYardModel" "seats" "[I", .arrayClass .char, .fieldLink RX3 25 "TerminalYardModel" "how" "[C", .fieldLink RX3 29 "TerminalYardModel" "minutes" "[I", .fieldLink RX3 32 "TerminalYardModel" "owes" "[I", .fieldLink RX3 35 "TerminalYardModel" "departmentOf" "[I", .fieldLink RX3 38 "TerminalYardModel" "owner" "[I", .fieldLink RX3 41 "TerminalYardModel" "user" "[I", .fieldLink RX3 44 "TerminalYardModel" "machineOf" "[I", .fieldLink RX3 47 "TerminalYardModel" "began" "[I", .fieldLink RX3 50 "TerminalYardModel" "used" "[I", .fieldLink RX3 53 "TerminalYardModel" "charged" "[I", .fieldLink RX3 56 "TerminalYardModel" "ended" "[C", .fieldLink RX3 59 "TerminalYardModel" "printed" "[I"] ++ wsX30 ++ (vx_atM "java/lang/ArrayIndexOutOfBoundsException" ["java/lang/IndexOutOfBoundsException", "java/lang/RuntimeException", "java/lang/Exception"]).filter goodWord)
def wsX3_thrown : List Cond := .code yX3_thrown cX3_thrown 1 (some .int) :: ([.fieldLink RX3 62 "TerminalYardModel" "thrown" "I"] ++ wsX30)
def wsX3_in : List Cond := .code yX3_in cX3_in 3 (some .boolean) :: ([])
def wsX3_goesOn : List Cond := .code yX3_goesOn cX3_goesOn 2 (some .boolean) :: ([.fieldLink RX3 62 "TerminalYardModel" "thrown" "I"] ++ wsX30)
def wsX3_isPool : List Cond := .code yX3_isPool cX3_isPool 1 (some .boolean) :: ([.methodLink RX3 66 yX3_in, .static yX3_in, .initialized RX3, .code yX3_in cX3_in 3 (some .boolean)])
def wsX3_isDepartment : List Cond := .code yX3_isDepartment cX3_isDepartment 1 (some .boolean) :: ([.methodLink RX3 66 yX3_in, .static yX3_in, .initialized RX3, .code yX3_in cX3_in 3 (some .boolean)])
def wsX3_isUser : List Cond := .code yX3_isUser cX3_isUser 1 (some .boolean) :: ([.methodLink RX3 66 yX3_in, .static yX3_in, .initialized RX3, .code yX3_in cX3_in 3 (some .boolean)])
def wsX3_isMachine : List Cond := .code yX3_isMachine cX3_isMachine 2 (some .boolean) :: ([.fieldLink RX3 70 "TerminalYardModel" "machines" "I", .methodLink RX3 66 yX3_in, .static yX3_in, .initialized RX3, .code yX3_in cX3_in 3 (some .boolean)] ++ wsX30)
def wsX3_isSession : List Cond := .code yX3_isSession cX3_isSession 2 (some .boolean) :: ([.fieldLink RX3 73 "TerminalYardModel" "sessions" "I", .methodLink RX3 66 yX3_in, .static yX3_in, .initialized RX3, .code yX3_in cX3_in 3 (some .boolean)] ++ wsX30)
def wsX3_isLive : List Cond := .code yX3_isLive cX3_isLive 2 (some .boolean) :: ([.fieldLink RX3 56 "TerminalYardModel" "ended" "[C"] ++ wsX30 ++ (vx_atM "java/lang/ArrayIndexOutOfBoundsException" ["java/lang/IndexOutOfBoundsException", "java/lang/RuntimeException", "java/lang/Exception"]).filter goodWord)
def wsX3_liveOn : List Cond := .code yX3_liveOn cX3_liveOn 4 (some .int) :: ([.fieldLink RX3 73 "TerminalYardModel" "sessions" "I", .fieldLink RX3 44 "TerminalYardModel" "machineOf" "[I", .methodLink RX3 76 yX3_isLive, .instanceMethod yX3_isLive, .selects RX3 yX3_isLive yX3_isLive, .initialized RX3, .code yX3_isLive cX3_isLive 2 (some .boolean), .fieldLink RX3 56 "TerminalYardModel" "ended" "[C"] ++ wsX30 ++ (vx_atM "java/lang/ArrayIndexOutOfBoundsException" ["java/lang/IndexOutOfBoundsException", "java/lang/RuntimeException", "java/lang/Exception"]).filter goodWord)
def wsX3_addMachine : List Cond := .code yX3_addMachine cX3_addMachine 4 (some .int) :: ([.fieldLink RX3 70 "TerminalYardModel" "machines" "I", .fieldLink RX3 16 "TerminalYardModel" "pool" "[I", .fieldLink RX3 19 "TerminalYardModel" "room" "[I", .fieldLink RX3 22 "TerminalYardModel" "seats" "[I", .fieldLink RX3 25 "TerminalYardModel" "how" "[C", .methodLink RX3 80 yX3_isPool, .static yX3_isPool, .initialized RX3, .code yX3_isPool cX3_isPool 1 (some .boolean), .methodLink RX3 66 yX3_in, .static yX3_in, .code yX3_in cX3_in 3 (some .boolean), .methodLink RX3 83 yX3_goesOn, .instanceMethod yX3_goesOn, .selects RX3 yX3_goesOn yX3_goesOn, .code yX3_goesOn cX3_goesOn 2 (some .boolean), .fieldLink RX3 62 "TerminalYardModel" "thrown" "I"] ++ wsX30 ++ (vx_atM "java/lang/ArrayIndexOutOfBoundsException" ["java/lang/IndexOutOfBoundsException", "java/lang/RuntimeException", "java/lang/Exception"]).filter goodWord)
def wsX3_setLimits : List Cond := .code yX3_setLimits cX3_setLimits 5 (some .int) :: ([.fieldLink RX3 7 "TerminalYardModel" "idle" "[I", .fieldLink RX3 13 "TerminalYardModel" "hard" "[I", .methodLink RX3 80 yX3_isPool, .static yX3_isPool, .initialized RX3, .code yX3_isPool cX3_isPool 1 (some .boolean), .methodLink RX3 66 yX3_in, .static yX3_in, .code yX3_in cX3_in 3 (some .boolean), .methodLink RX3 83 yX3_goesOn, .instanceMethod yX3_goesOn, .selects RX3 yX3_goesOn yX3_goesOn, .code yX3_goesOn cX3_goesOn 2 (some .boolean), .fieldLink RX3 62 "TerminalYardModel" "thrown" "I"] ++ wsX30 ++ (vx_atM "java/lang/ArrayIndexOutOfBoundsException" ["java/lang/IndexOutOfBoundsException", "java/lang/RuntimeException", "java/lang/Exception"]).filter goodWord)
def wsX3_empties : List Cond := .code yX3_empties cX3_empties 2 none :: ([.fieldLink RX3 70 "TerminalYardModel" "machines" "I", .fieldLink RX3 25 "TerminalYardModel" "how" "[C", .methodLink RX3 86 yX3_liveOn, .instanceMethod yX3_liveOn, .selects RX3 yX3_liveOn yX3_liveOn, .initialized RX3, .code yX3_liveOn cX3_liveOn 4 (some .int), .fieldLink RX3 73 "TerminalYardModel" "sessions" "I", .fieldLink RX3 44 "TerminalYardModel" "machineOf" "[I", .methodLink RX3 76 yX3_isLive, .instanceMethod yX3_isLive, .selects RX3 yX3_isLive yX3_isLive, .code yX3_isLive cX3_isLive 2 (some .boolean), .fieldLink RX3 56 "TerminalYardModel" "ended" "[C"] ++ wsX30 ++ (vx_atM "java/lang/ArrayIndexOutOfBoundsException" ["java/lang/IndexOutOfBoundsException", "java/lang/RuntimeException", "java/lang/Exception"]).filter goodWord)
def wsX3_drain_r1 : List Cond := [Cond.fieldLink RX3 25 "TerminalYardModel" "how" "[C", Cond.methodLink RX3 90 yX3_isMachine, Cond.instanceMethod yX3_isMachine, Cond.selects RX3 yX3_isMachine yX3_isMachine, Cond.initialized RX3, Cond.code yX3_isMachine cX3_isMachine 2 (some .boolean), Cond.fieldLink RX3 70 "TerminalYardModel" "machines" "I", Cond.methodLink RX3 66 yX3_in, Cond.static yX3_in, Cond.code yX3_in cX3_in 3 (some .boolean), Cond.methodLink RX3 83 yX3_goesOn, Cond.instanceMethod yX3_goesOn, Cond.selects RX3 yX3_goesOn yX3_goesOn, Cond.code yX3_goesOn cX3_goesOn 2 (some .boolean), Cond.fieldLink RX3 62 "TerminalYardModel" "thrown" "I", Cond.methodLink RX3 93 yX3_empties, Cond.instanceMethod yX3_empties, Cond.selects RX3 yX3_empties yX3_empties, Cond.code yX3_empties cX3_empties 2 none, Cond.methodLink RX3 86 yX3_liveOn, Cond.instanceMethod yX3_liveOn, Cond.selects RX3 yX3_liveOn yX3_liveOn, Cond.code yX3_liveOn cX3_liveOn 4 (some .int), Cond.fieldLink RX3 73 "TerminalYardModel" "sessions" "I"]
def wsX3_drain_r2 : List Cond := [Cond.fieldLink RX3 44 "TerminalYardModel" "machineOf" "[I", Cond.methodLink RX3 76 yX3_isLive, Cond.instanceMethod yX3_isLive, Cond.selects RX3 yX3_isLive yX3_isLive, Cond.code yX3_isLive cX3_isLive 2 (some .boolean), Cond.fieldLink RX3 56 "TerminalYardModel" "ended" "[C"]
def wsX3_drain : List Cond := .code yX3_drain cX3_drain 2 (some .int) :: ((wsX3_drain_r1 ++ wsX3_drain_r2) ++ wsX30 ++ (vx_atM "java/lang/ArrayIndexOutOfBoundsException" ["java/lang/IndexOutOfBoundsException", "java/lang/RuntimeException", "java/lang/Exception"]).filter goodWord)
def wsX3_putUp_r1 : List Cond := [Cond.fieldLink RX3 25 "TerminalYardModel" "how" "[C", Cond.fieldLink RX3 22 "TerminalYardModel" "seats" "[I", Cond.methodLink RX3 90 yX3_isMachine, Cond.instanceMethod yX3_isMachine, Cond.selects RX3 yX3_isMachine yX3_isMachine, Cond.initialized RX3, Cond.code yX3_isMachine cX3_isMachine 2 (some .boolean), Cond.fieldLink RX3 70 "TerminalYardModel" "machines" "I", Cond.methodLink RX3 66 yX3_in, Cond.static yX3_in, Cond.code yX3_in cX3_in 3 (some .boolean), Cond.methodLink RX3 83 yX3_goesOn, Cond.instanceMethod yX3_goesOn, Cond.selects RX3 yX3_goesOn yX3_goesOn, Cond.code yX3_goesOn cX3_goesOn 2 (some .boolean), Cond.fieldLink RX3 62 "TerminalYardModel" "thrown" "I", Cond.methodLink RX3 86 yX3_liveOn, Cond.instanceMethod yX3_liveOn, Cond.selects RX3 yX3_liveOn yX3_liveOn, Cond.code yX3_liveOn cX3_liveOn 4 (some .int), Cond.fieldLink RX3 73 "TerminalYardModel" "sessions" "I", Cond.fieldLink RX3 44 "TerminalYardModel" "machineOf" "[I", Cond.methodLink RX3 76 yX3_isLive, Cond.instanceMethod yX3_isLive]
def wsX3_putUp_r2 : List Cond := [Cond.selects RX3 yX3_isLive yX3_isLive, Cond.code yX3_isLive cX3_isLive 2 (some .boolean), Cond.fieldLink RX3 56 "TerminalYardModel" "ended" "[C"]
def wsX3_putUp : List Cond := .code yX3_putUp cX3_putUp 2 (some .int) :: ((wsX3_putUp_r1 ++ wsX3_putUp_r2) ++ wsX30 ++ (vx_atM "java/lang/ArrayIndexOutOfBoundsException" ["java/lang/IndexOutOfBoundsException", "java/lang/RuntimeException", "java/lang/Exception"]).filter goodWord)
def wsX3_machine : List Cond := .code yX3_machine cX3_machine 2 (some .char) :: ([.fieldLink RX3 25 "TerminalYardModel" "how" "[C", .methodLink RX3 90 yX3_isMachine, .instanceMethod yX3_isMachine, .selects RX3 yX3_isMachine yX3_isMachine, .initialized RX3, .code yX3_isMachine cX3_isMachine 2 (some .boolean), .fieldLink RX3 70 "TerminalYardModel" "machines" "I", .methodLink RX3 66 yX3_in, .static yX3_in, .code yX3_in cX3_in 3 (some .boolean), .methodLink RX3 83 yX3_goesOn, .instanceMethod yX3_goesOn, .selects RX3 yX3_goesOn yX3_goesOn, .code yX3_goesOn cX3_goesOn 2 (some .boolean), .fieldLink RX3 62 "TerminalYardModel" "thrown" "I"] ++ wsX30 ++ (vx_atM "java/lang/ArrayIndexOutOfBoundsException" ["java/lang/IndexOutOfBoundsException", "java/lang/RuntimeException", "java/lang/Exception"]).filter goodWord)
def wsX3_nextIn : List Cond := .code yX3_nextIn cX3_nextIn 5 (some .int) :: ([.fieldLink RX3 70 "TerminalYardModel" "machines" "I", .fieldLink RX3 16 "TerminalYardModel" "pool" "[I", .fieldLink RX3 25 "TerminalYardModel" "how" "[C", .fieldLink RX3 22 "TerminalYardModel" "seats" "[I", .methodLink RX3 86 yX3_liveOn, .instanceMethod yX3_liveOn, .selects RX3 yX3_liveOn yX3_liveOn, .initialized RX3, .code yX3_liveOn cX3_liveOn 4 (some .int), .fieldLink RX3 73 "TerminalYardModel" "sessions" "I", .fieldLink RX3 44 "TerminalYardModel" "machineOf" "[I", .methodLink RX3 76 yX3_isLive, .instanceMethod yX3_isLive, .selects RX3 yX3_isLive yX3_isLive, .code yX3_isLive cX3_isLive 2 (some .boolean), .fieldLink RX3 56 "TerminalYardModel" "ended" "[C"] ++ wsX30 ++ (vx_atM "java/lang/ArrayIndexOutOfBoundsException" ["java/lang/IndexOutOfBoundsException", "java/lang/RuntimeException", "java/lang/Exception"]).filter goodWord)
def wsX3_next_r1 : List Cond := [Cond.methodLink RX3 80 yX3_isPool, Cond.static yX3_isPool, Cond.initialized RX3, Cond.code yX3_isPool cX3_isPool 1 (some .boolean), Cond.methodLink RX3 66 yX3_in, Cond.static yX3_in, Cond.code yX3_in cX3_in 3 (some .boolean), Cond.methodLink RX3 96 yX3_nextIn, Cond.instanceMethod yX3_nextIn, Cond.selects RX3 yX3_nextIn yX3_nextIn, Cond.code yX3_nextIn cX3_nextIn 5 (some .int), Cond.fieldLink RX3 70 "TerminalYardModel" "machines" "I", Cond.fieldLink RX3 16 "TerminalYardModel" "pool" "[I", Cond.fieldLink RX3 25 "TerminalYardModel" "how" "[C", Cond.fieldLink RX3 22 "TerminalYardModel" "seats" "[I", Cond.methodLink RX3 86 yX3_liveOn, Cond.instanceMethod yX3_liveOn, Cond.selects RX3 yX3_liveOn yX3_liveOn, Cond.code yX3_liveOn cX3_liveOn 4 (some .int), Cond.fieldLink RX3 73 "TerminalYardModel" "sessions" "I", Cond.fieldLink RX3 44 "TerminalYardModel" "machineOf" "[I", Cond.methodLink RX3 76 yX3_isLive, Cond.instanceMethod yX3_isLive, Cond.selects RX3 yX3_isLive yX3_isLive]
def wsX3_next_r2 : List Cond := [Cond.code yX3_isLive cX3_isLive 2 (some .boolean), Cond.fieldLink RX3 56 "TerminalYardModel" "ended" "[C", Cond.methodLink RX3 83 yX3_goesOn, Cond.instanceMethod yX3_goesOn, Cond.selects RX3 yX3_goesOn yX3_goesOn, Cond.code yX3_goesOn cX3_goesOn 2 (some .boolean), Cond.fieldLink RX3 62 "TerminalYardModel" "thrown" "I"]
def wsX3_next : List Cond := .code yX3_next cX3_next 3 (some .int) :: ((wsX3_next_r1 ++ wsX3_next_r2) ++ wsX30 ++ (vx_atM "java/lang/ArrayIndexOutOfBoundsException" ["java/lang/IndexOutOfBoundsException", "java/lang/RuntimeException", "java/lang/Exception"]).filter goodWord)
def wsX3_free_r1 : List Cond := [Cond.fieldLink RX3 70 "TerminalYardModel" "machines" "I", Cond.fieldLink RX3 16 "TerminalYardModel" "pool" "[I", Cond.fieldLink RX3 25 "TerminalYardModel" "how" "[C", Cond.fieldLink RX3 22 "TerminalYardModel" "seats" "[I", Cond.methodLink RX3 80 yX3_isPool, Cond.static yX3_isPool, Cond.initialized RX3, Cond.code yX3_isPool cX3_isPool 1 (some .boolean), Cond.methodLink RX3 66 yX3_in, Cond.static yX3_in, Cond.code yX3_in cX3_in 3 (some .boolean), Cond.methodLink RX3 83 yX3_goesOn, Cond.instanceMethod yX3_goesOn, Cond.selects RX3 yX3_goesOn yX3_goesOn, Cond.code yX3_goesOn cX3_goesOn 2 (some .boolean), Cond.fieldLink RX3 62 "TerminalYardModel" "thrown" "I", Cond.methodLink RX3 86 yX3_liveOn, Cond.instanceMethod yX3_liveOn, Cond.selects RX3 yX3_liveOn yX3_liveOn, Cond.code yX3_liveOn cX3_liveOn 4 (some .int), Cond.fieldLink RX3 73 "TerminalYardModel" "sessions" "I", Cond.fieldLink RX3 44 "TerminalYardModel" "machineOf" "[I", Cond.methodLink RX3 76 yX3_isLive, Cond.instanceMethod yX3_isLive]
def wsX3_free_r2 : List Cond := [Cond.selects RX3 yX3_isLive yX3_isLive, Cond.code yX3_isLive cX3_isLive 2 (some .boolean), Cond.fieldLink RX3 56 "TerminalYardModel" "ended" "[C"]
def wsX3_free : List Cond := .code yX3_free cX3_free 4 (some .int) :: ((wsX3_free_r1 ++ wsX3_free_r2) ++ wsX30 ++ (vx_atM "java/lang/ArrayIndexOutOfBoundsException" ["java/lang/IndexOutOfBoundsException", "java/lang/RuntimeException", "java/lang/Exception"]).filter goodWord)
def wsX3_assign : List Cond := .code yX3_assign cX3_assign 4 (some .int) :: ([.fieldLink RX3 35 "TerminalYardModel" "departmentOf" "[I", .methodLink RX3 99 yX3_isUser, .static yX3_isUser, .initialized RX3, .code yX3_isUser cX3_isUser 1 (some .boolean), .methodLink RX3 66 yX3_in, .static yX3_in, .code yX3_in cX3_in 3 (some .boolean), .methodLink RX3 102 yX3_isDepartment, .static yX3_isDepartment, .code yX3_isDepartment cX3_isDepartment 1 (some .boolean), .methodLink RX3 83 yX3_goesOn, .instanceMethod yX3_goesOn, .selects RX3 yX3_goesOn yX3_goesOn, .code yX3_goesOn cX3_goesOn 2 (some .boolean), .fieldLink RX3 62 "TerminalYardModel" "thrown" "I"] ++ wsX30 ++ (vx_atM "java/lang/ArrayIndexOutOfBoundsException" ["java/lang/IndexOutOfBoundsException", "java/lang/RuntimeException", "java/lang/Exception"]).filter goodWord)
def wsX3_buy : List Cond := .code yX3_buy cX3_buy 3 (some .int) :: ([.fieldLink RX3 29 "TerminalYardModel" "minutes" "[I", .constant RX3 105 (99999), .methodLink RX3 102 yX3_isDepartment, .static yX3_isDepartment, .initialized RX3, .code yX3_isDepartment cX3_isDepartment 1 (some .boolean), .methodLink RX3 66 yX3_in, .static yX3_in, .code yX3_in cX3_in 3 (some .boolean), .methodLink RX3 83 yX3_goesOn, .instanceMethod yX3_goesOn, .selects RX3 yX3_goesOn yX3_goesOn, .code yX3_goesOn cX3_goesOn 2 (some .boolean), .fieldLink RX3 62 "TerminalYardModel" "thrown" "I"] ++ wsX30 ++ (vx_atM "java/lang/ArrayIndexOutOfBoundsException" ["java/lang/IndexOutOfBoundsException", "java/lang/RuntimeException", "java/lang/Exception"]).filter goodWord)
def wsX3_areTwo : List Cond := .code yX3_areTwo cX3_areTwo 3 (some .boolean) :: ([.methodLink RX3 102 yX3_isDepartment, .static yX3_isDepartment, .initialized RX3, .code yX3_isDepartment cX3_isDepartment 1 (some .boolean), .methodLink RX3 66 yX3_in, .static yX3_in, .code yX3_in cX3_in 3 (some .boolean)])
def wsX3_lend : List Cond := .code yX3_lend cX3_lend 4 (some .int) :: ([.fieldLink RX3 29 "TerminalYardModel" "minutes" "[I", .fieldLink RX3 32 "TerminalYardModel" "owes" "[I", .methodLink RX3 106 yX3_areTwo, .static yX3_areTwo, .initialized RX3, .code yX3_areTwo cX3_areTwo 3 (some .boolean), .methodLink RX3 102 yX3_isDepartment, .static yX3_isDepartment, .code yX3_isDepartment cX3_isDepartment 1 (some .boolean), .methodLink RX3 66 yX3_in, .static yX3_in, .code yX3_in cX3_in 3 (some .boolean), .methodLink RX3 83 yX3_goesOn, .instanceMethod yX3_goesOn, .selects RX3 yX3_goesOn yX3_goesOn, .code yX3_goesOn cX3_goesOn 2 (some .boolean), .fieldLink RX3 62 "TerminalYardModel" "thrown" "I"] ++ wsX30 ++ (vx_atM "java/lang/ArrayIndexOutOfBoundsException" ["java/lang/IndexOutOfBoundsException", "java/lang/RuntimeException", "java/lang/Exception"]).filter goodWord)
def wsX3_giveBack : List Cond := .code yX3_giveBack cX3_giveBack 5 (some .int) :: ([.fieldLink RX3 32 "TerminalYardModel" "owes" "[I", .fieldLink RX3 29 "TerminalYardModel" "minutes" "[I", .methodLink RX3 106 yX3_areTwo, .static yX3_areTwo, .initialized RX3, .code yX3_areTwo cX3_areTwo 3 (some .boolean), .methodLink RX3 102 yX3_isDepartment, .static yX3_isDepartment, .code yX3_isDepartment cX3_isDepartment 1 (some .boolean), .methodLink RX3 66 yX3_in, .static yX3_in, .code yX3_in cX3_in 3 (some .boolean), .methodLink RX3 83 yX3_goesOn, .instanceMethod yX3_goesOn, .selects RX3 yX3_goesOn yX3_goesOn, .code yX3_goesOn cX3_goesOn 2 (some .boolean), .fieldLink RX3 62 "TerminalYardModel" "thrown" "I"] ++ wsX30 ++ (vx_atM "java/lang/ArrayIndexOutOfBoundsException" ["java/lang/IndexOutOfBoundsException", "java/lang/RuntimeException", "java/lang/Exception"]).filter goodWord)
def wsX3_minutes : List Cond := .code yX3_minutes cX3_minutes 2 (some .int) :: ([.fieldLink RX3 29 "TerminalYardModel" "minutes" "[I", .methodLink RX3 102 yX3_isDepartment, .static yX3_isDepartment, .initialized RX3, .code yX3_isDepartment cX3_isDepartment 1 (some .boolean), .methodLink RX3 66 yX3_in, .static yX3_in, .code yX3_in cX3_in 3 (some .boolean), .methodLink RX3 83 yX3_goesOn, .instanceMethod yX3_goesOn, .selects RX3 yX3_goesOn yX3_goesOn, .code yX3_goesOn cX3_goesOn 2 (some .boolean), .fieldLink RX3 62 "TerminalYardModel" "thrown" "I"] ++ wsX30 ++ (vx_atM "java/lang/ArrayIndexOutOfBoundsException" ["java/lang/IndexOutOfBoundsException", "java/lang/RuntimeException", "java/lang/Exception"]).filter goodWord)
def wsX3_minutesBySessions : List Cond := .code yX3_minutesBySessions cX3_minutesBySessions 2 (some .int) :: ([.methodLink RX3 109 yX3_minutes, .instanceMethod yX3_minutes, .selects RX3 yX3_minutes yX3_minutes, .initialized RX3, .code yX3_minutes cX3_minutes 2 (some .int), .fieldLink RX3 29 "TerminalYardModel" "minutes" "[I", .methodLink RX3 102 yX3_isDepartment, .static yX3_isDepartment, .code yX3_isDepartment cX3_isDepartment 1 (some .boolean), .methodLink RX3 66 yX3_in, .static yX3_in, .code yX3_in cX3_in 3 (some .boolean), .methodLink RX3 83 yX3_goesOn, .instanceMethod yX3_goesOn, .selects RX3 yX3_goesOn yX3_goesOn, .code yX3_goesOn cX3_goesOn 2 (some .boolean), .fieldLink RX3 62 "TerminalYardModel" "thrown" "I"] ++ wsX30 ++ (vx_atM "java/lang/ArrayIndexOutOfBoundsException" ["java/lang/IndexOutOfBoundsException", "java/lang/RuntimeException", "java/lang/Exception"]).filter goodWord)
def wsX3_owns : List Cond := .code yX3_owns cX3_owns 4 (some .boolean) :: ([.fieldLink RX3 73 "TerminalYardModel" "sessions" "I", .fieldLink RX3 38 "TerminalYardModel" "owner" "[I", .methodLink RX3 76 yX3_isLive, .instanceMethod yX3_isLive, .selects RX3 yX3_isLive yX3_isLive, .initialized RX3, .code yX3_isLive cX3_isLive 2 (some .boolean), .fieldLink RX3 56 "TerminalYardModel" "ended" "[C"] ++ wsX30 ++ (vx_atM "java/lang/ArrayIndexOutOfBoundsException" ["java/lang/IndexOutOfBoundsException", "java/lang/RuntimeException", "java/lang/Exception"]).filter goodWord)
def wsX3_logIn_r1 : List Cond := [Cond.fieldLink RX3 73 "TerminalYardModel" "sessions" "I", Cond.fieldLink RX3 29 "TerminalYardModel" "minutes" "[I", Cond.fieldLink RX3 35 "TerminalYardModel" "departmentOf" "[I", Cond.fieldLink RX3 38 "TerminalYardModel" "owner" "[I", Cond.fieldLink RX3 41 "TerminalYardModel" "user" "[I", Cond.fieldLink RX3 44 "TerminalYardModel" "machineOf" "[I", Cond.fieldLink RX3 47 "TerminalYardModel" "began" "[I", Cond.fieldLink RX3 114 "TerminalYardModel" "time" "I", Cond.fieldLink RX3 50 "TerminalYardModel" "used" "[I", Cond.methodLink RX3 99 yX3_isUser, Cond.static yX3_isUser, Cond.initialized RX3, Cond.code yX3_isUser cX3_isUser 1 (some .boolean), Cond.methodLink RX3 66 yX3_in, Cond.static yX3_in, Cond.code yX3_in cX3_in 3 (some .boolean), Cond.methodLink RX3 80 yX3_isPool, Cond.static yX3_isPool, Cond.code yX3_isPool cX3_isPool 1 (some .boolean), Cond.methodLink RX3 111 yX3_owns, Cond.instanceMethod yX3_owns, Cond.selects RX3 yX3_owns yX3_owns, Cond.code yX3_owns cX3_owns 4 (some .boolean), Cond.methodLink RX3 76 yX3_isLive]
def wsX3_logIn_r2 : List Cond := [Cond.instanceMethod yX3_isLive, Cond.selects RX3 yX3_isLive yX3_isLive, Cond.code yX3_isLive cX3_isLive 2 (some .boolean), Cond.fieldLink RX3 56 "TerminalYardModel" "ended" "[C", Cond.methodLink RX3 96 yX3_nextIn, Cond.instanceMethod yX3_nextIn, Cond.selects RX3 yX3_nextIn yX3_nextIn, Cond.code yX3_nextIn cX3_nextIn 5 (some .int), Cond.fieldLink RX3 70 "TerminalYardModel" "machines" "I", Cond.fieldLink RX3 16 "TerminalYardModel" "pool" "[I", Cond.fieldLink RX3 25 "TerminalYardModel" "how" "[C", Cond.fieldLink RX3 22 "TerminalYardModel" "seats" "[I", Cond.methodLink RX3 86 yX3_liveOn, Cond.instanceMethod yX3_liveOn, Cond.selects RX3 yX3_liveOn yX3_liveOn, Cond.code yX3_liveOn cX3_liveOn 4 (some .int), Cond.methodLink RX3 83 yX3_goesOn, Cond.instanceMethod yX3_goesOn, Cond.selects RX3 yX3_goesOn yX3_goesOn, Cond.code yX3_goesOn cX3_goesOn 2 (some .boolean), Cond.fieldLink RX3 62 "TerminalYardModel" "thrown" "I"]
def wsX3_logIn : List Cond := .code yX3_logIn cX3_logIn 5 (some .int) :: ((wsX3_logIn_r1 ++ wsX3_logIn_r2) ++ wsX30 ++ (vx_atM "java/lang/ArrayIndexOutOfBoundsException" ["java/lang/IndexOutOfBoundsException", "java/lang/RuntimeException", "java/lang/Exception"]).filter goodWord)
def wsX3_chargedTo : List Cond := .code yX3_chargedTo cX3_chargedTo 4 (some .int) :: ([.fieldLink RX3 53 "TerminalYardModel" "charged" "[I"] ++ wsX30 ++ (vx_atM "java/lang/ArrayIndexOutOfBoundsException" ["java/lang/IndexOutOfBoundsException", "java/lang/RuntimeException", "java/lang/Exception"]).filter goodWord)
def wsX3_liveFault : List Cond := .code yX3_liveFault cX3_liveFault 2 (some .int) :: ([.methodLink RX3 117 yX3_isSession, .instanceMethod yX3_isSession, .selects RX3 yX3_isSession yX3_isSession, .initialized RX3, .code yX3_isSession cX3_isSession 2 (some .boolean), .fieldLink RX3 73 "TerminalYardModel" "sessions" "I", .methodLink RX3 66 yX3_in, .static yX3_in, .code yX3_in cX3_in 3 (some .boolean), .methodLink RX3 76 yX3_isLive, .instanceMethod yX3_isLive, .selects RX3 yX3_isLive yX3_isLive, .code yX3_isLive cX3_isLive 2 (some .boolean), .fieldLink RX3 56 "TerminalYardModel" "ended" "[C"] ++ wsX30 ++ (vx_atM "java/lang/ArrayIndexOutOfBoundsException" ["java/lang/IndexOutOfBoundsException", "java/lang/RuntimeException", "java/lang/Exception"]).filter goodWord)
def wsX3_logOut_r1 : List Cond := [Cond.fieldLink RX3 56 "TerminalYardModel" "ended" "[C", Cond.methodLink RX3 120 yX3_liveFault, Cond.instanceMethod yX3_liveFault, Cond.selects RX3 yX3_liveFault yX3_liveFault, Cond.initialized RX3, Cond.code yX3_liveFault cX3_liveFault 2 (some .int), Cond.methodLink RX3 117 yX3_isSession, Cond.instanceMethod yX3_isSession, Cond.selects RX3 yX3_isSession yX3_isSession, Cond.code yX3_isSession cX3_isSession 2 (some .boolean), Cond.fieldLink RX3 73 "TerminalYardModel" "sessions" "I", Cond.methodLink RX3 66 yX3_in, Cond.static yX3_in, Cond.code yX3_in cX3_in 3 (some .boolean), Cond.methodLink RX3 76 yX3_isLive, Cond.instanceMethod yX3_isLive, Cond.selects RX3 yX3_isLive yX3_isLive, Cond.code yX3_isLive cX3_isLive 2 (some .boolean), Cond.methodLink RX3 83 yX3_goesOn, Cond.instanceMethod yX3_goesOn, Cond.selects RX3 yX3_goesOn yX3_goesOn, Cond.code yX3_goesOn cX3_goesOn 2 (some .boolean), Cond.fieldLink RX3 62 "TerminalYardModel" "thrown" "I", Cond.methodLink RX3 93 yX3_empties]
def wsX3_logOut_r2 : List Cond := [Cond.instanceMethod yX3_empties, Cond.selects RX3 yX3_empties yX3_empties, Cond.code yX3_empties cX3_empties 2 none, Cond.fieldLink RX3 70 "TerminalYardModel" "machines" "I", Cond.fieldLink RX3 25 "TerminalYardModel" "how" "[C", Cond.methodLink RX3 86 yX3_liveOn, Cond.instanceMethod yX3_liveOn, Cond.selects RX3 yX3_liveOn yX3_liveOn, Cond.code yX3_liveOn cX3_liveOn 4 (some .int), Cond.fieldLink RX3 44 "TerminalYardModel" "machineOf" "[I", Cond.methodLink RX3 123 yX3_chargedTo, Cond.instanceMethod yX3_chargedTo, Cond.selects RX3 yX3_chargedTo yX3_chargedTo, Cond.code yX3_chargedTo cX3_chargedTo 4 (some .int), Cond.fieldLink RX3 53 "TerminalYardModel" "charged" "[I"]
def wsX3_logOut : List Cond := .code yX3_logOut cX3_logOut 2 (some .int) :: ((wsX3_logOut_r1 ++ wsX3_logOut_r2) ++ wsX30 ++ (vx_atM "java/lang/ArrayIndexOutOfBoundsException" ["java/lang/IndexOutOfBoundsException", "java/lang/RuntimeException", "java/lang/Exception"]).filter goodWord)
def wsX3_use_r1 : List Cond := [Cond.fieldLink RX3 50 "TerminalYardModel" "used" "[I", Cond.fieldLink RX3 114 "TerminalYardModel" "time" "I", Cond.methodLink RX3 120 yX3_liveFault, Cond.instanceMethod yX3_liveFault, Cond.selects RX3 yX3_liveFault yX3_liveFault, Cond.initialized RX3, Cond.code yX3_liveFault cX3_liveFault 2 (some .int), Cond.methodLink RX3 117 yX3_isSession, Cond.instanceMethod yX3_isSession, Cond.selects RX3 yX3_isSession yX3_isSession, Cond.code yX3_isSession cX3_isSession 2 (some .boolean), Cond.fieldLink RX3 73 "TerminalYardModel" "sessions" "I", Cond.methodLink RX3 66 yX3_in, Cond.static yX3_in, Cond.code yX3_in cX3_in 3 (some .boolean), Cond.methodLink RX3 76 yX3_isLive, Cond.instanceMethod yX3_isLive, Cond.selects RX3 yX3_isLive yX3_isLive, Cond.code yX3_isLive cX3_isLive 2 (some .boolean), Cond.fieldLink RX3 56 "TerminalYardModel" "ended" "[C", Cond.methodLink RX3 83 yX3_goesOn, Cond.instanceMethod yX3_goesOn, Cond.selects RX3 yX3_goesOn yX3_goesOn, Cond.code yX3_goesOn cX3_goesOn 2 (some .boolean)]
def wsX3_use_r2 : List Cond := [Cond.fieldLink RX3 62 "TerminalYardModel" "thrown" "I"]
def wsX3_use : List Cond := .code yX3_use cX3_use 3 (some .int) :: ((wsX3_use_r1 ++ wsX3_use_r2) ++ wsX30 ++ (vx_atM "java/lang/ArrayIndexOutOfBoundsException" ["java/lang/IndexOutOfBoundsException", "java/lang/RuntimeException", "java/lang/Exception"]).filter goodWord)
def wsX3_takeOver_r1 : List Cond := [Cond.fieldLink RX3 41 "TerminalYardModel" "user" "[I", Cond.fieldLink RX3 29 "TerminalYardModel" "minutes" "[I", Cond.fieldLink RX3 35 "TerminalYardModel" "departmentOf" "[I", Cond.fieldLink RX3 50 "TerminalYardModel" "used" "[I", Cond.fieldLink RX3 114 "TerminalYardModel" "time" "I", Cond.methodLink RX3 117 yX3_isSession, Cond.instanceMethod yX3_isSession, Cond.selects RX3 yX3_isSession yX3_isSession, Cond.initialized RX3, Cond.code yX3_isSession cX3_isSession 2 (some .boolean), Cond.fieldLink RX3 73 "TerminalYardModel" "sessions" "I", Cond.methodLink RX3 66 yX3_in, Cond.static yX3_in, Cond.code yX3_in cX3_in 3 (some .boolean), Cond.methodLink RX3 99 yX3_isUser, Cond.static yX3_isUser, Cond.code yX3_isUser cX3_isUser 1 (some .boolean), Cond.methodLink RX3 76 yX3_isLive, Cond.instanceMethod yX3_isLive, Cond.selects RX3 yX3_isLive yX3_isLive, Cond.code yX3_isLive cX3_isLive 2 (some .boolean), Cond.fieldLink RX3 56 "TerminalYardModel" "ended" "[C", Cond.methodLink RX3 83 yX3_goesOn, Cond.instanceMethod yX3_goesOn]
def wsX3_takeOver_r2 : List Cond := [Cond.selects RX3 yX3_goesOn yX3_goesOn, Cond.code yX3_goesOn cX3_goesOn 2 (some .boolean), Cond.fieldLink RX3 62 "TerminalYardModel" "thrown" "I"]
def wsX3_takeOver : List Cond := .code yX3_takeOver cX3_takeOver 5 (some .int) :: ((wsX3_takeOver_r1 ++ wsX3_takeOver_r2) ++ wsX30 ++ (vx_atM "java/lang/ArrayIndexOutOfBoundsException" ["java/lang/IndexOutOfBoundsException", "java/lang/RuntimeException", "java/lang/Exception"]).filter goodWord)
def wsX3_handBack_r1 : List Cond := [Cond.fieldLink RX3 41 "TerminalYardModel" "user" "[I", Cond.fieldLink RX3 38 "TerminalYardModel" "owner" "[I", Cond.fieldLink RX3 50 "TerminalYardModel" "used" "[I", Cond.fieldLink RX3 114 "TerminalYardModel" "time" "I", Cond.methodLink RX3 120 yX3_liveFault, Cond.instanceMethod yX3_liveFault, Cond.selects RX3 yX3_liveFault yX3_liveFault, Cond.initialized RX3, Cond.code yX3_liveFault cX3_liveFault 2 (some .int), Cond.methodLink RX3 117 yX3_isSession, Cond.instanceMethod yX3_isSession, Cond.selects RX3 yX3_isSession yX3_isSession, Cond.code yX3_isSession cX3_isSession 2 (some .boolean), Cond.fieldLink RX3 73 "TerminalYardModel" "sessions" "I", Cond.methodLink RX3 66 yX3_in, Cond.static yX3_in, Cond.code yX3_in cX3_in 3 (some .boolean), Cond.methodLink RX3 76 yX3_isLive, Cond.instanceMethod yX3_isLive, Cond.selects RX3 yX3_isLive yX3_isLive, Cond.code yX3_isLive cX3_isLive 2 (some .boolean), Cond.fieldLink RX3 56 "TerminalYardModel" "ended" "[C", Cond.methodLink RX3 83 yX3_goesOn, Cond.instanceMethod yX3_goesOn]
def wsX3_handBack_r2 : List Cond := [Cond.selects RX3 yX3_goesOn yX3_goesOn, Cond.code yX3_goesOn cX3_goesOn 2 (some .boolean), Cond.fieldLink RX3 62 "TerminalYardModel" "thrown" "I"]
def wsX3_handBack : List Cond := .code yX3_handBack cX3_handBack 4 (some .int) :: ((wsX3_handBack_r1 ++ wsX3_handBack_r2) ++ wsX30 ++ (vx_atM "java/lang/ArrayIndexOutOfBoundsException" ["java/lang/IndexOutOfBoundsException", "java/lang/RuntimeException", "java/lang/Exception"]).filter goodWord)
def wsX3_charges : List Cond := .code yX3_charges cX3_charges 4 none :: ([.fieldLink RX3 35 "TerminalYardModel" "departmentOf" "[I", .fieldLink RX3 41 "TerminalYardModel" "user" "[I", .fieldLink RX3 29 "TerminalYardModel" "minutes" "[I", .fieldLink RX3 53 "TerminalYardModel" "charged" "[I", .fieldLink RX3 126 "TerminalYardModel" "allMinutes" "I"] ++ wsX30 ++ (vx_atM "java/lang/ArrayIndexOutOfBoundsException" ["java/lang/IndexOutOfBoundsException", "java/lang/RuntimeException", "java/lang/Exception"]).filter goodWord)
def wsX3_print_r1 : List Cond := [Cond.fieldLink RX3 29 "TerminalYardModel" "minutes" "[I", Cond.fieldLink RX3 35 "TerminalYardModel" "departmentOf" "[I", Cond.fieldLink RX3 41 "TerminalYardModel" "user" "[I", Cond.fieldLink RX3 133 "TerminalYardModel" "pageMinutes" "I", Cond.fieldLink RX3 50 "TerminalYardModel" "used" "[I", Cond.fieldLink RX3 114 "TerminalYardModel" "time" "I", Cond.fieldLink RX3 59 "TerminalYardModel" "printed" "[I", Cond.fieldLink RX3 19 "TerminalYardModel" "room" "[I", Cond.fieldLink RX3 44 "TerminalYardModel" "machineOf" "[I", Cond.methodLink RX3 117 yX3_isSession, Cond.instanceMethod yX3_isSession, Cond.selects RX3 yX3_isSession yX3_isSession, Cond.initialized RX3, Cond.code yX3_isSession cX3_isSession 2 (some .boolean), Cond.fieldLink RX3 73 "TerminalYardModel" "sessions" "I", Cond.methodLink RX3 66 yX3_in, Cond.static yX3_in, Cond.code yX3_in cX3_in 3 (some .boolean), Cond.methodLink RX3 76 yX3_isLive, Cond.instanceMethod yX3_isLive, Cond.selects RX3 yX3_isLive yX3_isLive, Cond.code yX3_isLive cX3_isLive 2 (some .boolean), Cond.fieldLink RX3 56 "TerminalYardModel" "ended" "[C", Cond.methodLink RX3 83 yX3_goesOn]
def wsX3_print_r2 : List Cond := [Cond.instanceMethod yX3_goesOn, Cond.selects RX3 yX3_goesOn yX3_goesOn, Cond.code yX3_goesOn cX3_goesOn 2 (some .boolean), Cond.fieldLink RX3 62 "TerminalYardModel" "thrown" "I", Cond.methodLink RX3 129 yX3_charges, Cond.instanceMethod yX3_charges, Cond.selects RX3 yX3_charges yX3_charges, Cond.code yX3_charges cX3_charges 4 none, Cond.fieldLink RX3 53 "TerminalYardModel" "charged" "[I", Cond.fieldLink RX3 126 "TerminalYardModel" "allMinutes" "I"]
def wsX3_print : List Cond := .code yX3_print cX3_print 4 (some .int) :: ((wsX3_print_r1 ++ wsX3_print_r2) ++ wsX30 ++ (vx_atM "java/lang/ArrayIndexOutOfBoundsException" ["java/lang/IndexOutOfBoundsException", "java/lang/RuntimeException", "java/lang/Exception"]).filter goodWord)
def wsX3_state : List Cond := .code yX3_state cX3_state 2 (some .char) :: ([.fieldLink RX3 56 "TerminalYardModel" "ended" "[C", .fieldLink RX3 41 "TerminalYardModel" "user" "[I", .fieldLink RX3 38 "TerminalYardModel" "owner" "[I", .methodLink RX3 117 yX3_isSession, .instanceMethod yX3_isSession, .selects RX3 yX3_isSession yX3_isSession, .initialized RX3, .code yX3_isSession cX3_isSession 2 (some .boolean), .fieldLink RX3 73 "TerminalYardModel" "sessions" "I", .methodLink RX3 66 yX3_in, .static yX3_in, .code yX3_in cX3_in 3 (some .boolean), .methodLink RX3 83 yX3_goesOn, .instanceMethod yX3_goesOn, .selects RX3 yX3_goesOn yX3_goesOn, .code yX3_goesOn cX3_goesOn 2 (some .boolean), .fieldLink RX3 62 "TerminalYardModel" "thrown" "I", .methodLink RX3 76 yX3_isLive, .instanceMethod yX3_isLive, .selects RX3 yX3_isLive yX3_isLive, .code yX3_isLive cX3_isLive 2 (some .boolean)] ++ wsX30 ++ (vx_atM "java/lang/ArrayIndexOutOfBoundsException" ["java/lang/IndexOutOfBoundsException", "java/lang/RuntimeException", "java/lang/Exception"]).filter goodWord)
def wsX3_machineOf : List Cond := .code yX3_machineOf cX3_machineOf 2 (some .int) :: ([.fieldLink RX3 44 "TerminalYardModel" "machineOf" "[I", .methodLink RX3 117 yX3_isSession, .instanceMethod yX3_isSession, .selects RX3 yX3_isSession yX3_isSession, .initialized RX3, .code yX3_isSession cX3_isSession 2 (some .boolean), .fieldLink RX3 73 "TerminalYardModel" "sessions" "I", .methodLink RX3 66 yX3_in, .static yX3_in, .code yX3_in cX3_in 3 (some .boolean), .methodLink RX3 83 yX3_goesOn, .instanceMethod yX3_goesOn, .selects RX3 yX3_goesOn yX3_goesOn, .code yX3_goesOn cX3_goesOn 2 (some .boolean), .fieldLink RX3 62 "TerminalYardModel" "thrown" "I"] ++ wsX30 ++ (vx_atM "java/lang/ArrayIndexOutOfBoundsException" ["java/lang/IndexOutOfBoundsException", "java/lang/RuntimeException", "java/lang/Exception"]).filter goodWord)
def wsX3_userOf : List Cond := .code yX3_userOf cX3_userOf 2 (some .int) :: ([.fieldLink RX3 41 "TerminalYardModel" "user" "[I", .methodLink RX3 117 yX3_isSession, .instanceMethod yX3_isSession, .selects RX3 yX3_isSession yX3_isSession, .initialized RX3, .code yX3_isSession cX3_isSession 2 (some .boolean), .fieldLink RX3 73 "TerminalYardModel" "sessions" "I", .methodLink RX3 66 yX3_in, .static yX3_in, .code yX3_in cX3_in 3 (some .boolean), .methodLink RX3 83 yX3_goesOn, .instanceMethod yX3_goesOn, .selects RX3 yX3_goesOn yX3_goesOn, .code yX3_goesOn cX3_goesOn 2 (some .boolean), .fieldLink RX3 62 "TerminalYardModel" "thrown" "I"] ++ wsX30 ++ (vx_atM "java/lang/ArrayIndexOutOfBoundsException" ["java/lang/IndexOutOfBoundsException", "java/lang/RuntimeException", "java/lang/Exception"]).filter goodWord)
def wsX3_charged : List Cond := .code yX3_charged cX3_charged 3 (some .int) :: ([.fieldLink RX3 53 "TerminalYardModel" "charged" "[I", .methodLink RX3 117 yX3_isSession, .instanceMethod yX3_isSession, .selects RX3 yX3_isSession yX3_isSession, .initialized RX3, .code yX3_isSession cX3_isSession 2 (some .boolean), .fieldLink RX3 73 "TerminalYardModel" "sessions" "I", .methodLink RX3 66 yX3_in, .static yX3_in, .code yX3_in cX3_in 3 (some .boolean), .methodLink RX3 102 yX3_isDepartment, .static yX3_isDepartment, .code yX3_isDepartment cX3_isDepartment 1 (some .boolean), .methodLink RX3 83 yX3_goesOn, .instanceMethod yX3_goesOn, .selects RX3 yX3_goesOn yX3_goesOn, .code yX3_goesOn cX3_goesOn 2 (some .boolean), .fieldLink RX3 62 "TerminalYardModel" "thrown" "I"] ++ wsX30 ++ (vx_atM "java/lang/ArrayIndexOutOfBoundsException" ["java/lang/IndexOutOfBoundsException", "java/lang/RuntimeException", "java/lang/Exception"]).filter goodWord)
def wsX3_endsIn_r1 : List Cond := [Cond.fieldLink RX3 16 "TerminalYardModel" "pool" "[I", Cond.fieldLink RX3 44 "TerminalYardModel" "machineOf" "[I", Cond.fieldLink RX3 7 "TerminalYardModel" "idle" "[I", Cond.fieldLink RX3 114 "TerminalYardModel" "time" "I", Cond.fieldLink RX3 50 "TerminalYardModel" "used" "[I", Cond.fieldLink RX3 13 "TerminalYardModel" "hard" "[I", Cond.fieldLink RX3 47 "TerminalYardModel" "began" "[I", Cond.methodLink RX3 120 yX3_liveFault, Cond.instanceMethod yX3_liveFault, Cond.selects RX3 yX3_liveFault yX3_liveFault, Cond.initialized RX3, Cond.code yX3_liveFault cX3_liveFault 2 (some .int), Cond.methodLink RX3 117 yX3_isSession, Cond.instanceMethod yX3_isSession, Cond.selects RX3 yX3_isSession yX3_isSession, Cond.code yX3_isSession cX3_isSession 2 (some .boolean), Cond.fieldLink RX3 73 "TerminalYardModel" "sessions" "I", Cond.methodLink RX3 66 yX3_in, Cond.static yX3_in, Cond.code yX3_in cX3_in 3 (some .boolean), Cond.methodLink RX3 76 yX3_isLive, Cond.instanceMethod yX3_isLive, Cond.selects RX3 yX3_isLive yX3_isLive, Cond.code yX3_isLive cX3_isLive 2 (some .boolean)]
def wsX3_endsIn_r2 : List Cond := [Cond.fieldLink RX3 56 "TerminalYardModel" "ended" "[C", Cond.methodLink RX3 83 yX3_goesOn, Cond.instanceMethod yX3_goesOn, Cond.selects RX3 yX3_goesOn yX3_goesOn, Cond.code yX3_goesOn cX3_goesOn 2 (some .boolean), Cond.fieldLink RX3 62 "TerminalYardModel" "thrown" "I"]
def wsX3_endsIn : List Cond := .code yX3_endsIn cX3_endsIn 6 (some .int) :: ((wsX3_endsIn_r1 ++ wsX3_endsIn_r2) ++ wsX30 ++ (vx_atM "java/lang/ArrayIndexOutOfBoundsException" ["java/lang/IndexOutOfBoundsException", "java/lang/RuntimeException", "java/lang/Exception"]).filter goodWord)
def wsX3_passes : List Cond := .code yX3_passes cX3_passes 3 (some .boolean) :: ([.fieldLink RX3 16 "TerminalYardModel" "pool" "[I", .fieldLink RX3 44 "TerminalYardModel" "machineOf" "[I", .fieldLink RX3 29 "TerminalYardModel" "minutes" "[I", .fieldLink RX3 35 "TerminalYardModel" "departmentOf" "[I", .fieldLink RX3 41 "TerminalYardModel" "user" "[I", .fieldLink RX3 56 "TerminalYardModel" "ended" "[C", .fieldLink RX3 114 "TerminalYardModel" "time" "I", .fieldLink RX3 50 "TerminalYardModel" "used" "[I", .fieldLink RX3 7 "TerminalYardModel" "idle" "[I", .fieldLink RX3 47 "TerminalYardModel" "began" "[I", .fieldLink RX3 13 "TerminalYardModel" "hard" "[I", .methodLink RX3 129 yX3_charges, .instanceMethod yX3_charges, .selects RX3 yX3_charges yX3_charges, .initialized RX3, .code yX3_charges cX3_charges 4 none, .fieldLink RX3 53 "TerminalYardModel" "charged" "[I", .fieldLink RX3 126 "TerminalYardModel" "allMinutes" "I", .methodLink RX3 76 yX3_isLive, .instanceMethod yX3_isLive, .selects RX3 yX3_isLive yX3_isLive, .code yX3_isLive cX3_isLive 2 (some .boolean)] ++ wsX30 ++ (vx_atM "java/lang/ArrayIndexOutOfBoundsException" ["java/lang/IndexOutOfBoundsException", "java/lang/RuntimeException", "java/lang/Exception"]).filter goodWord)
def wsX3_pass_r1 : List Cond := [Cond.fieldLink RX3 114 "TerminalYardModel" "time" "I", Cond.fieldLink RX3 73 "TerminalYardModel" "sessions" "I", Cond.methodLink RX3 66 yX3_in, Cond.static yX3_in, Cond.initialized RX3, Cond.code yX3_in cX3_in 3 (some .boolean), Cond.methodLink RX3 83 yX3_goesOn, Cond.instanceMethod yX3_goesOn, Cond.selects RX3 yX3_goesOn yX3_goesOn, Cond.code yX3_goesOn cX3_goesOn 2 (some .boolean), Cond.fieldLink RX3 62 "TerminalYardModel" "thrown" "I", Cond.methodLink RX3 76 yX3_isLive, Cond.instanceMethod yX3_isLive, Cond.selects RX3 yX3_isLive yX3_isLive, Cond.code yX3_isLive cX3_isLive 2 (some .boolean), Cond.fieldLink RX3 56 "TerminalYardModel" "ended" "[C", Cond.methodLink RX3 136 yX3_passes, Cond.instanceMethod yX3_passes, Cond.selects RX3 yX3_passes yX3_passes, Cond.code yX3_passes cX3_passes 3 (some .boolean), Cond.fieldLink RX3 16 "TerminalYardModel" "pool" "[I", Cond.fieldLink RX3 44 "TerminalYardModel" "machineOf" "[I", Cond.fieldLink RX3 29 "TerminalYardModel" "minutes" "[I", Cond.fieldLink RX3 35 "TerminalYardModel" "departmentOf" "[I"]
def wsX3_pass_r2 : List Cond := [Cond.fieldLink RX3 41 "TerminalYardModel" "user" "[I", Cond.fieldLink RX3 50 "TerminalYardModel" "used" "[I", Cond.fieldLink RX3 7 "TerminalYardModel" "idle" "[I", Cond.fieldLink RX3 47 "TerminalYardModel" "began" "[I", Cond.fieldLink RX3 13 "TerminalYardModel" "hard" "[I", Cond.methodLink RX3 129 yX3_charges, Cond.instanceMethod yX3_charges, Cond.selects RX3 yX3_charges yX3_charges, Cond.code yX3_charges cX3_charges 4 none, Cond.fieldLink RX3 53 "TerminalYardModel" "charged" "[I", Cond.fieldLink RX3 126 "TerminalYardModel" "allMinutes" "I", Cond.methodLink RX3 93 yX3_empties, Cond.instanceMethod yX3_empties, Cond.selects RX3 yX3_empties yX3_empties, Cond.code yX3_empties cX3_empties 2 none, Cond.fieldLink RX3 70 "TerminalYardModel" "machines" "I", Cond.fieldLink RX3 25 "TerminalYardModel" "how" "[C", Cond.methodLink RX3 86 yX3_liveOn, Cond.instanceMethod yX3_liveOn, Cond.selects RX3 yX3_liveOn yX3_liveOn, Cond.code yX3_liveOn cX3_liveOn 4 (some .int)]
def wsX3_pass : List Cond := .code yX3_pass cX3_pass 5 (some .int) :: ((wsX3_pass_r1 ++ wsX3_pass_r2) ++ wsX30 ++ (vx_atM "java/lang/ArrayIndexOutOfBoundsException" ["java/lang/IndexOutOfBoundsException", "java/lang/RuntimeException", "java/lang/Exception"]).filter goodWord)
def wsX3_time : List Cond := .code yX3_time cX3_time 1 (some .int) :: ([.fieldLink RX3 62 "TerminalYardModel" "thrown" "I", .fieldLink RX3 114 "TerminalYardModel" "time" "I"] ++ wsX30)
def wsX3_pageShare : List Cond := .code yX3_pageShare cX3_pageShare 1 (some .float) :: ([.fieldLink RX3 126 "TerminalYardModel" "allMinutes" "I", .fieldLink RX3 133 "TerminalYardModel" "pageMinutes" "I", .methodLink RX3 83 yX3_goesOn, .instanceMethod yX3_goesOn, .selects RX3 yX3_goesOn yX3_goesOn, .initialized RX3, .code yX3_goesOn cX3_goesOn 2 (some .boolean), .fieldLink RX3 62 "TerminalYardModel" "thrown" "I"] ++ wsX30)
def wsX3_meanCharge : List Cond := .code yX3_meanCharge cX3_meanCharge 1 (some .double) :: ([.fieldLink RX3 73 "TerminalYardModel" "sessions" "I", .fieldLink RX3 126 "TerminalYardModel" "allMinutes" "I", .methodLink RX3 83 yX3_goesOn, .instanceMethod yX3_goesOn, .selects RX3 yX3_goesOn yX3_goesOn, .initialized RX3, .code yX3_goesOn cX3_goesOn 2 (some .boolean), .fieldLink RX3 62 "TerminalYardModel" "thrown" "I"] ++ wsX30)
def wsJx00060_init_a7421 : List Cond := .code yJx00060_init_a7421 cJx00060_init_a7421 2 none :: ([])
def wsJ9_max_7cf53 : List Cond := .code yJ9_max_7cf53 cJ9_max_7cf53 2 (some .int) :: ([])
def wsJ9_min_7cf53 : List Cond := .code yJ9_min_7cf53 cJ9_min_7cf53 2 (some .int) :: ([])
def wsL_addMachine_r1 : List Cond := [Cond.classLink RL 13 "java/lang/IllegalArgumentException", Cond.classLink RL 15 "java/lang/IllegalStateException", Cond.methodLink RL 7 yX2_addMachine, Cond.instanceMethod yX2_addMachine, Cond.selects RX2 yX2_addMachine yX2_addMachine, Cond.initialized RX2, Cond.code yX2_addMachine cX2_addMachine 5 (some .int), Cond.classLink RX2 58 "java/lang/IllegalArgumentException", Cond.initialized "java/lang/IllegalArgumentException", Cond.classLink RX2 71 "java/lang/IllegalStateException", Cond.initialized "java/lang/IllegalStateException", Cond.fieldLink RX2 36 "TerminalYard" "machines" "Ljava/util/ArrayList;", Cond.classLink RX2 76 RX0, Cond.instantiable RX0 6, Cond.initialized RX0, Cond.methodLink RX2 50 yX2_checkPool, Cond.static yX2_checkPool, Cond.code yX2_checkPool cX2_checkPool 1 none, Cond.methodLink RX2 54 yX2_isOutside, Cond.static yX2_isOutside, Cond.code yX2_isOutside cX2_isOutside 3 (some .boolean), Cond.methodLink RX2 67 yJx4a65c_size_8abf5, Cond.instanceMethod yJx4a65c_size_8abf5, Cond.selects RJx4a65c yJx4a65c_size_8abf5 yJx4a65c_size_8abf5]
def wsL_addMachine_r2 : List Cond := [Cond.initialized RJx4a65c, Cond.code yJx4a65c_size_8abf5 cJx4a65c_size_8abf5 1 (some .int), Cond.fieldLink RJx4a65c 48 "java/util/ArrayList" "size" "I", Cond.methodLink RX2 78 yX0_init, Cond.instanceMethod yX0_init, Cond.code yX0_init cX0_init 5 none, Cond.methodLink RX0 3 objectInit, Cond.instanceMethod objectInit, Cond.code objectInit ⟨#[0xb1]⟩ 1 none, Cond.fieldLink RX0 9 "TerminalYard$Machine" "condition" "C", Cond.fieldLink RX0 15 "TerminalYard$Machine" "live" "I", Cond.fieldLink RX0 19 "TerminalYard$Machine" "number" "I", Cond.fieldLink RX0 22 "TerminalYard$Machine" "pool" "I", Cond.fieldLink RX0 25 "TerminalYard$Machine" "room" "I", Cond.fieldLink RX0 28 "TerminalYard$Machine" "seats" "I", Cond.methodLink RX2 81 yJx4a65c_add_9ea2d, Cond.instanceMethod yJx4a65c_add_9ea2d, Cond.selects RJx4a65c yJx4a65c_add_9ea2d yJx4a65c_add_9ea2d, Cond.code yJx4a65c_add_9ea2d cJx4a65c_add_9ea2d 2 (some .boolean), Cond.fieldLink RJx4a65c 63 "java/util/ArrayList" "modCount" "I", Cond.sameField "java/util/ArrayList" "java/util/AbstractList" "modCount" "I", Cond.fieldLink RJx4a65c 9 "java/util/ArrayList" "elementData" "[Ljava/lang/Object;", Cond.methodLink RJx4a65c 131 yJx4a65c_add_72be8, Cond.instanceMethod yJx4a65c_add_72be8]
def wsL_addMachine_r3 : List Cond := [Cond.selects RJx4a65c yJx4a65c_add_72be8 yJx4a65c_add_72be8, Cond.code yJx4a65c_add_72be8 cJx4a65c_add_72be8 4 none, Cond.methodLink RJx4a65c 129 yJx4a65c_grow_d5877, Cond.instanceMethod yJx4a65c_grow_d5877, Cond.selects RJx4a65c yJx4a65c_grow_d5877 yJx4a65c_grow_d5877, Cond.code yJx4a65c_grow_d5877 cJx4a65c_grow_d5877 1 (some (.array (.object "java/lang/Object"))), Cond.methodLink RJx4a65c 69 yJx4a65c_grow_92f84, Cond.instanceMethod yJx4a65c_grow_92f84, Cond.selects RJx4a65c yJx4a65c_grow_92f84 yJx4a65c_grow_92f84, Cond.code yJx4a65c_grow_92f84 cJx4a65c_grow_92f84 4 (some (.array (.object "java/lang/Object"))), Cond.fieldLink RJx4a65c 39 "java/util/ArrayList" "DEFAULTCAPACITY_EMPTY_ELEMENTDATA" "[Ljava/lang/Object;", Cond.methodLink RJx4a65c 79 Lib.Math.max.name, Cond.static Lib.Math.max.name, Cond.initialized "java/lang/Math", Cond.code Lib.Math.max.name Lib.Math.max.code 2 (some .int), Cond.classLink RJx4a65c 7 "java/lang/Object", Cond.methodLink RJx4a65c 73 yJ8_newLength_cabcc, Cond.static yJ8_newLength_cabcc, Cond.initialized RJ8, Cond.code yJ8_newLength_cabcc cJ8_newLength_cabcc 4 (some .int), Cond.methodLink RJ8 194 Lib.Math.max.name, Cond.constant RJ8 200 (2147483639), Cond.methodLink RJ8 201 yJ8_hugeLength_7cf53, Cond.static yJ8_hugeLength_7cf53]
def wsL_addMachine_r4 : List Cond := [Cond.code yJ8_hugeLength_7cf53 cJ8_hugeLength_7cf53 3 (some .int), Cond.methodLink RJx4a65c 66 yJ7_copyOf_1904c, Cond.static yJ7_copyOf_1904c, Cond.initialized RJ7, Cond.code yJ7_copyOf_1904c cJ7_copyOf_1904c 2 (some (.array (.object "java/lang/Object"))), Cond.methodLink RJ7 86 ⟨"java/lang/Object", "getClass", "()Ljava/lang/Class;"⟩, Cond.selects "[Ljava/lang/Object;" ⟨"java/lang/Object", "getClass", "()Ljava/lang/Class;"⟩ ⟨"java/lang/Object", "getClass", "()Ljava/lang/Class;"⟩, Cond.instanceMethod ⟨"java/lang/Object", "getClass", "()Ljava/lang/Class;"⟩, Cond.native ⟨"java/lang/Object", "getClass", "()Ljava/lang/Class;"⟩, Cond.methodLink RJ7 300 yJ7_copyOf_6403c, Cond.static yJ7_copyOf_6403c, Cond.code yJ7_copyOf_6403c cJ7_copyOf_6403c 4 (some (.array (.object "java/lang/Object"))), Cond.classLink RJ7 110 "[Ljava/lang/Object;", Cond.classLink RJ7 2 "java/lang/Object", Cond.methodLink RJ7 304 Lib.Math.min.name, Cond.static Lib.Math.min.name, Cond.code Lib.Math.min.name Lib.Math.min.code 2 (some .int), Cond.methodLink RJ7 150 arraycopyName, Cond.native arraycopyName, Cond.static arraycopyName, Cond.initialized "java/lang/System"]
def wsL_addMachine : List Cond := .codeWith yL_addMachine cL_addMachine 6 (some .int) [(0, 12, 15, 13), (0, 12, 19, 15)] :: ((wsL_addMachine_r1 ++ (wsL_addMachine_r2 ++ (wsL_addMachine_r3 ++ wsL_addMachine_r4))) ++ wsX20 ++ wsX00 ++ wsJx4a65c0 ++ (vx_atM "java/lang/ArrayIndexOutOfBoundsException" ["java/lang/IndexOutOfBoundsException", "java/lang/RuntimeException", "java/lang/Exception"]).filter goodWord ++ (vx_atS RX2 62 "java/lang/IllegalArgumentException" ["java/lang/RuntimeException", "java/lang/Exception"]).filter goodWord ++ (vx_atS RX2 75 "java/lang/IllegalStateException" ["java/lang/RuntimeException", "java/lang/Exception"]).filter goodWord)
def wsL_setLimits : List Cond := .codeWith yL_setLimits cL_setLimits 6 (some .int) [(0, 12, 15, 13)] :: ([.classLink RL 13 "java/lang/IllegalArgumentException", .methodLink RL 17 yX2_setLimits, .instanceMethod yX2_setLimits, .selects RX2 yX2_setLimits yX2_setLimits, .initialized RX2, .code yX2_setLimits cX2_setLimits 5 (some .int), .classLink RX2 58 "java/lang/IllegalArgumentException", .initialized "java/lang/IllegalArgumentException", .fieldLink RX2 9 "TerminalYard" "idleLimits" "[I", .fieldLink RX2 13 "TerminalYard" "hardLimits" "[I", .methodLink RX2 50 yX2_checkPool, .static yX2_checkPool, .code yX2_checkPool cX2_checkPool 1 none, .methodLink RX2 54 yX2_isOutside, .static yX2_isOutside, .code yX2_isOutside cX2_isOutside 3 (some .boolean)] ++ wsX20 ++ (vx_atM "java/lang/ArrayIndexOutOfBoundsException" ["java/lang/IndexOutOfBoundsException", "java/lang/RuntimeException", "java/lang/Exception"]).filter goodWord ++ (vx_atS RX2 62 "java/lang/IllegalArgumentException" ["java/lang/RuntimeException", "java/lang/Exception"]).filter goodWord)
def wsL_drain_r1 : List Cond := [Cond.classLink RL 24 "java/lang/IndexOutOfBoundsException", Cond.classLink RL 15 "java/lang/IllegalStateException", Cond.methodLink RL 20 yX2_drain, Cond.instanceMethod yX2_drain, Cond.selects RX2 yX2_drain yX2_drain, Cond.initialized RX2, Cond.code yX2_drain cX2_drain 3 (some .int), Cond.classLink RX2 71 "java/lang/IllegalStateException", Cond.initialized "java/lang/IllegalStateException", Cond.fieldLink RX2 91 "TerminalYard$Machine" "condition" "C", Cond.fieldLink RX2 100 "TerminalYard$Machine" "live" "I", Cond.methodLink RX2 87 yX2_machineAt, Cond.instanceMethod yX2_machineAt, Cond.selects RX2 yX2_machineAt yX2_machineAt, Cond.code yX2_machineAt cX2_machineAt 2 (some (.object "TerminalYard$Machine")), Cond.classLink RX2 264 "java/lang/IndexOutOfBoundsException", Cond.initialized "java/lang/IndexOutOfBoundsException", Cond.fieldLink RX2 36 "TerminalYard" "machines" "Ljava/util/ArrayList;", Cond.classLink RX2 76 "TerminalYard$Machine", Cond.methodLink RX2 67 yJx4a65c_size_8abf5, Cond.instanceMethod yJx4a65c_size_8abf5, Cond.selects RJx4a65c yJx4a65c_size_8abf5 yJx4a65c_size_8abf5, Cond.initialized RJx4a65c, Cond.code yJx4a65c_size_8abf5 cJx4a65c_size_8abf5 1 (some .int)]
def wsL_drain_r2 : List Cond := [Cond.fieldLink RJx4a65c 48 "java/util/ArrayList" "size" "I", Cond.methodLink RX2 54 yX2_isOutside, Cond.static yX2_isOutside, Cond.code yX2_isOutside cX2_isOutside 3 (some .boolean), Cond.methodLink RX2 114 yJx4a65c_get_915e3, Cond.instanceMethod yJx4a65c_get_915e3, Cond.selects RJx4a65c yJx4a65c_get_915e3 yJx4a65c_get_915e3, Cond.code yJx4a65c_get_915e3 cJx4a65c_get_915e3 2 (some (.object "java/lang/Object")), Cond.methodLink RJx4a65c 118 yJ15_checkIndex_7cf53, Cond.static yJ15_checkIndex_7cf53, Cond.initialized RJ15, Cond.code yJ15_checkIndex_7cf53 cJ15_checkIndex_7cf53 2 (some .int), Cond.methodLink RJ15 105 yJ3_checkIndex_8e157, Cond.static yJ3_checkIndex_8e157, Cond.initialized RJ3, Cond.code yJ3_checkIndex_8e157 cJ3_checkIndex_8e157 3 (some .int), Cond.methodLink RJx4a65c 123 yJx4a65c_elementData_915e3, Cond.instanceMethod yJx4a65c_elementData_915e3, Cond.selects RJx4a65c yJx4a65c_elementData_915e3 yJx4a65c_elementData_915e3, Cond.code yJx4a65c_elementData_915e3 cJx4a65c_elementData_915e3 2 (some (.object "java/lang/Object")), Cond.fieldLink RJx4a65c 9 "java/util/ArrayList" "elementData" "[Ljava/lang/Object;", Cond.methodLink RX2 97 yX0_repairWhenEmpty, Cond.instanceMethod yX0_repairWhenEmpty, Cond.selects RX0 yX0_repairWhenEmpty yX0_repairWhenEmpty]
def wsL_drain_r3 : List Cond := [Cond.initialized RX0, Cond.code yX0_repairWhenEmpty cX0_repairWhenEmpty 1 none, Cond.fieldLink RX0 9 "TerminalYard$Machine" "condition" "C", Cond.fieldLink RX0 15 "TerminalYard$Machine" "live" "I"]
def wsL_drain : List Cond := .codeWith yL_drain cL_drain 4 (some .int) [(0, 9, 12, 24), (0, 9, 15, 15)] :: ((wsL_drain_r1 ++ (wsL_drain_r2 ++ wsL_drain_r3)) ++ wsX00 ++ wsX20 ++ wsJx4a65c0 ++ (vx_atM "java/lang/ArrayIndexOutOfBoundsException" ["java/lang/IndexOutOfBoundsException", "java/lang/RuntimeException", "java/lang/Exception"]).filter goodWord ++ (vx_atS RX2 75 "java/lang/IllegalStateException" ["java/lang/RuntimeException", "java/lang/Exception"]).filter goodWord ++ (vx_atS RX2 268 "java/lang/IndexOutOfBoundsException" ["java/lang/RuntimeException", "java/lang/Exception"]).filter goodWord)
def wsL_putUp_r1 : List Cond := [Cond.classLink RL 24 "java/lang/IndexOutOfBoundsException", Cond.classLink RL 15 "java/lang/IllegalStateException", Cond.methodLink RL 26 yX2_putUp, Cond.instanceMethod yX2_putUp, Cond.selects RX2 yX2_putUp yX2_putUp, Cond.initialized RX2, Cond.code yX2_putUp cX2_putUp 3 (some .int), Cond.classLink RX2 71 "java/lang/IllegalStateException", Cond.initialized "java/lang/IllegalStateException", Cond.fieldLink RX2 91 "TerminalYard$Machine" "condition" "C", Cond.methodLink RX2 87 yX2_machineAt, Cond.instanceMethod yX2_machineAt, Cond.selects RX2 yX2_machineAt yX2_machineAt, Cond.code yX2_machineAt cX2_machineAt 2 (some (.object "TerminalYard$Machine")), Cond.classLink RX2 264 "java/lang/IndexOutOfBoundsException", Cond.initialized "java/lang/IndexOutOfBoundsException", Cond.fieldLink RX2 36 "TerminalYard" "machines" "Ljava/util/ArrayList;", Cond.classLink RX2 76 "TerminalYard$Machine", Cond.methodLink RX2 67 yJx4a65c_size_8abf5, Cond.instanceMethod yJx4a65c_size_8abf5, Cond.selects RJx4a65c yJx4a65c_size_8abf5 yJx4a65c_size_8abf5, Cond.initialized RJx4a65c, Cond.code yJx4a65c_size_8abf5 cJx4a65c_size_8abf5 1 (some .int), Cond.fieldLink RJx4a65c 48 "java/util/ArrayList" "size" "I"]
def wsL_putUp_r2 : List Cond := [Cond.methodLink RX2 54 yX2_isOutside, Cond.static yX2_isOutside, Cond.code yX2_isOutside cX2_isOutside 3 (some .boolean), Cond.methodLink RX2 114 yJx4a65c_get_915e3, Cond.instanceMethod yJx4a65c_get_915e3, Cond.selects RJx4a65c yJx4a65c_get_915e3 yJx4a65c_get_915e3, Cond.code yJx4a65c_get_915e3 cJx4a65c_get_915e3 2 (some (.object "java/lang/Object")), Cond.methodLink RJx4a65c 118 yJ15_checkIndex_7cf53, Cond.static yJ15_checkIndex_7cf53, Cond.initialized RJ15, Cond.code yJ15_checkIndex_7cf53 cJ15_checkIndex_7cf53 2 (some .int), Cond.methodLink RJ15 105 yJ3_checkIndex_8e157, Cond.static yJ3_checkIndex_8e157, Cond.initialized RJ3, Cond.code yJ3_checkIndex_8e157 cJ3_checkIndex_8e157 3 (some .int), Cond.methodLink RJx4a65c 123 yJx4a65c_elementData_915e3, Cond.instanceMethod yJx4a65c_elementData_915e3, Cond.selects RJx4a65c yJx4a65c_elementData_915e3 yJx4a65c_elementData_915e3, Cond.code yJx4a65c_elementData_915e3 cJx4a65c_elementData_915e3 2 (some (.object "java/lang/Object")), Cond.fieldLink RJx4a65c 9 "java/util/ArrayList" "elementData" "[Ljava/lang/Object;", Cond.methodLink RX2 105 yX0_freeSeats, Cond.instanceMethod yX0_freeSeats, Cond.selects RX0 yX0_freeSeats yX0_freeSeats, Cond.initialized RX0]
def wsL_putUp_r3 : List Cond := [Cond.code yX0_freeSeats cX0_freeSeats 1 (some .int), Cond.fieldLink RX0 28 "TerminalYard$Machine" "seats" "I", Cond.fieldLink RX0 15 "TerminalYard$Machine" "live" "I"]
def wsL_putUp : List Cond := .codeWith yL_putUp cL_putUp 4 (some .int) [(0, 9, 12, 24), (0, 9, 15, 15)] :: ((wsL_putUp_r1 ++ (wsL_putUp_r2 ++ wsL_putUp_r3)) ++ wsX00 ++ wsX20 ++ wsJx4a65c0 ++ (vx_atM "java/lang/ArrayIndexOutOfBoundsException" ["java/lang/IndexOutOfBoundsException", "java/lang/RuntimeException", "java/lang/Exception"]).filter goodWord ++ (vx_atS RX2 75 "java/lang/IllegalStateException" ["java/lang/RuntimeException", "java/lang/Exception"]).filter goodWord ++ (vx_atS RX2 268 "java/lang/IndexOutOfBoundsException" ["java/lang/RuntimeException", "java/lang/Exception"]).filter goodWord)
def wsL_machine_r1 : List Cond := [Cond.classLink RL 24 "java/lang/IndexOutOfBoundsException", Cond.methodLink RL 29 yX2_machine, Cond.instanceMethod yX2_machine, Cond.selects RX2 yX2_machine yX2_machine, Cond.initialized RX2, Cond.code yX2_machine cX2_machine 2 (some .char), Cond.fieldLink RX2 91 "TerminalYard$Machine" "condition" "C", Cond.methodLink RX2 87 yX2_machineAt, Cond.instanceMethod yX2_machineAt, Cond.selects RX2 yX2_machineAt yX2_machineAt, Cond.code yX2_machineAt cX2_machineAt 2 (some (.object "TerminalYard$Machine")), Cond.classLink RX2 264 "java/lang/IndexOutOfBoundsException", Cond.initialized "java/lang/IndexOutOfBoundsException", Cond.fieldLink RX2 36 "TerminalYard" "machines" "Ljava/util/ArrayList;", Cond.classLink RX2 76 "TerminalYard$Machine", Cond.methodLink RX2 67 yJx4a65c_size_8abf5, Cond.instanceMethod yJx4a65c_size_8abf5, Cond.selects RJx4a65c yJx4a65c_size_8abf5 yJx4a65c_size_8abf5, Cond.initialized RJx4a65c, Cond.code yJx4a65c_size_8abf5 cJx4a65c_size_8abf5 1 (some .int), Cond.fieldLink RJx4a65c 48 "java/util/ArrayList" "size" "I", Cond.methodLink RX2 54 yX2_isOutside, Cond.static yX2_isOutside, Cond.code yX2_isOutside cX2_isOutside 3 (some .boolean)]
def wsL_machine_r2 : List Cond := [Cond.methodLink RX2 114 yJx4a65c_get_915e3, Cond.instanceMethod yJx4a65c_get_915e3, Cond.selects RJx4a65c yJx4a65c_get_915e3 yJx4a65c_get_915e3, Cond.code yJx4a65c_get_915e3 cJx4a65c_get_915e3 2 (some (.object "java/lang/Object")), Cond.methodLink RJx4a65c 118 yJ15_checkIndex_7cf53, Cond.static yJ15_checkIndex_7cf53, Cond.initialized RJ15, Cond.code yJ15_checkIndex_7cf53 cJ15_checkIndex_7cf53 2 (some .int), Cond.methodLink RJ15 105 yJ3_checkIndex_8e157, Cond.static yJ3_checkIndex_8e157, Cond.initialized RJ3, Cond.code yJ3_checkIndex_8e157 cJ3_checkIndex_8e157 3 (some .int), Cond.methodLink RJx4a65c 123 yJx4a65c_elementData_915e3, Cond.instanceMethod yJx4a65c_elementData_915e3, Cond.selects RJx4a65c yJx4a65c_elementData_915e3 yJx4a65c_elementData_915e3, Cond.code yJx4a65c_elementData_915e3 cJx4a65c_elementData_915e3 2 (some (.object "java/lang/Object")), Cond.fieldLink RJx4a65c 9 "java/util/ArrayList" "elementData" "[Ljava/lang/Object;"]
def wsL_machine : List Cond := .codeWith yL_machine cL_machine 4 (some .int) [(0, 9, 12, 24)] :: ((wsL_machine_r1 ++ wsL_machine_r2) ++ wsX00 ++ wsX20 ++ wsJx4a65c0 ++ (vx_atM "java/lang/ArrayIndexOutOfBoundsException" ["java/lang/IndexOutOfBoundsException", "java/lang/RuntimeException", "java/lang/Exception"]).filter goodWord ++ (vx_atS RX2 268 "java/lang/IndexOutOfBoundsException" ["java/lang/RuntimeException", "java/lang/Exception"]).filter goodWord)
def wsL_next_r1 : List Cond := [Cond.classLink RL 13 "java/lang/IllegalArgumentException", Cond.classLink RL 36 "java/util/NoSuchElementException", Cond.methodLink RL 33 yX2_next, Cond.instanceMethod yX2_next, Cond.selects RX2 yX2_next yX2_next, Cond.initialized RX2, Cond.code yX2_next cX2_next 2 (some .int), Cond.fieldLink RX2 111 "TerminalYard$Machine" "number" "I", Cond.methodLink RX2 50 yX2_checkPool, Cond.static yX2_checkPool, Cond.code yX2_checkPool cX2_checkPool 1 none, Cond.classLink RX2 58 "java/lang/IllegalArgumentException", Cond.initialized "java/lang/IllegalArgumentException", Cond.methodLink RX2 54 yX2_isOutside, Cond.static yX2_isOutside, Cond.code yX2_isOutside cX2_isOutside 3 (some .boolean), Cond.methodLink RX2 108 yX2_emptiestMachine, Cond.instanceMethod yX2_emptiestMachine, Cond.selects RX2 yX2_emptiestMachine yX2_emptiestMachine, Cond.code yX2_emptiestMachine cX2_emptiestMachine 5 (some (.object "TerminalYard$Machine")), Cond.classLink RX2 271 "java/util/NoSuchElementException", Cond.initialized "java/util/NoSuchElementException", Cond.fieldLink RX2 36 "TerminalYard" "machines" "Ljava/util/ArrayList;", Cond.classLink RX2 76 "TerminalYard$Machine"]
def wsL_next_r2 : List Cond := [Cond.fieldLink RX2 100 "TerminalYard$Machine" "live" "I", Cond.methodLink RX2 67 yJx4a65c_size_8abf5, Cond.instanceMethod yJx4a65c_size_8abf5, Cond.selects RJx4a65c yJx4a65c_size_8abf5 yJx4a65c_size_8abf5, Cond.initialized RJx4a65c, Cond.code yJx4a65c_size_8abf5 cJx4a65c_size_8abf5 1 (some .int), Cond.fieldLink RJx4a65c 48 "java/util/ArrayList" "size" "I", Cond.methodLink RX2 114 yJx4a65c_get_915e3, Cond.instanceMethod yJx4a65c_get_915e3, Cond.selects RJx4a65c yJx4a65c_get_915e3 yJx4a65c_get_915e3, Cond.code yJx4a65c_get_915e3 cJx4a65c_get_915e3 2 (some (.object "java/lang/Object")), Cond.methodLink RJx4a65c 118 yJ15_checkIndex_7cf53, Cond.static yJ15_checkIndex_7cf53, Cond.initialized RJ15, Cond.code yJ15_checkIndex_7cf53 cJ15_checkIndex_7cf53 2 (some .int), Cond.methodLink RJ15 105 yJ3_checkIndex_8e157, Cond.static yJ3_checkIndex_8e157, Cond.initialized RJ3, Cond.code yJ3_checkIndex_8e157 cJ3_checkIndex_8e157 3 (some .int), Cond.methodLink RJx4a65c 123 yJx4a65c_elementData_915e3, Cond.instanceMethod yJx4a65c_elementData_915e3, Cond.selects RJx4a65c yJx4a65c_elementData_915e3 yJx4a65c_elementData_915e3, Cond.code yJx4a65c_elementData_915e3 cJx4a65c_elementData_915e3 2 (some (.object "java/lang/Object")), Cond.fieldLink RJx4a65c 9 "java/util/ArrayList" "elementData" "[Ljava/lang/Object;"]
def wsL_next_r3 : List Cond := [Cond.methodLink RX2 118 yX0_serves, Cond.instanceMethod yX0_serves, Cond.selects RX0 yX0_serves yX0_serves, Cond.initialized RX0, Cond.code yX0_serves cX0_serves 2 (some .boolean), Cond.fieldLink RX0 9 "TerminalYard$Machine" "condition" "C", Cond.fieldLink RX0 22 "TerminalYard$Machine" "pool" "I", Cond.methodLink RX2 105 yX0_freeSeats, Cond.instanceMethod yX0_freeSeats, Cond.selects RX0 yX0_freeSeats yX0_freeSeats, Cond.code yX0_freeSeats cX0_freeSeats 1 (some .int), Cond.fieldLink RX0 28 "TerminalYard$Machine" "seats" "I", Cond.fieldLink RX0 15 "TerminalYard$Machine" "live" "I"]
def wsL_next : List Cond := .codeWith yL_next cL_next 4 (some .int) [(0, 9, 12, 13), (0, 9, 15, 36)] :: ((wsL_next_r1 ++ (wsL_next_r2 ++ wsL_next_r3)) ++ wsX00 ++ wsX20 ++ wsJx4a65c0 ++ (vx_atM "java/lang/ArrayIndexOutOfBoundsException" ["java/lang/IndexOutOfBoundsException", "java/lang/RuntimeException", "java/lang/Exception"]).filter goodWord ++ (vx_atS RX2 62 "java/lang/IllegalArgumentException" ["java/lang/RuntimeException", "java/lang/Exception"]).filter goodWord ++ (vx_atS RX2 275 "java/util/NoSuchElementException" ["java/lang/RuntimeException", "java/lang/Exception"]).filter goodWord)
def wsL_free_r1 : List Cond := [Cond.classLink RL 13 "java/lang/IllegalArgumentException", Cond.methodLink RL 38 yX2_free, Cond.instanceMethod yX2_free, Cond.selects RX2 yX2_free yX2_free, Cond.initialized RX2, Cond.code yX2_free cX2_free 5 (some .int), Cond.fieldLink RX2 36 "TerminalYard" "machines" "Ljava/util/ArrayList;", Cond.classLink RX2 76 "TerminalYard$Machine", Cond.methodLink RX2 50 yX2_checkPool, Cond.static yX2_checkPool, Cond.code yX2_checkPool cX2_checkPool 1 none, Cond.classLink RX2 58 "java/lang/IllegalArgumentException", Cond.initialized "java/lang/IllegalArgumentException", Cond.methodLink RX2 54 yX2_isOutside, Cond.static yX2_isOutside, Cond.code yX2_isOutside cX2_isOutside 3 (some .boolean), Cond.methodLink RX2 67 yJx4a65c_size_8abf5, Cond.instanceMethod yJx4a65c_size_8abf5, Cond.selects RJx4a65c yJx4a65c_size_8abf5 yJx4a65c_size_8abf5, Cond.initialized RJx4a65c, Cond.code yJx4a65c_size_8abf5 cJx4a65c_size_8abf5 1 (some .int), Cond.fieldLink RJx4a65c 48 "java/util/ArrayList" "size" "I", Cond.methodLink RX2 114 yJx4a65c_get_915e3, Cond.instanceMethod yJx4a65c_get_915e3]
def wsL_free_r2 : List Cond := [Cond.selects RJx4a65c yJx4a65c_get_915e3 yJx4a65c_get_915e3, Cond.code yJx4a65c_get_915e3 cJx4a65c_get_915e3 2 (some (.object "java/lang/Object")), Cond.methodLink RJx4a65c 118 yJ15_checkIndex_7cf53, Cond.static yJ15_checkIndex_7cf53, Cond.initialized RJ15, Cond.code yJ15_checkIndex_7cf53 cJ15_checkIndex_7cf53 2 (some .int), Cond.methodLink RJ15 105 yJ3_checkIndex_8e157, Cond.static yJ3_checkIndex_8e157, Cond.initialized RJ3, Cond.code yJ3_checkIndex_8e157 cJ3_checkIndex_8e157 3 (some .int), Cond.methodLink RJx4a65c 123 yJx4a65c_elementData_915e3, Cond.instanceMethod yJx4a65c_elementData_915e3, Cond.selects RJx4a65c yJx4a65c_elementData_915e3 yJx4a65c_elementData_915e3, Cond.code yJx4a65c_elementData_915e3 cJx4a65c_elementData_915e3 2 (some (.object "java/lang/Object")), Cond.fieldLink RJx4a65c 9 "java/util/ArrayList" "elementData" "[Ljava/lang/Object;", Cond.methodLink RX2 118 yX0_serves, Cond.instanceMethod yX0_serves, Cond.selects RX0 yX0_serves yX0_serves, Cond.initialized RX0, Cond.code yX0_serves cX0_serves 2 (some .boolean), Cond.fieldLink RX0 9 "TerminalYard$Machine" "condition" "C", Cond.fieldLink RX0 22 "TerminalYard$Machine" "pool" "I", Cond.methodLink RX2 105 yX0_freeSeats, Cond.instanceMethod yX0_freeSeats]
def wsL_free_r3 : List Cond := [Cond.selects RX0 yX0_freeSeats yX0_freeSeats, Cond.code yX0_freeSeats cX0_freeSeats 1 (some .int), Cond.fieldLink RX0 28 "TerminalYard$Machine" "seats" "I", Cond.fieldLink RX0 15 "TerminalYard$Machine" "live" "I"]
def wsL_free : List Cond := .codeWith yL_free cL_free 4 (some .int) [(0, 9, 12, 13)] :: ((wsL_free_r1 ++ (wsL_free_r2 ++ wsL_free_r3)) ++ wsX20 ++ wsJx4a65c0 ++ wsX00 ++ (vx_atM "java/lang/ArrayIndexOutOfBoundsException" ["java/lang/IndexOutOfBoundsException", "java/lang/RuntimeException", "java/lang/Exception"]).filter goodWord ++ (vx_atS RX2 62 "java/lang/IllegalArgumentException" ["java/lang/RuntimeException", "java/lang/Exception"]).filter goodWord)
def wsL_assign : List Cond := .codeWith yL_assign cL_assign 5 (some .int) [(0, 10, 13, 13)] :: ([.classLink RL 13 "java/lang/IllegalArgumentException", .methodLink RL 41 yX2_assign, .instanceMethod yX2_assign, .selects RX2 yX2_assign yX2_assign, .initialized RX2, .code yX2_assign cX2_assign 4 (some .int), .fieldLink RX2 19 "TerminalYard" "departmentOf" "[I", .methodLink RX2 122 yX2_checkUser, .static yX2_checkUser, .code yX2_checkUser cX2_checkUser 1 none, .classLink RX2 58 "java/lang/IllegalArgumentException", .initialized "java/lang/IllegalArgumentException", .methodLink RX2 54 yX2_isOutside, .static yX2_isOutside, .code yX2_isOutside cX2_isOutside 3 (some .boolean), .methodLink RX2 125 yX2_checkDepartment, .static yX2_checkDepartment, .code yX2_checkDepartment cX2_checkDepartment 1 none] ++ wsX20 ++ (vx_atM "java/lang/ArrayIndexOutOfBoundsException" ["java/lang/IndexOutOfBoundsException", "java/lang/RuntimeException", "java/lang/Exception"]).filter goodWord ++ (vx_atS RX2 62 "java/lang/IllegalArgumentException" ["java/lang/RuntimeException", "java/lang/Exception"]).filter goodWord)
def wsL_buy : List Cond := .codeWith yL_buy cL_buy 5 (some .int) [(0, 10, 13, 13), (0, 10, 17, 15)] :: ([.classLink RL 13 "java/lang/IllegalArgumentException", .classLink RL 15 "java/lang/IllegalStateException", .methodLink RL 45 yX2_buy, .instanceMethod yX2_buy, .selects RX2 yX2_buy yX2_buy, .initialized RX2, .code yX2_buy cX2_buy 3 (some .int), .classLink RX2 71 "java/lang/IllegalStateException", .initialized "java/lang/IllegalStateException", .fieldLink RX2 22 "TerminalYard" "kept" "[I", .constant RX2 131 (99999), .fieldLink RX2 25 "TerminalYard" "bought" "[I", .methodLink RX2 125 yX2_checkDepartment, .static yX2_checkDepartment, .code yX2_checkDepartment cX2_checkDepartment 1 none, .classLink RX2 58 "java/lang/IllegalArgumentException", .initialized "java/lang/IllegalArgumentException", .methodLink RX2 54 yX2_isOutside, .static yX2_isOutside, .code yX2_isOutside cX2_isOutside 3 (some .boolean), .methodLink RX2 128 yX2_checkTrade, .static yX2_checkTrade, .code yX2_checkTrade cX2_checkTrade 1 none] ++ wsX20 ++ (vx_atM "java/lang/ArrayIndexOutOfBoundsException" ["java/lang/IndexOutOfBoundsException", "java/lang/RuntimeException", "java/lang/Exception"]).filter goodWord ++ (vx_atS RX2 75 "java/lang/IllegalStateException" ["java/lang/RuntimeException", "java/lang/Exception"]).filter goodWord ++ (vx_atS RX2 62 "java/lang/IllegalArgumentException" ["java/lang/RuntimeException", "java/lang/Exception"]).filter goodWord)
def wsL_lend_r1 : List Cond := [Cond.classLink RL 13 "java/lang/IllegalArgumentException", Cond.classLink RL 51 "java/lang/UnsupportedOperationException", Cond.methodLink RL 48 yX2_lend, Cond.instanceMethod yX2_lend, Cond.selects RX2 yX2_lend yX2_lend, Cond.initialized RX2, Cond.code yX2_lend cX2_lend 4 (some .int), Cond.fieldLink RX2 30 "TerminalYard" "owed" "[[I", Cond.methodLink RX2 134 yX2_checkPair, Cond.static yX2_checkPair, Cond.code yX2_checkPair cX2_checkPair 2 none, Cond.classLink RX2 58 "java/lang/IllegalArgumentException", Cond.initialized "java/lang/IllegalArgumentException", Cond.methodLink RX2 125 yX2_checkDepartment, Cond.static yX2_checkDepartment, Cond.code yX2_checkDepartment cX2_checkDepartment 1 none, Cond.methodLink RX2 54 yX2_isOutside, Cond.static yX2_isOutside, Cond.code yX2_isOutside cX2_isOutside 3 (some .boolean), Cond.methodLink RX2 128 yX2_checkTrade, Cond.static yX2_checkTrade, Cond.code yX2_checkTrade cX2_checkTrade 1 none, Cond.methodLink RX2 138 yX2_checkStock, Cond.instanceMethod yX2_checkStock]
def wsL_lend_r2 : List Cond := [Cond.selects RX2 yX2_checkStock yX2_checkStock, Cond.code yX2_checkStock cX2_checkStock 3 none, Cond.classLink RX2 257 "java/lang/UnsupportedOperationException", Cond.initialized "java/lang/UnsupportedOperationException", Cond.fieldLink RX2 22 "TerminalYard" "kept" "[I", Cond.methodLink RX2 141 yX2_move, Cond.instanceMethod yX2_move, Cond.selects RX2 yX2_move yX2_move, Cond.code yX2_move cX2_move 4 none]
def wsL_lend : List Cond := .codeWith yL_lend cL_lend 6 (some .int) [(0, 12, 15, 13), (0, 12, 19, 51)] :: ((wsL_lend_r1 ++ wsL_lend_r2) ++ wsX20 ++ (vx_atM "java/lang/ArrayIndexOutOfBoundsException" ["java/lang/IndexOutOfBoundsException", "java/lang/RuntimeException", "java/lang/Exception"]).filter goodWord ++ (vx_atS RX2 62 "java/lang/IllegalArgumentException" ["java/lang/RuntimeException", "java/lang/Exception"]).filter goodWord ++ (vx_atS RX2 261 "java/lang/UnsupportedOperationException" ["java/lang/RuntimeException", "java/lang/Exception"]).filter goodWord)
def wsL_giveBack_r1 : List Cond := [Cond.classLink RL 13 "java/lang/IllegalArgumentException", Cond.classLink RL 15 "java/lang/IllegalStateException", Cond.classLink RL 51 "java/lang/UnsupportedOperationException", Cond.methodLink RL 53 yX2_giveBack, Cond.instanceMethod yX2_giveBack, Cond.selects RX2 yX2_giveBack yX2_giveBack, Cond.initialized RX2, Cond.code yX2_giveBack cX2_giveBack 4 (some .int), Cond.classLink RX2 71 "java/lang/IllegalStateException", Cond.initialized "java/lang/IllegalStateException", Cond.fieldLink RX2 30 "TerminalYard" "owed" "[[I", Cond.methodLink RX2 134 yX2_checkPair, Cond.static yX2_checkPair, Cond.code yX2_checkPair cX2_checkPair 2 none, Cond.classLink RX2 58 "java/lang/IllegalArgumentException", Cond.initialized "java/lang/IllegalArgumentException", Cond.methodLink RX2 125 yX2_checkDepartment, Cond.static yX2_checkDepartment, Cond.code yX2_checkDepartment cX2_checkDepartment 1 none, Cond.methodLink RX2 54 yX2_isOutside, Cond.static yX2_isOutside, Cond.code yX2_isOutside cX2_isOutside 3 (some .boolean), Cond.methodLink RX2 128 yX2_checkTrade, Cond.static yX2_checkTrade]
def wsL_giveBack_r2 : List Cond := [Cond.code yX2_checkTrade cX2_checkTrade 1 none, Cond.methodLink RX2 138 yX2_checkStock, Cond.instanceMethod yX2_checkStock, Cond.selects RX2 yX2_checkStock yX2_checkStock, Cond.code yX2_checkStock cX2_checkStock 3 none, Cond.classLink RX2 257 "java/lang/UnsupportedOperationException", Cond.initialized "java/lang/UnsupportedOperationException", Cond.fieldLink RX2 22 "TerminalYard" "kept" "[I", Cond.methodLink RX2 141 yX2_move, Cond.instanceMethod yX2_move, Cond.selects RX2 yX2_move yX2_move, Cond.code yX2_move cX2_move 4 none]
def wsL_giveBack : List Cond := .codeWith yL_giveBack cL_giveBack 6 (some .int) [(0, 12, 15, 13), (0, 12, 19, 15), (0, 12, 23, 51)] :: ((wsL_giveBack_r1 ++ wsL_giveBack_r2) ++ wsX20 ++ (vx_atM "java/lang/ArrayIndexOutOfBoundsException" ["java/lang/IndexOutOfBoundsException", "java/lang/RuntimeException", "java/lang/Exception"]).filter goodWord ++ (vx_atS RX2 75 "java/lang/IllegalStateException" ["java/lang/RuntimeException", "java/lang/Exception"]).filter goodWord ++ (vx_atS RX2 62 "java/lang/IllegalArgumentException" ["java/lang/RuntimeException", "java/lang/Exception"]).filter goodWord ++ (vx_atS RX2 261 "java/lang/UnsupportedOperationException" ["java/lang/RuntimeException", "java/lang/Exception"]).filter goodWord)
def wsL_minutes : List Cond := .codeWith yL_minutes cL_minutes 4 (some .int) [(0, 9, 12, 13)] :: ([.classLink RL 13 "java/lang/IllegalArgumentException", .methodLink RL 56 yX2_minutes, .instanceMethod yX2_minutes, .selects RX2 yX2_minutes yX2_minutes, .initialized RX2, .code yX2_minutes cX2_minutes 2 (some .int), .fieldLink RX2 22 "TerminalYard" "kept" "[I", .methodLink RX2 125 yX2_checkDepartment, .static yX2_checkDepartment, .code yX2_checkDepartment cX2_checkDepartment 1 none, .classLink RX2 58 "java/lang/IllegalArgumentException", .initialized "java/lang/IllegalArgumentException", .methodLink RX2 54 yX2_isOutside, .static yX2_isOutside, .code yX2_isOutside cX2_isOutside 3 (some .boolean)] ++ wsX20 ++ (vx_atM "java/lang/ArrayIndexOutOfBoundsException" ["java/lang/IndexOutOfBoundsException", "java/lang/RuntimeException", "java/lang/Exception"]).filter goodWord ++ (vx_atS RX2 62 "java/lang/IllegalArgumentException" ["java/lang/RuntimeException", "java/lang/Exception"]).filter goodWord)
def wsL_minutesBySessions_r1 : List Cond := [Cond.classLink RL 13 "java/lang/IllegalArgumentException", Cond.methodLink RL 59 yX2_minutesBySessions, Cond.instanceMethod yX2_minutesBySessions, Cond.selects RX2 yX2_minutesBySessions yX2_minutesBySessions, Cond.initialized RX2, Cond.code yX2_minutesBySessions cX2_minutesBySessions 4 (some .int), Cond.fieldLink RX2 25 "TerminalYard" "bought" "[I", Cond.fieldLink RX2 30 "TerminalYard" "owed" "[[I", Cond.fieldLink RX2 40 "TerminalYard" "sessions" "Ljava/util/ArrayList;", Cond.classLink RX2 147 "TerminalYard$Session", Cond.fieldLink RX2 149 "TerminalYard$Session" "chargedFrom" "[I", Cond.methodLink RX2 125 yX2_checkDepartment, Cond.static yX2_checkDepartment, Cond.code yX2_checkDepartment cX2_checkDepartment 1 none, Cond.classLink RX2 58 "java/lang/IllegalArgumentException", Cond.initialized "java/lang/IllegalArgumentException", Cond.methodLink RX2 54 yX2_isOutside, Cond.static yX2_isOutside, Cond.code yX2_isOutside cX2_isOutside 3 (some .boolean), Cond.methodLink RX2 67 yJx4a65c_size_8abf5, Cond.instanceMethod yJx4a65c_size_8abf5, Cond.selects RJx4a65c yJx4a65c_size_8abf5 yJx4a65c_size_8abf5, Cond.initialized RJx4a65c, Cond.code yJx4a65c_size_8abf5 cJx4a65c_size_8abf5 1 (some .int)]
def wsL_minutesBySessions_r2 : List Cond := [Cond.fieldLink RJx4a65c 48 "java/util/ArrayList" "size" "I", Cond.methodLink RX2 114 yJx4a65c_get_915e3, Cond.instanceMethod yJx4a65c_get_915e3, Cond.selects RJx4a65c yJx4a65c_get_915e3 yJx4a65c_get_915e3, Cond.code yJx4a65c_get_915e3 cJx4a65c_get_915e3 2 (some (.object "java/lang/Object")), Cond.methodLink RJx4a65c 118 yJ15_checkIndex_7cf53, Cond.static yJ15_checkIndex_7cf53, Cond.initialized RJ15, Cond.code yJ15_checkIndex_7cf53 cJ15_checkIndex_7cf53 2 (some .int), Cond.methodLink RJ15 105 yJ3_checkIndex_8e157, Cond.static yJ3_checkIndex_8e157, Cond.initialized RJ3, Cond.code yJ3_checkIndex_8e157 cJ3_checkIndex_8e157 3 (some .int), Cond.methodLink RJx4a65c 123 yJx4a65c_elementData_915e3, Cond.instanceMethod yJx4a65c_elementData_915e3, Cond.selects RJx4a65c yJx4a65c_elementData_915e3 yJx4a65c_elementData_915e3, Cond.code yJx4a65c_elementData_915e3 cJx4a65c_elementData_915e3 2 (some (.object "java/lang/Object")), Cond.fieldLink RJx4a65c 9 "java/util/ArrayList" "elementData" "[Ljava/lang/Object;"]
def wsL_minutesBySessions : List Cond := .codeWith yL_minutesBySessions cL_minutesBySessions 4 (some .int) [(0, 9, 12, 13)] :: ((wsL_minutesBySessions_r1 ++ wsL_minutesBySessions_r2) ++ wsX20 ++ wsX10 ++ wsJx4a65c0 ++ (vx_atM "java/lang/ArrayIndexOutOfBoundsException" ["java/lang/IndexOutOfBoundsException", "java/lang/RuntimeException", "java/lang/Exception"]).filter goodWord ++ (vx_atS RX2 62 "java/lang/IllegalArgumentException" ["java/lang/RuntimeException", "java/lang/Exception"]).filter goodWord)
def wsL_logIn_r1 : List Cond := [Cond.classLink RL 13 "java/lang/IllegalArgumentException", Cond.classLink RL 15 "java/lang/IllegalStateException", Cond.classLink RL 51 "java/lang/UnsupportedOperationException", Cond.classLink RL 36 "java/util/NoSuchElementException", Cond.methodLink RL 62 yX2_logIn, Cond.instanceMethod yX2_logIn, Cond.selects RX2 yX2_logIn yX2_logIn, Cond.initialized RX2, Cond.code yX2_logIn cX2_logIn 5 (some .int), Cond.classLink RX2 71 "java/lang/IllegalStateException", Cond.initialized "java/lang/IllegalStateException", Cond.fieldLink RX2 40 "TerminalYard" "sessions" "Ljava/util/ArrayList;", Cond.fieldLink RX2 19 "TerminalYard" "departmentOf" "[I", Cond.fieldLink RX2 100 "TerminalYard$Machine" "live" "I", Cond.classLink RX2 147 RX1, Cond.instantiable RX1 7, Cond.initialized RX1, Cond.fieldLink RX2 43 "TerminalYard" "now" "I", Cond.methodLink RX2 122 yX2_checkUser, Cond.static yX2_checkUser, Cond.code yX2_checkUser cX2_checkUser 1 none, Cond.classLink RX2 58 "java/lang/IllegalArgumentException", Cond.initialized "java/lang/IllegalArgumentException", Cond.methodLink RX2 54 yX2_isOutside]
def wsL_logIn_r2 : List Cond := [Cond.static yX2_isOutside, Cond.code yX2_isOutside cX2_isOutside 3 (some .boolean), Cond.methodLink RX2 50 yX2_checkPool, Cond.static yX2_checkPool, Cond.code yX2_checkPool cX2_checkPool 1 none, Cond.methodLink RX2 152 yX2_ownsLiveSession, Cond.instanceMethod yX2_ownsLiveSession, Cond.selects RX2 yX2_ownsLiveSession yX2_ownsLiveSession, Cond.code yX2_ownsLiveSession cX2_ownsLiveSession 4 (some .boolean), Cond.classLink RX2 147 "TerminalYard$Session", Cond.fieldLink RX2 192 "TerminalYard$Session" "owner" "I", Cond.methodLink RX2 67 yJx4a65c_size_8abf5, Cond.instanceMethod yJx4a65c_size_8abf5, Cond.selects RJx4a65c yJx4a65c_size_8abf5 yJx4a65c_size_8abf5, Cond.initialized RJx4a65c, Cond.code yJx4a65c_size_8abf5 cJx4a65c_size_8abf5 1 (some .int), Cond.fieldLink RJx4a65c 48 "java/util/ArrayList" "size" "I", Cond.methodLink RX2 114 yJx4a65c_get_915e3, Cond.instanceMethod yJx4a65c_get_915e3, Cond.selects RJx4a65c yJx4a65c_get_915e3 yJx4a65c_get_915e3, Cond.code yJx4a65c_get_915e3 cJx4a65c_get_915e3 2 (some (.object "java/lang/Object")), Cond.methodLink RJx4a65c 118 yJ15_checkIndex_7cf53, Cond.static yJ15_checkIndex_7cf53, Cond.initialized RJ15]
def wsL_logIn_r3 : List Cond := [Cond.code yJ15_checkIndex_7cf53 cJ15_checkIndex_7cf53 2 (some .int), Cond.methodLink RJ15 105 yJ3_checkIndex_8e157, Cond.static yJ3_checkIndex_8e157, Cond.initialized RJ3, Cond.code yJ3_checkIndex_8e157 cJ3_checkIndex_8e157 3 (some .int), Cond.methodLink RJx4a65c 123 yJx4a65c_elementData_915e3, Cond.instanceMethod yJx4a65c_elementData_915e3, Cond.selects RJx4a65c yJx4a65c_elementData_915e3 yJx4a65c_elementData_915e3, Cond.code yJx4a65c_elementData_915e3 cJx4a65c_elementData_915e3 2 (some (.object "java/lang/Object")), Cond.fieldLink RJx4a65c 9 "java/util/ArrayList" "elementData" "[Ljava/lang/Object;", Cond.methodLink RX2 210 yX1_isLive, Cond.instanceMethod yX1_isLive, Cond.selects RX1 yX1_isLive yX1_isLive, Cond.code yX1_isLive cX1_isLive 1 (some .boolean), Cond.fieldLink RX1 15 "TerminalYard$Session" "condition" "C", Cond.methodLink RX2 138 yX2_checkStock, Cond.instanceMethod yX2_checkStock, Cond.selects RX2 yX2_checkStock yX2_checkStock, Cond.code yX2_checkStock cX2_checkStock 3 none, Cond.classLink RX2 257 "java/lang/UnsupportedOperationException", Cond.initialized "java/lang/UnsupportedOperationException", Cond.fieldLink RX2 22 "TerminalYard" "kept" "[I", Cond.methodLink RX2 108 yX2_emptiestMachine, Cond.instanceMethod yX2_emptiestMachine]
def wsL_logIn_r4 : List Cond := [Cond.selects RX2 yX2_emptiestMachine yX2_emptiestMachine, Cond.code yX2_emptiestMachine cX2_emptiestMachine 5 (some (.object "TerminalYard$Machine")), Cond.classLink RX2 271 "java/util/NoSuchElementException", Cond.initialized "java/util/NoSuchElementException", Cond.fieldLink RX2 36 "TerminalYard" "machines" "Ljava/util/ArrayList;", Cond.classLink RX2 76 "TerminalYard$Machine", Cond.methodLink RX2 118 yX0_serves, Cond.instanceMethod yX0_serves, Cond.selects RX0 yX0_serves yX0_serves, Cond.initialized RX0, Cond.code yX0_serves cX0_serves 2 (some .boolean), Cond.fieldLink RX0 9 "TerminalYard$Machine" "condition" "C", Cond.fieldLink RX0 22 "TerminalYard$Machine" "pool" "I", Cond.methodLink RX2 105 yX0_freeSeats, Cond.instanceMethod yX0_freeSeats, Cond.selects RX0 yX0_freeSeats yX0_freeSeats, Cond.code yX0_freeSeats cX0_freeSeats 1 (some .int), Cond.fieldLink RX0 28 "TerminalYard$Machine" "seats" "I", Cond.fieldLink RX0 15 "TerminalYard$Machine" "live" "I", Cond.methodLink RX2 159 yX1_init, Cond.instanceMethod yX1_init, Cond.code yX1_init cX1_init 4 none, Cond.methodLink RX1 3 objectInit, Cond.instanceMethod objectInit]
def wsL_logIn_r5 : List Cond := [Cond.code objectInit ⟨#[0xb1]⟩ 1 none, Cond.arrayClass .int, Cond.fieldLink RX1 9 "TerminalYard$Session" "chargedFrom" "[I", Cond.fieldLink RX1 19 "TerminalYard$Session" "owner" "I", Cond.fieldLink RX1 23 "TerminalYard$Session" "host" "LTerminalYard$Machine;", Cond.fieldLink RX1 27 "TerminalYard$Session" "began" "I", Cond.fieldLink RX1 30 "TerminalYard$Session" "holder" "I", Cond.fieldLink RX1 33 "TerminalYard$Session" "usedLast" "I", Cond.methodLink RX2 81 yJx4a65c_add_9ea2d, Cond.instanceMethod yJx4a65c_add_9ea2d, Cond.selects RJx4a65c yJx4a65c_add_9ea2d yJx4a65c_add_9ea2d, Cond.code yJx4a65c_add_9ea2d cJx4a65c_add_9ea2d 2 (some .boolean), Cond.fieldLink RJx4a65c 63 "java/util/ArrayList" "modCount" "I", Cond.sameField "java/util/ArrayList" "java/util/AbstractList" "modCount" "I", Cond.methodLink RJx4a65c 131 yJx4a65c_add_72be8, Cond.instanceMethod yJx4a65c_add_72be8, Cond.selects RJx4a65c yJx4a65c_add_72be8 yJx4a65c_add_72be8, Cond.code yJx4a65c_add_72be8 cJx4a65c_add_72be8 4 none, Cond.methodLink RJx4a65c 129 yJx4a65c_grow_d5877, Cond.instanceMethod yJx4a65c_grow_d5877, Cond.selects RJx4a65c yJx4a65c_grow_d5877 yJx4a65c_grow_d5877, Cond.code yJx4a65c_grow_d5877 cJx4a65c_grow_d5877 1 (some (.array (.object "java/lang/Object"))), Cond.methodLink RJx4a65c 69 yJx4a65c_grow_92f84, Cond.instanceMethod yJx4a65c_grow_92f84]
def wsL_logIn_r6 : List Cond := [Cond.selects RJx4a65c yJx4a65c_grow_92f84 yJx4a65c_grow_92f84, Cond.code yJx4a65c_grow_92f84 cJx4a65c_grow_92f84 4 (some (.array (.object "java/lang/Object"))), Cond.fieldLink RJx4a65c 39 "java/util/ArrayList" "DEFAULTCAPACITY_EMPTY_ELEMENTDATA" "[Ljava/lang/Object;", Cond.methodLink RJx4a65c 79 Lib.Math.max.name, Cond.static Lib.Math.max.name, Cond.initialized "java/lang/Math", Cond.code Lib.Math.max.name Lib.Math.max.code 2 (some .int), Cond.classLink RJx4a65c 7 "java/lang/Object", Cond.methodLink RJx4a65c 73 yJ8_newLength_cabcc, Cond.static yJ8_newLength_cabcc, Cond.initialized RJ8, Cond.code yJ8_newLength_cabcc cJ8_newLength_cabcc 4 (some .int), Cond.methodLink RJ8 194 Lib.Math.max.name, Cond.constant RJ8 200 (2147483639), Cond.methodLink RJ8 201 yJ8_hugeLength_7cf53, Cond.static yJ8_hugeLength_7cf53, Cond.code yJ8_hugeLength_7cf53 cJ8_hugeLength_7cf53 3 (some .int), Cond.methodLink RJx4a65c 66 yJ7_copyOf_1904c, Cond.static yJ7_copyOf_1904c, Cond.initialized RJ7, Cond.code yJ7_copyOf_1904c cJ7_copyOf_1904c 2 (some (.array (.object "java/lang/Object"))), Cond.methodLink RJ7 86 ⟨"java/lang/Object", "getClass", "()Ljava/lang/Class;"⟩, Cond.selects "[Ljava/lang/Object;" ⟨"java/lang/Object", "getClass", "()Ljava/lang/Class;"⟩ ⟨"java/lang/Object", "getClass", "()Ljava/lang/Class;"⟩, Cond.instanceMethod ⟨"java/lang/Object", "getClass", "()Ljava/lang/Class;"⟩]
def wsL_logIn_r7 : List Cond := [Cond.native ⟨"java/lang/Object", "getClass", "()Ljava/lang/Class;"⟩, Cond.methodLink RJ7 300 yJ7_copyOf_6403c, Cond.static yJ7_copyOf_6403c, Cond.code yJ7_copyOf_6403c cJ7_copyOf_6403c 4 (some (.array (.object "java/lang/Object"))), Cond.classLink RJ7 110 "[Ljava/lang/Object;", Cond.classLink RJ7 2 "java/lang/Object", Cond.methodLink RJ7 304 Lib.Math.min.name, Cond.static Lib.Math.min.name, Cond.code Lib.Math.min.name Lib.Math.min.code 2 (some .int), Cond.methodLink RJ7 150 arraycopyName, Cond.native arraycopyName, Cond.static arraycopyName, Cond.initialized "java/lang/System"]
def wsL_logIn : List Cond := .codeWith yL_logIn cL_logIn 5 (some .int) [(0, 10, 13, 13), (0, 10, 17, 15), (0, 10, 21, 51), (0, 10, 25, 36)] :: ((wsL_logIn_r1 ++ (wsL_logIn_r2 ++ (wsL_logIn_r3 ++ (wsL_logIn_r4 ++ (wsL_logIn_r5 ++ (wsL_logIn_r6 ++ wsL_logIn_r7)))))) ++ wsX20 ++ wsX00 ++ wsX10 ++ wsJx4a65c0 ++ (vx_atM "java/lang/ArrayIndexOutOfBoundsException" ["java/lang/IndexOutOfBoundsException", "java/lang/RuntimeException", "java/lang/Exception"]).filter goodWord ++ (vx_atS RX2 75 "java/lang/IllegalStateException" ["java/lang/RuntimeException", "java/lang/Exception"]).filter goodWord ++ (vx_atS RX2 62 "java/lang/IllegalArgumentException" ["java/lang/RuntimeException", "java/lang/Exception"]).filter goodWord ++ (vx_atS RX2 261 "java/lang/UnsupportedOperationException" ["java/lang/RuntimeException", "java/lang/Exception"]).filter goodWord ++ (vx_atS RX2 275 "java/util/NoSuchElementException" ["java/lang/RuntimeException", "java/lang/Exception"]).filter goodWord)
def wsL_logOut_r1 : List Cond := [Cond.classLink RL 24 "java/lang/IndexOutOfBoundsException", Cond.classLink RL 15 "java/lang/IllegalStateException", Cond.methodLink RL 65 yX2_logOut, Cond.instanceMethod yX2_logOut, Cond.selects RX2 yX2_logOut yX2_logOut, Cond.initialized RX2, Cond.code yX2_logOut cX2_logOut 3 (some .int), Cond.methodLink RX2 162 yX2_liveSessionAt, Cond.instanceMethod yX2_liveSessionAt, Cond.selects RX2 yX2_liveSessionAt yX2_liveSessionAt, Cond.code yX2_liveSessionAt cX2_liveSessionAt 3 (some (.object "TerminalYard$Session")), Cond.methodLink RX2 176 yX2_sessionAt, Cond.instanceMethod yX2_sessionAt, Cond.selects RX2 yX2_sessionAt yX2_sessionAt, Cond.code yX2_sessionAt cX2_sessionAt 2 (some (.object "TerminalYard$Session")), Cond.classLink RX2 264 "java/lang/IndexOutOfBoundsException", Cond.initialized "java/lang/IndexOutOfBoundsException", Cond.fieldLink RX2 40 "TerminalYard" "sessions" "Ljava/util/ArrayList;", Cond.classLink RX2 147 "TerminalYard$Session", Cond.methodLink RX2 67 yJx4a65c_size_8abf5, Cond.instanceMethod yJx4a65c_size_8abf5, Cond.selects RJx4a65c yJx4a65c_size_8abf5 yJx4a65c_size_8abf5, Cond.initialized RJx4a65c, Cond.code yJx4a65c_size_8abf5 cJx4a65c_size_8abf5 1 (some .int)]
def wsL_logOut_r2 : List Cond := [Cond.fieldLink RJx4a65c 48 "java/util/ArrayList" "size" "I", Cond.methodLink RX2 54 yX2_isOutside, Cond.static yX2_isOutside, Cond.code yX2_isOutside cX2_isOutside 3 (some .boolean), Cond.methodLink RX2 114 yJx4a65c_get_915e3, Cond.instanceMethod yJx4a65c_get_915e3, Cond.selects RJx4a65c yJx4a65c_get_915e3 yJx4a65c_get_915e3, Cond.code yJx4a65c_get_915e3 cJx4a65c_get_915e3 2 (some (.object "java/lang/Object")), Cond.methodLink RJx4a65c 118 yJ15_checkIndex_7cf53, Cond.static yJ15_checkIndex_7cf53, Cond.initialized RJ15, Cond.code yJ15_checkIndex_7cf53 cJ15_checkIndex_7cf53 2 (some .int), Cond.methodLink RJ15 105 yJ3_checkIndex_8e157, Cond.static yJ3_checkIndex_8e157, Cond.initialized RJ3, Cond.code yJ3_checkIndex_8e157 cJ3_checkIndex_8e157 3 (some .int), Cond.methodLink RJx4a65c 123 yJx4a65c_elementData_915e3, Cond.instanceMethod yJx4a65c_elementData_915e3, Cond.selects RJx4a65c yJx4a65c_elementData_915e3 yJx4a65c_elementData_915e3, Cond.code yJx4a65c_elementData_915e3 cJx4a65c_elementData_915e3 2 (some (.object "java/lang/Object")), Cond.fieldLink RJx4a65c 9 "java/util/ArrayList" "elementData" "[Ljava/lang/Object;", Cond.methodLink RX2 184 yX2_checkLive, Cond.static yX2_checkLive, Cond.code yX2_checkLive cX2_checkLive 1 none]
def wsL_logOut_r3 : List Cond := [Cond.classLink RX2 71 "java/lang/IllegalStateException", Cond.initialized "java/lang/IllegalStateException", Cond.methodLink RX2 210 yX1_isLive, Cond.instanceMethod yX1_isLive, Cond.selects RX1 yX1_isLive yX1_isLive, Cond.initialized RX1, Cond.code yX1_isLive cX1_isLive 1 (some .boolean), Cond.fieldLink RX1 15 "TerminalYard$Session" "condition" "C", Cond.methodLink RX2 166 yX2_end, Cond.instanceMethod yX2_end, Cond.selects RX2 yX2_end yX2_end, Cond.code yX2_end cX2_end 3 none, Cond.fieldLink RX2 214 "TerminalYard$Session" "condition" "C", Cond.fieldLink RX2 203 "TerminalYard$Session" "host" "LTerminalYard$Machine;", Cond.fieldLink RX2 100 "TerminalYard$Machine" "live" "I", Cond.methodLink RX2 97 yX0_repairWhenEmpty, Cond.instanceMethod yX0_repairWhenEmpty, Cond.selects RX0 yX0_repairWhenEmpty yX0_repairWhenEmpty, Cond.initialized RX0, Cond.code yX0_repairWhenEmpty cX0_repairWhenEmpty 1 none, Cond.fieldLink RX0 9 "TerminalYard$Machine" "condition" "C", Cond.fieldLink RX0 15 "TerminalYard$Machine" "live" "I", Cond.methodLink RX2 170 yX1_chargedInAll, Cond.instanceMethod yX1_chargedInAll]
def wsL_logOut_r4 : List Cond := [Cond.selects RX1 yX1_chargedInAll yX1_chargedInAll, Cond.code yX1_chargedInAll cX1_chargedInAll 3 (some .int), Cond.fieldLink RX1 9 "TerminalYard$Session" "chargedFrom" "[I"]
def wsL_logOut : List Cond := .codeWith yL_logOut cL_logOut 4 (some .int) [(0, 9, 12, 24), (0, 9, 15, 15)] :: ((wsL_logOut_r1 ++ (wsL_logOut_r2 ++ (wsL_logOut_r3 ++ wsL_logOut_r4))) ++ wsX20 ++ wsJx4a65c0 ++ wsX10 ++ wsX00 ++ (vx_atM "java/lang/ArrayIndexOutOfBoundsException" ["java/lang/IndexOutOfBoundsException", "java/lang/RuntimeException", "java/lang/Exception"]).filter goodWord ++ (vx_atS RX2 268 "java/lang/IndexOutOfBoundsException" ["java/lang/RuntimeException", "java/lang/Exception"]).filter goodWord ++ (vx_atS RX2 75 "java/lang/IllegalStateException" ["java/lang/RuntimeException", "java/lang/Exception"]).filter goodWord)
def wsL_use_r1 : List Cond := [Cond.classLink RL 24 "java/lang/IndexOutOfBoundsException", Cond.classLink RL 15 "java/lang/IllegalStateException", Cond.methodLink RL 68 yX2_use, Cond.instanceMethod yX2_use, Cond.selects RX2 yX2_use yX2_use, Cond.initialized RX2, Cond.code yX2_use cX2_use 4 (some .int), Cond.fieldLink RX2 43 "TerminalYard" "now" "I", Cond.fieldLink RX2 173 "TerminalYard$Session" "usedLast" "I", Cond.methodLink RX2 162 yX2_liveSessionAt, Cond.instanceMethod yX2_liveSessionAt, Cond.selects RX2 yX2_liveSessionAt yX2_liveSessionAt, Cond.code yX2_liveSessionAt cX2_liveSessionAt 3 (some (.object "TerminalYard$Session")), Cond.methodLink RX2 176 yX2_sessionAt, Cond.instanceMethod yX2_sessionAt, Cond.selects RX2 yX2_sessionAt yX2_sessionAt, Cond.code yX2_sessionAt cX2_sessionAt 2 (some (.object "TerminalYard$Session")), Cond.classLink RX2 264 "java/lang/IndexOutOfBoundsException", Cond.initialized "java/lang/IndexOutOfBoundsException", Cond.fieldLink RX2 40 "TerminalYard" "sessions" "Ljava/util/ArrayList;", Cond.classLink RX2 147 "TerminalYard$Session", Cond.methodLink RX2 67 yJx4a65c_size_8abf5, Cond.instanceMethod yJx4a65c_size_8abf5, Cond.selects RJx4a65c yJx4a65c_size_8abf5 yJx4a65c_size_8abf5]
def wsL_use_r2 : List Cond := [Cond.initialized RJx4a65c, Cond.code yJx4a65c_size_8abf5 cJx4a65c_size_8abf5 1 (some .int), Cond.fieldLink RJx4a65c 48 "java/util/ArrayList" "size" "I", Cond.methodLink RX2 54 yX2_isOutside, Cond.static yX2_isOutside, Cond.code yX2_isOutside cX2_isOutside 3 (some .boolean), Cond.methodLink RX2 114 yJx4a65c_get_915e3, Cond.instanceMethod yJx4a65c_get_915e3, Cond.selects RJx4a65c yJx4a65c_get_915e3 yJx4a65c_get_915e3, Cond.code yJx4a65c_get_915e3 cJx4a65c_get_915e3 2 (some (.object "java/lang/Object")), Cond.methodLink RJx4a65c 118 yJ15_checkIndex_7cf53, Cond.static yJ15_checkIndex_7cf53, Cond.initialized RJ15, Cond.code yJ15_checkIndex_7cf53 cJ15_checkIndex_7cf53 2 (some .int), Cond.methodLink RJ15 105 yJ3_checkIndex_8e157, Cond.static yJ3_checkIndex_8e157, Cond.initialized RJ3, Cond.code yJ3_checkIndex_8e157 cJ3_checkIndex_8e157 3 (some .int), Cond.methodLink RJx4a65c 123 yJx4a65c_elementData_915e3, Cond.instanceMethod yJx4a65c_elementData_915e3, Cond.selects RJx4a65c yJx4a65c_elementData_915e3 yJx4a65c_elementData_915e3, Cond.code yJx4a65c_elementData_915e3 cJx4a65c_elementData_915e3 2 (some (.object "java/lang/Object")), Cond.fieldLink RJx4a65c 9 "java/util/ArrayList" "elementData" "[Ljava/lang/Object;", Cond.methodLink RX2 184 yX2_checkLive]
def wsL_use_r3 : List Cond := [Cond.static yX2_checkLive, Cond.code yX2_checkLive cX2_checkLive 1 none, Cond.classLink RX2 71 "java/lang/IllegalStateException", Cond.initialized "java/lang/IllegalStateException", Cond.methodLink RX2 210 yX1_isLive, Cond.instanceMethod yX1_isLive, Cond.selects RX1 yX1_isLive yX1_isLive, Cond.initialized RX1, Cond.code yX1_isLive cX1_isLive 1 (some .boolean), Cond.fieldLink RX1 15 "TerminalYard$Session" "condition" "C"]
def wsL_use : List Cond := .codeWith yL_use cL_use 4 (some .int) [(0, 9, 12, 24), (0, 9, 15, 15)] :: ((wsL_use_r1 ++ (wsL_use_r2 ++ wsL_use_r3)) ++ wsX20 ++ wsX10 ++ wsJx4a65c0 ++ (vx_atM "java/lang/ArrayIndexOutOfBoundsException" ["java/lang/IndexOutOfBoundsException", "java/lang/RuntimeException", "java/lang/Exception"]).filter goodWord ++ (vx_atS RX2 268 "java/lang/IndexOutOfBoundsException" ["java/lang/RuntimeException", "java/lang/Exception"]).filter goodWord ++ (vx_atS RX2 75 "java/lang/IllegalStateException" ["java/lang/RuntimeException", "java/lang/Exception"]).filter goodWord)
def wsL_takeOver_r1 : List Cond := [Cond.classLink RL 24 "java/lang/IndexOutOfBoundsException", Cond.classLink RL 13 "java/lang/IllegalArgumentException", Cond.classLink RL 15 "java/lang/IllegalStateException", Cond.classLink RL 51 "java/lang/UnsupportedOperationException", Cond.methodLink RL 71 yX2_takeOver, Cond.instanceMethod yX2_takeOver, Cond.selects RX2 yX2_takeOver yX2_takeOver, Cond.initialized RX2, Cond.code yX2_takeOver cX2_takeOver 4 (some .int), Cond.classLink RX2 58 "java/lang/IllegalArgumentException", Cond.initialized "java/lang/IllegalArgumentException", Cond.fieldLink RX2 179 "TerminalYard$Session" "holder" "I", Cond.fieldLink RX2 19 "TerminalYard" "departmentOf" "[I", Cond.methodLink RX2 176 yX2_sessionAt, Cond.instanceMethod yX2_sessionAt, Cond.selects RX2 yX2_sessionAt yX2_sessionAt, Cond.code yX2_sessionAt cX2_sessionAt 2 (some (.object "TerminalYard$Session")), Cond.classLink RX2 264 "java/lang/IndexOutOfBoundsException", Cond.initialized "java/lang/IndexOutOfBoundsException", Cond.fieldLink RX2 40 "TerminalYard" "sessions" "Ljava/util/ArrayList;", Cond.classLink RX2 147 "TerminalYard$Session", Cond.methodLink RX2 67 yJx4a65c_size_8abf5, Cond.instanceMethod yJx4a65c_size_8abf5, Cond.selects RJx4a65c yJx4a65c_size_8abf5 yJx4a65c_size_8abf5]
def wsL_takeOver_r2 : List Cond := [Cond.initialized RJx4a65c, Cond.code yJx4a65c_size_8abf5 cJx4a65c_size_8abf5 1 (some .int), Cond.fieldLink RJx4a65c 48 "java/util/ArrayList" "size" "I", Cond.methodLink RX2 54 yX2_isOutside, Cond.static yX2_isOutside, Cond.code yX2_isOutside cX2_isOutside 3 (some .boolean), Cond.methodLink RX2 114 yJx4a65c_get_915e3, Cond.instanceMethod yJx4a65c_get_915e3, Cond.selects RJx4a65c yJx4a65c_get_915e3 yJx4a65c_get_915e3, Cond.code yJx4a65c_get_915e3 cJx4a65c_get_915e3 2 (some (.object "java/lang/Object")), Cond.methodLink RJx4a65c 118 yJ15_checkIndex_7cf53, Cond.static yJ15_checkIndex_7cf53, Cond.initialized RJ15, Cond.code yJ15_checkIndex_7cf53 cJ15_checkIndex_7cf53 2 (some .int), Cond.methodLink RJ15 105 yJ3_checkIndex_8e157, Cond.static yJ3_checkIndex_8e157, Cond.initialized RJ3, Cond.code yJ3_checkIndex_8e157 cJ3_checkIndex_8e157 3 (some .int), Cond.methodLink RJx4a65c 123 yJx4a65c_elementData_915e3, Cond.instanceMethod yJx4a65c_elementData_915e3, Cond.selects RJx4a65c yJx4a65c_elementData_915e3 yJx4a65c_elementData_915e3, Cond.code yJx4a65c_elementData_915e3 cJx4a65c_elementData_915e3 2 (some (.object "java/lang/Object")), Cond.fieldLink RJx4a65c 9 "java/util/ArrayList" "elementData" "[Ljava/lang/Object;", Cond.methodLink RX2 122 yX2_checkUser]
def wsL_takeOver_r3 : List Cond := [Cond.static yX2_checkUser, Cond.code yX2_checkUser cX2_checkUser 1 none, Cond.methodLink RX2 184 yX2_checkLive, Cond.static yX2_checkLive, Cond.code yX2_checkLive cX2_checkLive 1 none, Cond.classLink RX2 71 "java/lang/IllegalStateException", Cond.initialized "java/lang/IllegalStateException", Cond.methodLink RX2 210 yX1_isLive, Cond.instanceMethod yX1_isLive, Cond.selects RX1 yX1_isLive yX1_isLive, Cond.initialized RX1, Cond.code yX1_isLive cX1_isLive 1 (some .boolean), Cond.fieldLink RX1 15 "TerminalYard$Session" "condition" "C", Cond.methodLink RX2 138 yX2_checkStock, Cond.instanceMethod yX2_checkStock, Cond.selects RX2 yX2_checkStock yX2_checkStock, Cond.code yX2_checkStock cX2_checkStock 3 none, Cond.classLink RX2 257 "java/lang/UnsupportedOperationException", Cond.initialized "java/lang/UnsupportedOperationException", Cond.fieldLink RX2 22 "TerminalYard" "kept" "[I", Cond.methodLink RX2 188 yX2_passTo, Cond.instanceMethod yX2_passTo, Cond.selects RX2 yX2_passTo yX2_passTo, Cond.code yX2_passTo cX2_passTo 4 (some .int)]
def wsL_takeOver_r4 : List Cond := [Cond.fieldLink RX2 43 "TerminalYard" "now" "I", Cond.fieldLink RX2 173 "TerminalYard$Session" "usedLast" "I"]
def wsL_takeOver : List Cond := .codeWith yL_takeOver cL_takeOver 5 (some .int) [(0, 10, 13, 24), (0, 10, 17, 13), (0, 10, 21, 15), (0, 10, 25, 51)] :: ((wsL_takeOver_r1 ++ (wsL_takeOver_r2 ++ (wsL_takeOver_r3 ++ wsL_takeOver_r4))) ++ wsX10 ++ wsX20 ++ wsJx4a65c0 ++ (vx_atM "java/lang/ArrayIndexOutOfBoundsException" ["java/lang/IndexOutOfBoundsException", "java/lang/RuntimeException", "java/lang/Exception"]).filter goodWord ++ (vx_atS RX2 62 "java/lang/IllegalArgumentException" ["java/lang/RuntimeException", "java/lang/Exception"]).filter goodWord ++ (vx_atS RX2 268 "java/lang/IndexOutOfBoundsException" ["java/lang/RuntimeException", "java/lang/Exception"]).filter goodWord ++ (vx_atS RX2 75 "java/lang/IllegalStateException" ["java/lang/RuntimeException", "java/lang/Exception"]).filter goodWord ++ (vx_atS RX2 261 "java/lang/UnsupportedOperationException" ["java/lang/RuntimeException", "java/lang/Exception"]).filter goodWord)
def wsL_handBack_r1 : List Cond := [Cond.classLink RL 24 "java/lang/IndexOutOfBoundsException", Cond.classLink RL 15 "java/lang/IllegalStateException", Cond.methodLink RL 74 yX2_handBack, Cond.instanceMethod yX2_handBack, Cond.selects RX2 yX2_handBack yX2_handBack, Cond.initialized RX2, Cond.code yX2_handBack cX2_handBack 3 (some .int), Cond.classLink RX2 71 "java/lang/IllegalStateException", Cond.initialized "java/lang/IllegalStateException", Cond.fieldLink RX2 179 "TerminalYard$Session" "holder" "I", Cond.fieldLink RX2 192 "TerminalYard$Session" "owner" "I", Cond.methodLink RX2 162 yX2_liveSessionAt, Cond.instanceMethod yX2_liveSessionAt, Cond.selects RX2 yX2_liveSessionAt yX2_liveSessionAt, Cond.code yX2_liveSessionAt cX2_liveSessionAt 3 (some (.object "TerminalYard$Session")), Cond.methodLink RX2 176 yX2_sessionAt, Cond.instanceMethod yX2_sessionAt, Cond.selects RX2 yX2_sessionAt yX2_sessionAt, Cond.code yX2_sessionAt cX2_sessionAt 2 (some (.object "TerminalYard$Session")), Cond.classLink RX2 264 "java/lang/IndexOutOfBoundsException", Cond.initialized "java/lang/IndexOutOfBoundsException", Cond.fieldLink RX2 40 "TerminalYard" "sessions" "Ljava/util/ArrayList;", Cond.classLink RX2 147 "TerminalYard$Session", Cond.methodLink RX2 67 yJx4a65c_size_8abf5]
def wsL_handBack_r2 : List Cond := [Cond.instanceMethod yJx4a65c_size_8abf5, Cond.selects RJx4a65c yJx4a65c_size_8abf5 yJx4a65c_size_8abf5, Cond.initialized RJx4a65c, Cond.code yJx4a65c_size_8abf5 cJx4a65c_size_8abf5 1 (some .int), Cond.fieldLink RJx4a65c 48 "java/util/ArrayList" "size" "I", Cond.methodLink RX2 54 yX2_isOutside, Cond.static yX2_isOutside, Cond.code yX2_isOutside cX2_isOutside 3 (some .boolean), Cond.methodLink RX2 114 yJx4a65c_get_915e3, Cond.instanceMethod yJx4a65c_get_915e3, Cond.selects RJx4a65c yJx4a65c_get_915e3 yJx4a65c_get_915e3, Cond.code yJx4a65c_get_915e3 cJx4a65c_get_915e3 2 (some (.object "java/lang/Object")), Cond.methodLink RJx4a65c 118 yJ15_checkIndex_7cf53, Cond.static yJ15_checkIndex_7cf53, Cond.initialized RJ15, Cond.code yJ15_checkIndex_7cf53 cJ15_checkIndex_7cf53 2 (some .int), Cond.methodLink RJ15 105 yJ3_checkIndex_8e157, Cond.static yJ3_checkIndex_8e157, Cond.initialized RJ3, Cond.code yJ3_checkIndex_8e157 cJ3_checkIndex_8e157 3 (some .int), Cond.methodLink RJx4a65c 123 yJx4a65c_elementData_915e3, Cond.instanceMethod yJx4a65c_elementData_915e3, Cond.selects RJx4a65c yJx4a65c_elementData_915e3 yJx4a65c_elementData_915e3, Cond.code yJx4a65c_elementData_915e3 cJx4a65c_elementData_915e3 2 (some (.object "java/lang/Object"))]
def wsL_handBack_r3 : List Cond := [Cond.fieldLink RJx4a65c 9 "java/util/ArrayList" "elementData" "[Ljava/lang/Object;", Cond.methodLink RX2 184 yX2_checkLive, Cond.static yX2_checkLive, Cond.code yX2_checkLive cX2_checkLive 1 none, Cond.methodLink RX2 210 yX1_isLive, Cond.instanceMethod yX1_isLive, Cond.selects RX1 yX1_isLive yX1_isLive, Cond.initialized RX1, Cond.code yX1_isLive cX1_isLive 1 (some .boolean), Cond.fieldLink RX1 15 "TerminalYard$Session" "condition" "C", Cond.methodLink RX2 188 yX2_passTo, Cond.instanceMethod yX2_passTo, Cond.selects RX2 yX2_passTo yX2_passTo, Cond.code yX2_passTo cX2_passTo 4 (some .int), Cond.fieldLink RX2 43 "TerminalYard" "now" "I", Cond.fieldLink RX2 173 "TerminalYard$Session" "usedLast" "I"]
def wsL_handBack : List Cond := .codeWith yL_handBack cL_handBack 4 (some .int) [(0, 9, 12, 24), (0, 9, 15, 15)] :: ((wsL_handBack_r1 ++ (wsL_handBack_r2 ++ wsL_handBack_r3)) ++ wsX10 ++ wsX20 ++ wsJx4a65c0 ++ (vx_atM "java/lang/ArrayIndexOutOfBoundsException" ["java/lang/IndexOutOfBoundsException", "java/lang/RuntimeException", "java/lang/Exception"]).filter goodWord ++ (vx_atS RX2 75 "java/lang/IllegalStateException" ["java/lang/RuntimeException", "java/lang/Exception"]).filter goodWord ++ (vx_atS RX2 268 "java/lang/IndexOutOfBoundsException" ["java/lang/RuntimeException", "java/lang/Exception"]).filter goodWord)
def wsL_print_r1 : List Cond := [Cond.classLink RL 24 "java/lang/IndexOutOfBoundsException", Cond.classLink RL 13 "java/lang/IllegalArgumentException", Cond.classLink RL 15 "java/lang/IllegalStateException", Cond.classLink RL 51 "java/lang/UnsupportedOperationException", Cond.methodLink RL 77 yX2_print, Cond.instanceMethod yX2_print, Cond.selects RX2 yX2_print yX2_print, Cond.initialized RX2, Cond.code yX2_print cX2_print 6 (some .int), Cond.classLink RX2 58 "java/lang/IllegalArgumentException", Cond.initialized "java/lang/IllegalArgumentException", Cond.fieldLink RX2 19 "TerminalYard" "departmentOf" "[I", Cond.fieldLink RX2 179 "TerminalYard$Session" "holder" "I", Cond.fieldLink RX2 47 "TerminalYard" "chargedForPages" "I", Cond.fieldLink RX2 43 "TerminalYard" "now" "I", Cond.fieldLink RX2 173 "TerminalYard$Session" "usedLast" "I", Cond.fieldLink RX2 203 "TerminalYard$Session" "host" "LTerminalYard$Machine;", Cond.fieldLink RX2 207 "TerminalYard$Machine" "room" "I", Cond.fieldLink RX2 16 "TerminalYard" "pagesInRoom" "[I", Cond.methodLink RX2 176 yX2_sessionAt, Cond.instanceMethod yX2_sessionAt, Cond.selects RX2 yX2_sessionAt yX2_sessionAt, Cond.code yX2_sessionAt cX2_sessionAt 2 (some (.object "TerminalYard$Session")), Cond.classLink RX2 264 "java/lang/IndexOutOfBoundsException"]
def wsL_print_r2 : List Cond := [Cond.initialized "java/lang/IndexOutOfBoundsException", Cond.fieldLink RX2 40 "TerminalYard" "sessions" "Ljava/util/ArrayList;", Cond.classLink RX2 147 "TerminalYard$Session", Cond.methodLink RX2 67 yJx4a65c_size_8abf5, Cond.instanceMethod yJx4a65c_size_8abf5, Cond.selects RJx4a65c yJx4a65c_size_8abf5 yJx4a65c_size_8abf5, Cond.initialized RJx4a65c, Cond.code yJx4a65c_size_8abf5 cJx4a65c_size_8abf5 1 (some .int), Cond.fieldLink RJx4a65c 48 "java/util/ArrayList" "size" "I", Cond.methodLink RX2 54 yX2_isOutside, Cond.static yX2_isOutside, Cond.code yX2_isOutside cX2_isOutside 3 (some .boolean), Cond.methodLink RX2 114 yJx4a65c_get_915e3, Cond.instanceMethod yJx4a65c_get_915e3, Cond.selects RJx4a65c yJx4a65c_get_915e3 yJx4a65c_get_915e3, Cond.code yJx4a65c_get_915e3 cJx4a65c_get_915e3 2 (some (.object "java/lang/Object")), Cond.methodLink RJx4a65c 118 yJ15_checkIndex_7cf53, Cond.static yJ15_checkIndex_7cf53, Cond.initialized RJ15, Cond.code yJ15_checkIndex_7cf53 cJ15_checkIndex_7cf53 2 (some .int), Cond.methodLink RJ15 105 yJ3_checkIndex_8e157, Cond.static yJ3_checkIndex_8e157, Cond.initialized RJ3, Cond.code yJ3_checkIndex_8e157 cJ3_checkIndex_8e157 3 (some .int)]
def wsL_print_r3 : List Cond := [Cond.methodLink RJx4a65c 123 yJx4a65c_elementData_915e3, Cond.instanceMethod yJx4a65c_elementData_915e3, Cond.selects RJx4a65c yJx4a65c_elementData_915e3 yJx4a65c_elementData_915e3, Cond.code yJx4a65c_elementData_915e3 cJx4a65c_elementData_915e3 2 (some (.object "java/lang/Object")), Cond.fieldLink RJx4a65c 9 "java/util/ArrayList" "elementData" "[Ljava/lang/Object;", Cond.methodLink RX2 184 yX2_checkLive, Cond.static yX2_checkLive, Cond.code yX2_checkLive cX2_checkLive 1 none, Cond.classLink RX2 71 "java/lang/IllegalStateException", Cond.initialized "java/lang/IllegalStateException", Cond.methodLink RX2 210 yX1_isLive, Cond.instanceMethod yX1_isLive, Cond.selects RX1 yX1_isLive yX1_isLive, Cond.initialized RX1, Cond.code yX1_isLive cX1_isLive 1 (some .boolean), Cond.fieldLink RX1 15 "TerminalYard$Session" "condition" "C", Cond.methodLink RX2 138 yX2_checkStock, Cond.instanceMethod yX2_checkStock, Cond.selects RX2 yX2_checkStock yX2_checkStock, Cond.code yX2_checkStock cX2_checkStock 3 none, Cond.classLink RX2 257 "java/lang/UnsupportedOperationException", Cond.initialized "java/lang/UnsupportedOperationException", Cond.fieldLink RX2 22 "TerminalYard" "kept" "[I", Cond.methodLink RX2 199 yX2_charge]
def wsL_print_r4 : List Cond := [Cond.instanceMethod yX2_charge, Cond.selects RX2 yX2_charge yX2_charge, Cond.code yX2_charge cX2_charge 4 none, Cond.fieldLink RX2 149 "TerminalYard$Session" "chargedFrom" "[I"]
def wsL_print : List Cond := .codeWith yL_print cL_print 5 (some .int) [(0, 10, 13, 24), (0, 10, 17, 13), (0, 10, 21, 15), (0, 10, 25, 51)] :: ((wsL_print_r1 ++ (wsL_print_r2 ++ (wsL_print_r3 ++ wsL_print_r4))) ++ wsX20 ++ wsX10 ++ wsX00 ++ wsJx4a65c0 ++ (vx_atM "java/lang/ArrayIndexOutOfBoundsException" ["java/lang/IndexOutOfBoundsException", "java/lang/RuntimeException", "java/lang/Exception"]).filter goodWord ++ (vx_atS RX2 62 "java/lang/IllegalArgumentException" ["java/lang/RuntimeException", "java/lang/Exception"]).filter goodWord ++ (vx_atS RX2 268 "java/lang/IndexOutOfBoundsException" ["java/lang/RuntimeException", "java/lang/Exception"]).filter goodWord ++ (vx_atS RX2 75 "java/lang/IllegalStateException" ["java/lang/RuntimeException", "java/lang/Exception"]).filter goodWord ++ (vx_atS RX2 261 "java/lang/UnsupportedOperationException" ["java/lang/RuntimeException", "java/lang/Exception"]).filter goodWord)
def wsL_state_r1 : List Cond := [Cond.classLink RL 24 "java/lang/IndexOutOfBoundsException", Cond.methodLink RL 80 yX2_state, Cond.instanceMethod yX2_state, Cond.selects RX2 yX2_state yX2_state, Cond.initialized RX2, Cond.code yX2_state cX2_state 3 (some .char), Cond.fieldLink RX2 179 "TerminalYard$Session" "holder" "I", Cond.fieldLink RX2 192 "TerminalYard$Session" "owner" "I", Cond.fieldLink RX2 214 "TerminalYard$Session" "condition" "C", Cond.methodLink RX2 176 yX2_sessionAt, Cond.instanceMethod yX2_sessionAt, Cond.selects RX2 yX2_sessionAt yX2_sessionAt, Cond.code yX2_sessionAt cX2_sessionAt 2 (some (.object "TerminalYard$Session")), Cond.classLink RX2 264 "java/lang/IndexOutOfBoundsException", Cond.initialized "java/lang/IndexOutOfBoundsException", Cond.fieldLink RX2 40 "TerminalYard" "sessions" "Ljava/util/ArrayList;", Cond.classLink RX2 147 "TerminalYard$Session", Cond.methodLink RX2 67 yJx4a65c_size_8abf5, Cond.instanceMethod yJx4a65c_size_8abf5, Cond.selects RJx4a65c yJx4a65c_size_8abf5 yJx4a65c_size_8abf5, Cond.initialized RJx4a65c, Cond.code yJx4a65c_size_8abf5 cJx4a65c_size_8abf5 1 (some .int), Cond.fieldLink RJx4a65c 48 "java/util/ArrayList" "size" "I", Cond.methodLink RX2 54 yX2_isOutside]
def wsL_state_r2 : List Cond := [Cond.static yX2_isOutside, Cond.code yX2_isOutside cX2_isOutside 3 (some .boolean), Cond.methodLink RX2 114 yJx4a65c_get_915e3, Cond.instanceMethod yJx4a65c_get_915e3, Cond.selects RJx4a65c yJx4a65c_get_915e3 yJx4a65c_get_915e3, Cond.code yJx4a65c_get_915e3 cJx4a65c_get_915e3 2 (some (.object "java/lang/Object")), Cond.methodLink RJx4a65c 118 yJ15_checkIndex_7cf53, Cond.static yJ15_checkIndex_7cf53, Cond.initialized RJ15, Cond.code yJ15_checkIndex_7cf53 cJ15_checkIndex_7cf53 2 (some .int), Cond.methodLink RJ15 105 yJ3_checkIndex_8e157, Cond.static yJ3_checkIndex_8e157, Cond.initialized RJ3, Cond.code yJ3_checkIndex_8e157 cJ3_checkIndex_8e157 3 (some .int), Cond.methodLink RJx4a65c 123 yJx4a65c_elementData_915e3, Cond.instanceMethod yJx4a65c_elementData_915e3, Cond.selects RJx4a65c yJx4a65c_elementData_915e3 yJx4a65c_elementData_915e3, Cond.code yJx4a65c_elementData_915e3 cJx4a65c_elementData_915e3 2 (some (.object "java/lang/Object")), Cond.fieldLink RJx4a65c 9 "java/util/ArrayList" "elementData" "[Ljava/lang/Object;", Cond.methodLink RX2 210 yX1_isLive, Cond.instanceMethod yX1_isLive, Cond.selects RX1 yX1_isLive yX1_isLive, Cond.initialized RX1, Cond.code yX1_isLive cX1_isLive 1 (some .boolean)]
def wsL_state_r3 : List Cond := [Cond.fieldLink RX1 15 "TerminalYard$Session" "condition" "C"]
def wsL_state : List Cond := .codeWith yL_state cL_state 4 (some .int) [(0, 9, 12, 24)] :: ((wsL_state_r1 ++ (wsL_state_r2 ++ wsL_state_r3)) ++ wsX10 ++ wsX20 ++ wsJx4a65c0 ++ (vx_atM "java/lang/ArrayIndexOutOfBoundsException" ["java/lang/IndexOutOfBoundsException", "java/lang/RuntimeException", "java/lang/Exception"]).filter goodWord ++ (vx_atS RX2 268 "java/lang/IndexOutOfBoundsException" ["java/lang/RuntimeException", "java/lang/Exception"]).filter goodWord)
def wsL_machineOf_r1 : List Cond := [Cond.classLink RL 24 "java/lang/IndexOutOfBoundsException", Cond.methodLink RL 83 yX2_machineOf, Cond.instanceMethod yX2_machineOf, Cond.selects RX2 yX2_machineOf yX2_machineOf, Cond.initialized RX2, Cond.code yX2_machineOf cX2_machineOf 2 (some .int), Cond.fieldLink RX2 203 "TerminalYard$Session" "host" "LTerminalYard$Machine;", Cond.fieldLink RX2 111 "TerminalYard$Machine" "number" "I", Cond.methodLink RX2 176 yX2_sessionAt, Cond.instanceMethod yX2_sessionAt, Cond.selects RX2 yX2_sessionAt yX2_sessionAt, Cond.code yX2_sessionAt cX2_sessionAt 2 (some (.object "TerminalYard$Session")), Cond.classLink RX2 264 "java/lang/IndexOutOfBoundsException", Cond.initialized "java/lang/IndexOutOfBoundsException", Cond.fieldLink RX2 40 "TerminalYard" "sessions" "Ljava/util/ArrayList;", Cond.classLink RX2 147 "TerminalYard$Session", Cond.methodLink RX2 67 yJx4a65c_size_8abf5, Cond.instanceMethod yJx4a65c_size_8abf5, Cond.selects RJx4a65c yJx4a65c_size_8abf5 yJx4a65c_size_8abf5, Cond.initialized RJx4a65c, Cond.code yJx4a65c_size_8abf5 cJx4a65c_size_8abf5 1 (some .int), Cond.fieldLink RJx4a65c 48 "java/util/ArrayList" "size" "I", Cond.methodLink RX2 54 yX2_isOutside, Cond.static yX2_isOutside]
def wsL_machineOf_r2 : List Cond := [Cond.code yX2_isOutside cX2_isOutside 3 (some .boolean), Cond.methodLink RX2 114 yJx4a65c_get_915e3, Cond.instanceMethod yJx4a65c_get_915e3, Cond.selects RJx4a65c yJx4a65c_get_915e3 yJx4a65c_get_915e3, Cond.code yJx4a65c_get_915e3 cJx4a65c_get_915e3 2 (some (.object "java/lang/Object")), Cond.methodLink RJx4a65c 118 yJ15_checkIndex_7cf53, Cond.static yJ15_checkIndex_7cf53, Cond.initialized RJ15, Cond.code yJ15_checkIndex_7cf53 cJ15_checkIndex_7cf53 2 (some .int), Cond.methodLink RJ15 105 yJ3_checkIndex_8e157, Cond.static yJ3_checkIndex_8e157, Cond.initialized RJ3, Cond.code yJ3_checkIndex_8e157 cJ3_checkIndex_8e157 3 (some .int), Cond.methodLink RJx4a65c 123 yJx4a65c_elementData_915e3, Cond.instanceMethod yJx4a65c_elementData_915e3, Cond.selects RJx4a65c yJx4a65c_elementData_915e3 yJx4a65c_elementData_915e3, Cond.code yJx4a65c_elementData_915e3 cJx4a65c_elementData_915e3 2 (some (.object "java/lang/Object")), Cond.fieldLink RJx4a65c 9 "java/util/ArrayList" "elementData" "[Ljava/lang/Object;"]
def wsL_machineOf : List Cond := .codeWith yL_machineOf cL_machineOf 4 (some .int) [(0, 9, 12, 24)] :: ((wsL_machineOf_r1 ++ wsL_machineOf_r2) ++ wsX10 ++ wsX00 ++ wsX20 ++ wsJx4a65c0 ++ (vx_atM "java/lang/ArrayIndexOutOfBoundsException" ["java/lang/IndexOutOfBoundsException", "java/lang/RuntimeException", "java/lang/Exception"]).filter goodWord ++ (vx_atS RX2 268 "java/lang/IndexOutOfBoundsException" ["java/lang/RuntimeException", "java/lang/Exception"]).filter goodWord)
def wsL_userOf_r1 : List Cond := [Cond.classLink RL 24 "java/lang/IndexOutOfBoundsException", Cond.methodLink RL 86 yX2_userOf, Cond.instanceMethod yX2_userOf, Cond.selects RX2 yX2_userOf yX2_userOf, Cond.initialized RX2, Cond.code yX2_userOf cX2_userOf 2 (some .int), Cond.fieldLink RX2 179 "TerminalYard$Session" "holder" "I", Cond.methodLink RX2 176 yX2_sessionAt, Cond.instanceMethod yX2_sessionAt, Cond.selects RX2 yX2_sessionAt yX2_sessionAt, Cond.code yX2_sessionAt cX2_sessionAt 2 (some (.object "TerminalYard$Session")), Cond.classLink RX2 264 "java/lang/IndexOutOfBoundsException", Cond.initialized "java/lang/IndexOutOfBoundsException", Cond.fieldLink RX2 40 "TerminalYard" "sessions" "Ljava/util/ArrayList;", Cond.classLink RX2 147 "TerminalYard$Session", Cond.methodLink RX2 67 yJx4a65c_size_8abf5, Cond.instanceMethod yJx4a65c_size_8abf5, Cond.selects RJx4a65c yJx4a65c_size_8abf5 yJx4a65c_size_8abf5, Cond.initialized RJx4a65c, Cond.code yJx4a65c_size_8abf5 cJx4a65c_size_8abf5 1 (some .int), Cond.fieldLink RJx4a65c 48 "java/util/ArrayList" "size" "I", Cond.methodLink RX2 54 yX2_isOutside, Cond.static yX2_isOutside, Cond.code yX2_isOutside cX2_isOutside 3 (some .boolean)]
def wsL_userOf_r2 : List Cond := [Cond.methodLink RX2 114 yJx4a65c_get_915e3, Cond.instanceMethod yJx4a65c_get_915e3, Cond.selects RJx4a65c yJx4a65c_get_915e3 yJx4a65c_get_915e3, Cond.code yJx4a65c_get_915e3 cJx4a65c_get_915e3 2 (some (.object "java/lang/Object")), Cond.methodLink RJx4a65c 118 yJ15_checkIndex_7cf53, Cond.static yJ15_checkIndex_7cf53, Cond.initialized RJ15, Cond.code yJ15_checkIndex_7cf53 cJ15_checkIndex_7cf53 2 (some .int), Cond.methodLink RJ15 105 yJ3_checkIndex_8e157, Cond.static yJ3_checkIndex_8e157, Cond.initialized RJ3, Cond.code yJ3_checkIndex_8e157 cJ3_checkIndex_8e157 3 (some .int), Cond.methodLink RJx4a65c 123 yJx4a65c_elementData_915e3, Cond.instanceMethod yJx4a65c_elementData_915e3, Cond.selects RJx4a65c yJx4a65c_elementData_915e3 yJx4a65c_elementData_915e3, Cond.code yJx4a65c_elementData_915e3 cJx4a65c_elementData_915e3 2 (some (.object "java/lang/Object")), Cond.fieldLink RJx4a65c 9 "java/util/ArrayList" "elementData" "[Ljava/lang/Object;"]
def wsL_userOf : List Cond := .codeWith yL_userOf cL_userOf 4 (some .int) [(0, 9, 12, 24)] :: ((wsL_userOf_r1 ++ wsL_userOf_r2) ++ wsX10 ++ wsX20 ++ wsJx4a65c0 ++ (vx_atM "java/lang/ArrayIndexOutOfBoundsException" ["java/lang/IndexOutOfBoundsException", "java/lang/RuntimeException", "java/lang/Exception"]).filter goodWord ++ (vx_atS RX2 268 "java/lang/IndexOutOfBoundsException" ["java/lang/RuntimeException", "java/lang/Exception"]).filter goodWord)
def wsL_charged_r1 : List Cond := [Cond.classLink RL 24 "java/lang/IndexOutOfBoundsException", Cond.classLink RL 13 "java/lang/IllegalArgumentException", Cond.methodLink RL 89 yX2_charged, Cond.instanceMethod yX2_charged, Cond.selects RX2 yX2_charged yX2_charged, Cond.initialized RX2, Cond.code yX2_charged cX2_charged 4 (some .int), Cond.fieldLink RX2 149 "TerminalYard$Session" "chargedFrom" "[I", Cond.methodLink RX2 176 yX2_sessionAt, Cond.instanceMethod yX2_sessionAt, Cond.selects RX2 yX2_sessionAt yX2_sessionAt, Cond.code yX2_sessionAt cX2_sessionAt 2 (some (.object "TerminalYard$Session")), Cond.classLink RX2 264 "java/lang/IndexOutOfBoundsException", Cond.initialized "java/lang/IndexOutOfBoundsException", Cond.fieldLink RX2 40 "TerminalYard" "sessions" "Ljava/util/ArrayList;", Cond.classLink RX2 147 "TerminalYard$Session", Cond.methodLink RX2 67 yJx4a65c_size_8abf5, Cond.instanceMethod yJx4a65c_size_8abf5, Cond.selects RJx4a65c yJx4a65c_size_8abf5 yJx4a65c_size_8abf5, Cond.initialized RJx4a65c, Cond.code yJx4a65c_size_8abf5 cJx4a65c_size_8abf5 1 (some .int), Cond.fieldLink RJx4a65c 48 "java/util/ArrayList" "size" "I", Cond.methodLink RX2 54 yX2_isOutside, Cond.static yX2_isOutside]
def wsL_charged_r2 : List Cond := [Cond.code yX2_isOutside cX2_isOutside 3 (some .boolean), Cond.methodLink RX2 114 yJx4a65c_get_915e3, Cond.instanceMethod yJx4a65c_get_915e3, Cond.selects RJx4a65c yJx4a65c_get_915e3 yJx4a65c_get_915e3, Cond.code yJx4a65c_get_915e3 cJx4a65c_get_915e3 2 (some (.object "java/lang/Object")), Cond.methodLink RJx4a65c 118 yJ15_checkIndex_7cf53, Cond.static yJ15_checkIndex_7cf53, Cond.initialized RJ15, Cond.code yJ15_checkIndex_7cf53 cJ15_checkIndex_7cf53 2 (some .int), Cond.methodLink RJ15 105 yJ3_checkIndex_8e157, Cond.static yJ3_checkIndex_8e157, Cond.initialized RJ3, Cond.code yJ3_checkIndex_8e157 cJ3_checkIndex_8e157 3 (some .int), Cond.methodLink RJx4a65c 123 yJx4a65c_elementData_915e3, Cond.instanceMethod yJx4a65c_elementData_915e3, Cond.selects RJx4a65c yJx4a65c_elementData_915e3 yJx4a65c_elementData_915e3, Cond.code yJx4a65c_elementData_915e3 cJx4a65c_elementData_915e3 2 (some (.object "java/lang/Object")), Cond.fieldLink RJx4a65c 9 "java/util/ArrayList" "elementData" "[Ljava/lang/Object;", Cond.methodLink RX2 125 yX2_checkDepartment, Cond.static yX2_checkDepartment, Cond.code yX2_checkDepartment cX2_checkDepartment 1 none, Cond.classLink RX2 58 "java/lang/IllegalArgumentException", Cond.initialized "java/lang/IllegalArgumentException"]
def wsL_charged : List Cond := .codeWith yL_charged cL_charged 5 (some .int) [(0, 10, 13, 24), (0, 10, 17, 13)] :: ((wsL_charged_r1 ++ wsL_charged_r2) ++ wsX10 ++ wsX20 ++ wsJx4a65c0 ++ (vx_atM "java/lang/ArrayIndexOutOfBoundsException" ["java/lang/IndexOutOfBoundsException", "java/lang/RuntimeException", "java/lang/Exception"]).filter goodWord ++ (vx_atS RX2 268 "java/lang/IndexOutOfBoundsException" ["java/lang/RuntimeException", "java/lang/Exception"]).filter goodWord ++ (vx_atS RX2 62 "java/lang/IllegalArgumentException" ["java/lang/RuntimeException", "java/lang/Exception"]).filter goodWord)
def wsL_endsIn_r1 : List Cond := [Cond.classLink RL 24 "java/lang/IndexOutOfBoundsException", Cond.classLink RL 15 "java/lang/IllegalStateException", Cond.methodLink RL 92 yX2_endsIn, Cond.instanceMethod yX2_endsIn, Cond.selects RX2 yX2_endsIn yX2_endsIn, Cond.initialized RX2, Cond.code yX2_endsIn cX2_endsIn 6 (some .int), Cond.fieldLink RX2 203 "TerminalYard$Session" "host" "LTerminalYard$Machine;", Cond.fieldLink RX2 215 "TerminalYard$Machine" "pool" "I", Cond.fieldLink RX2 173 "TerminalYard$Session" "usedLast" "I", Cond.fieldLink RX2 9 "TerminalYard" "idleLimits" "[I", Cond.fieldLink RX2 43 "TerminalYard" "now" "I", Cond.fieldLink RX2 218 "TerminalYard$Session" "began" "I", Cond.fieldLink RX2 13 "TerminalYard" "hardLimits" "[I", Cond.methodLink RX2 221 Lib.Math.min.name, Cond.static Lib.Math.min.name, Cond.initialized "java/lang/Math", Cond.code Lib.Math.min.name Lib.Math.min.code 2 (some .int), Cond.methodLink RX2 227 Lib.Math.max.name, Cond.static Lib.Math.max.name, Cond.code Lib.Math.max.name Lib.Math.max.code 2 (some .int), Cond.methodLink RX2 162 yX2_liveSessionAt, Cond.instanceMethod yX2_liveSessionAt, Cond.selects RX2 yX2_liveSessionAt yX2_liveSessionAt]
def wsL_endsIn_r2 : List Cond := [Cond.code yX2_liveSessionAt cX2_liveSessionAt 3 (some (.object "TerminalYard$Session")), Cond.methodLink RX2 176 yX2_sessionAt, Cond.instanceMethod yX2_sessionAt, Cond.selects RX2 yX2_sessionAt yX2_sessionAt, Cond.code yX2_sessionAt cX2_sessionAt 2 (some (.object "TerminalYard$Session")), Cond.classLink RX2 264 "java/lang/IndexOutOfBoundsException", Cond.initialized "java/lang/IndexOutOfBoundsException", Cond.fieldLink RX2 40 "TerminalYard" "sessions" "Ljava/util/ArrayList;", Cond.classLink RX2 147 "TerminalYard$Session", Cond.methodLink RX2 67 yJx4a65c_size_8abf5, Cond.instanceMethod yJx4a65c_size_8abf5, Cond.selects RJx4a65c yJx4a65c_size_8abf5 yJx4a65c_size_8abf5, Cond.initialized RJx4a65c, Cond.code yJx4a65c_size_8abf5 cJx4a65c_size_8abf5 1 (some .int), Cond.fieldLink RJx4a65c 48 "java/util/ArrayList" "size" "I", Cond.methodLink RX2 54 yX2_isOutside, Cond.static yX2_isOutside, Cond.code yX2_isOutside cX2_isOutside 3 (some .boolean), Cond.methodLink RX2 114 yJx4a65c_get_915e3, Cond.instanceMethod yJx4a65c_get_915e3, Cond.selects RJx4a65c yJx4a65c_get_915e3 yJx4a65c_get_915e3, Cond.code yJx4a65c_get_915e3 cJx4a65c_get_915e3 2 (some (.object "java/lang/Object")), Cond.methodLink RJx4a65c 118 yJ15_checkIndex_7cf53, Cond.static yJ15_checkIndex_7cf53]
def wsL_endsIn_r3 : List Cond := [Cond.initialized RJ15, Cond.code yJ15_checkIndex_7cf53 cJ15_checkIndex_7cf53 2 (some .int), Cond.methodLink RJ15 105 yJ3_checkIndex_8e157, Cond.static yJ3_checkIndex_8e157, Cond.initialized RJ3, Cond.code yJ3_checkIndex_8e157 cJ3_checkIndex_8e157 3 (some .int), Cond.methodLink RJx4a65c 123 yJx4a65c_elementData_915e3, Cond.instanceMethod yJx4a65c_elementData_915e3, Cond.selects RJx4a65c yJx4a65c_elementData_915e3 yJx4a65c_elementData_915e3, Cond.code yJx4a65c_elementData_915e3 cJx4a65c_elementData_915e3 2 (some (.object "java/lang/Object")), Cond.fieldLink RJx4a65c 9 "java/util/ArrayList" "elementData" "[Ljava/lang/Object;", Cond.methodLink RX2 184 yX2_checkLive, Cond.static yX2_checkLive, Cond.code yX2_checkLive cX2_checkLive 1 none, Cond.classLink RX2 71 "java/lang/IllegalStateException", Cond.initialized "java/lang/IllegalStateException", Cond.methodLink RX2 210 yX1_isLive, Cond.instanceMethod yX1_isLive, Cond.selects RX1 yX1_isLive yX1_isLive, Cond.initialized RX1, Cond.code yX1_isLive cX1_isLive 1 (some .boolean), Cond.fieldLink RX1 15 "TerminalYard$Session" "condition" "C"]
def wsL_endsIn : List Cond := .codeWith yL_endsIn cL_endsIn 4 (some .int) [(0, 9, 12, 24), (0, 9, 15, 15)] :: ((wsL_endsIn_r1 ++ (wsL_endsIn_r2 ++ wsL_endsIn_r3)) ++ wsX10 ++ wsX00 ++ wsX20 ++ wsJx4a65c0 ++ (vx_atM "java/lang/ArrayIndexOutOfBoundsException" ["java/lang/IndexOutOfBoundsException", "java/lang/RuntimeException", "java/lang/Exception"]).filter goodWord ++ (vx_atS RX2 268 "java/lang/IndexOutOfBoundsException" ["java/lang/RuntimeException", "java/lang/Exception"]).filter goodWord ++ (vx_atS RX2 75 "java/lang/IllegalStateException" ["java/lang/RuntimeException", "java/lang/Exception"]).filter goodWord)
def wsL_pass_r1 : List Cond := [Cond.classLink RL 13 "java/lang/IllegalArgumentException", Cond.methodLink RL 95 yX2_pass, Cond.instanceMethod yX2_pass, Cond.selects RX2 yX2_pass yX2_pass, Cond.initialized RX2, Cond.code yX2_pass cX2_pass 4 (some .int), Cond.classLink RX2 58 "java/lang/IllegalArgumentException", Cond.initialized "java/lang/IllegalArgumentException", Cond.fieldLink RX2 43 "TerminalYard" "now" "I", Cond.methodLink RX2 54 yX2_isOutside, Cond.static yX2_isOutside, Cond.code yX2_isOutside cX2_isOutside 3 (some .boolean), Cond.methodLink RX2 234 yX2_chargeLiveSessions, Cond.instanceMethod yX2_chargeLiveSessions, Cond.selects RX2 yX2_chargeLiveSessions yX2_chargeLiveSessions, Cond.code yX2_chargeLiveSessions cX2_chargeLiveSessions 5 (some .int), Cond.fieldLink RX2 40 "TerminalYard" "sessions" "Ljava/util/ArrayList;", Cond.classLink RX2 147 "TerminalYard$Session", Cond.methodLink RX2 67 yJx4a65c_size_8abf5, Cond.instanceMethod yJx4a65c_size_8abf5, Cond.selects RJx4a65c yJx4a65c_size_8abf5 yJx4a65c_size_8abf5, Cond.initialized RJx4a65c, Cond.code yJx4a65c_size_8abf5 cJx4a65c_size_8abf5 1 (some .int), Cond.fieldLink RJx4a65c 48 "java/util/ArrayList" "size" "I"]
def wsL_pass_r2 : List Cond := [Cond.methodLink RX2 114 yJx4a65c_get_915e3, Cond.instanceMethod yJx4a65c_get_915e3, Cond.selects RJx4a65c yJx4a65c_get_915e3 yJx4a65c_get_915e3, Cond.code yJx4a65c_get_915e3 cJx4a65c_get_915e3 2 (some (.object "java/lang/Object")), Cond.methodLink RJx4a65c 118 yJ15_checkIndex_7cf53, Cond.static yJ15_checkIndex_7cf53, Cond.initialized RJ15, Cond.code yJ15_checkIndex_7cf53 cJ15_checkIndex_7cf53 2 (some .int), Cond.methodLink RJ15 105 yJ3_checkIndex_8e157, Cond.static yJ3_checkIndex_8e157, Cond.initialized RJ3, Cond.code yJ3_checkIndex_8e157 cJ3_checkIndex_8e157 3 (some .int), Cond.methodLink RJx4a65c 123 yJx4a65c_elementData_915e3, Cond.instanceMethod yJx4a65c_elementData_915e3, Cond.selects RJx4a65c yJx4a65c_elementData_915e3 yJx4a65c_elementData_915e3, Cond.code yJx4a65c_elementData_915e3 cJx4a65c_elementData_915e3 2 (some (.object "java/lang/Object")), Cond.fieldLink RJx4a65c 9 "java/util/ArrayList" "elementData" "[Ljava/lang/Object;", Cond.methodLink RX2 210 yX1_isLive, Cond.instanceMethod yX1_isLive, Cond.selects RX1 yX1_isLive yX1_isLive, Cond.initialized RX1, Cond.code yX1_isLive cX1_isLive 1 (some .boolean), Cond.fieldLink RX1 15 "TerminalYard$Session" "condition" "C", Cond.methodLink RX2 276 yX2_afterOneMinute]
def wsL_pass_r3 : List Cond := [Cond.instanceMethod yX2_afterOneMinute, Cond.selects RX2 yX2_afterOneMinute yX2_afterOneMinute, Cond.code yX2_afterOneMinute cX2_afterOneMinute 3 (some .char), Cond.fieldLink RX2 22 "TerminalYard" "kept" "[I", Cond.fieldLink RX2 19 "TerminalYard" "departmentOf" "[I", Cond.fieldLink RX2 179 "TerminalYard$Session" "holder" "I", Cond.fieldLink RX2 203 "TerminalYard$Session" "host" "LTerminalYard$Machine;", Cond.fieldLink RX2 215 "TerminalYard$Machine" "pool" "I", Cond.fieldLink RX2 173 "TerminalYard$Session" "usedLast" "I", Cond.fieldLink RX2 9 "TerminalYard" "idleLimits" "[I", Cond.fieldLink RX2 218 "TerminalYard$Session" "began" "I", Cond.fieldLink RX2 13 "TerminalYard" "hardLimits" "[I", Cond.methodLink RX2 199 yX2_charge, Cond.instanceMethod yX2_charge, Cond.selects RX2 yX2_charge yX2_charge, Cond.code yX2_charge cX2_charge 4 none, Cond.fieldLink RX2 149 "TerminalYard$Session" "chargedFrom" "[I", Cond.methodLink RX2 166 yX2_end, Cond.instanceMethod yX2_end, Cond.selects RX2 yX2_end yX2_end, Cond.code yX2_end cX2_end 3 none, Cond.fieldLink RX2 214 "TerminalYard$Session" "condition" "C", Cond.fieldLink RX2 100 "TerminalYard$Machine" "live" "I", Cond.methodLink RX2 97 yX0_repairWhenEmpty]
def wsL_pass_r4 : List Cond := [Cond.instanceMethod yX0_repairWhenEmpty, Cond.selects RX0 yX0_repairWhenEmpty yX0_repairWhenEmpty, Cond.initialized RX0, Cond.code yX0_repairWhenEmpty cX0_repairWhenEmpty 1 none, Cond.fieldLink RX0 9 "TerminalYard$Machine" "condition" "C", Cond.fieldLink RX0 15 "TerminalYard$Machine" "live" "I"]
def wsL_pass : List Cond := .codeWith yL_pass cL_pass 4 (some .int) [(0, 9, 12, 13)] :: ((wsL_pass_r1 ++ (wsL_pass_r2 ++ (wsL_pass_r3 ++ wsL_pass_r4))) ++ wsX20 ++ wsJx4a65c0 ++ wsX10 ++ wsX00 ++ (vx_atM "java/lang/ArrayIndexOutOfBoundsException" ["java/lang/IndexOutOfBoundsException", "java/lang/RuntimeException", "java/lang/Exception"]).filter goodWord ++ (vx_atS RX2 62 "java/lang/IllegalArgumentException" ["java/lang/RuntimeException", "java/lang/Exception"]).filter goodWord)
def wsL_pageShare_r1 : List Cond := [Cond.classLink RL 102 "java/lang/ArithmeticException", Cond.methodLink RL 98 yX2_pageShare, Cond.instanceMethod yX2_pageShare, Cond.selects RX2 yX2_pageShare yX2_pageShare, Cond.initialized RX2, Cond.code yX2_pageShare cX2_pageShare 2 (some .float), Cond.classLink RX2 240 "java/lang/ArithmeticException", Cond.initialized "java/lang/ArithmeticException", Cond.fieldLink RX2 47 "TerminalYard" "chargedForPages" "I", Cond.methodLink RX2 237 yX2_chargedToAllSessions, Cond.instanceMethod yX2_chargedToAllSessions, Cond.selects RX2 yX2_chargedToAllSessions yX2_chargedToAllSessions, Cond.code yX2_chargedToAllSessions cX2_chargedToAllSessions 3 (some .int), Cond.fieldLink RX2 40 "TerminalYard" "sessions" "Ljava/util/ArrayList;", Cond.classLink RX2 147 "TerminalYard$Session", Cond.methodLink RX2 67 yJx4a65c_size_8abf5, Cond.instanceMethod yJx4a65c_size_8abf5, Cond.selects RJx4a65c yJx4a65c_size_8abf5 yJx4a65c_size_8abf5, Cond.initialized RJx4a65c, Cond.code yJx4a65c_size_8abf5 cJx4a65c_size_8abf5 1 (some .int), Cond.fieldLink RJx4a65c 48 "java/util/ArrayList" "size" "I", Cond.methodLink RX2 114 yJx4a65c_get_915e3, Cond.instanceMethod yJx4a65c_get_915e3, Cond.selects RJx4a65c yJx4a65c_get_915e3 yJx4a65c_get_915e3]
def wsL_pageShare_r2 : List Cond := [Cond.code yJx4a65c_get_915e3 cJx4a65c_get_915e3 2 (some (.object "java/lang/Object")), Cond.methodLink RJx4a65c 118 yJ15_checkIndex_7cf53, Cond.static yJ15_checkIndex_7cf53, Cond.initialized RJ15, Cond.code yJ15_checkIndex_7cf53 cJ15_checkIndex_7cf53 2 (some .int), Cond.methodLink RJ15 105 yJ3_checkIndex_8e157, Cond.static yJ3_checkIndex_8e157, Cond.initialized RJ3, Cond.code yJ3_checkIndex_8e157 cJ3_checkIndex_8e157 3 (some .int), Cond.methodLink RJx4a65c 123 yJx4a65c_elementData_915e3, Cond.instanceMethod yJx4a65c_elementData_915e3, Cond.selects RJx4a65c yJx4a65c_elementData_915e3 yJx4a65c_elementData_915e3, Cond.code yJx4a65c_elementData_915e3 cJx4a65c_elementData_915e3 2 (some (.object "java/lang/Object")), Cond.fieldLink RJx4a65c 9 "java/util/ArrayList" "elementData" "[Ljava/lang/Object;", Cond.methodLink RX2 170 yX1_chargedInAll, Cond.instanceMethod yX1_chargedInAll, Cond.selects RX1 yX1_chargedInAll yX1_chargedInAll, Cond.initialized RX1, Cond.code yX1_chargedInAll cX1_chargedInAll 3 (some .int), Cond.fieldLink RX1 9 "TerminalYard$Session" "chargedFrom" "[I"]
def wsL_pageShare : List Cond := .codeWith yL_pageShare cL_pageShare 3 (some .int) [(0, 8, 11, 102)] :: ((wsL_pageShare_r1 ++ wsL_pageShare_r2) ++ wsX20 ++ wsJx4a65c0 ++ wsX10 ++ (vx_atM "java/lang/ArrayIndexOutOfBoundsException" ["java/lang/IndexOutOfBoundsException", "java/lang/RuntimeException", "java/lang/Exception"]).filter goodWord ++ (vx_atS RX2 244 "java/lang/ArithmeticException" ["java/lang/RuntimeException", "java/lang/Exception"]).filter goodWord)
def wsL_meanCharge_r1 : List Cond := [Cond.classLink RL 102 "java/lang/ArithmeticException", Cond.methodLink RL 104 yX2_meanCharge, Cond.instanceMethod yX2_meanCharge, Cond.selects RX2 yX2_meanCharge yX2_meanCharge, Cond.initialized RX2, Cond.code yX2_meanCharge cX2_meanCharge 2 (some .double), Cond.classLink RX2 240 "java/lang/ArithmeticException", Cond.initialized "java/lang/ArithmeticException", Cond.fieldLink RX2 40 "TerminalYard" "sessions" "Ljava/util/ArrayList;", Cond.methodLink RX2 67 yJx4a65c_size_8abf5, Cond.instanceMethod yJx4a65c_size_8abf5, Cond.selects RJx4a65c yJx4a65c_size_8abf5 yJx4a65c_size_8abf5, Cond.initialized RJx4a65c, Cond.code yJx4a65c_size_8abf5 cJx4a65c_size_8abf5 1 (some .int), Cond.fieldLink RJx4a65c 48 "java/util/ArrayList" "size" "I", Cond.methodLink RX2 237 yX2_chargedToAllSessions, Cond.instanceMethod yX2_chargedToAllSessions, Cond.selects RX2 yX2_chargedToAllSessions yX2_chargedToAllSessions, Cond.code yX2_chargedToAllSessions cX2_chargedToAllSessions 3 (some .int), Cond.classLink RX2 147 "TerminalYard$Session", Cond.methodLink RX2 114 yJx4a65c_get_915e3, Cond.instanceMethod yJx4a65c_get_915e3, Cond.selects RJx4a65c yJx4a65c_get_915e3 yJx4a65c_get_915e3, Cond.code yJx4a65c_get_915e3 cJx4a65c_get_915e3 2 (some (.object "java/lang/Object"))]
def wsL_meanCharge_r2 : List Cond := [Cond.methodLink RJx4a65c 118 yJ15_checkIndex_7cf53, Cond.static yJ15_checkIndex_7cf53, Cond.initialized RJ15, Cond.code yJ15_checkIndex_7cf53 cJ15_checkIndex_7cf53 2 (some .int), Cond.methodLink RJ15 105 yJ3_checkIndex_8e157, Cond.static yJ3_checkIndex_8e157, Cond.initialized RJ3, Cond.code yJ3_checkIndex_8e157 cJ3_checkIndex_8e157 3 (some .int), Cond.methodLink RJx4a65c 123 yJx4a65c_elementData_915e3, Cond.instanceMethod yJx4a65c_elementData_915e3, Cond.selects RJx4a65c yJx4a65c_elementData_915e3 yJx4a65c_elementData_915e3, Cond.code yJx4a65c_elementData_915e3 cJx4a65c_elementData_915e3 2 (some (.object "java/lang/Object")), Cond.fieldLink RJx4a65c 9 "java/util/ArrayList" "elementData" "[Ljava/lang/Object;", Cond.methodLink RX2 170 yX1_chargedInAll, Cond.instanceMethod yX1_chargedInAll, Cond.selects RX1 yX1_chargedInAll yX1_chargedInAll, Cond.initialized RX1, Cond.code yX1_chargedInAll cX1_chargedInAll 3 (some .int), Cond.fieldLink RX1 9 "TerminalYard$Session" "chargedFrom" "[I"]
def wsL_meanCharge : List Cond := .codeWith yL_meanCharge cL_meanCharge 3 (some .int) [(0, 7, 10, 102)] :: ((wsL_meanCharge_r1 ++ wsL_meanCharge_r2) ++ wsX20 ++ wsJx4a65c0 ++ wsX10 ++ (vx_atM "java/lang/ArrayIndexOutOfBoundsException" ["java/lang/IndexOutOfBoundsException", "java/lang/RuntimeException", "java/lang/Exception"]).filter goodWord ++ (vx_atS RX2 244 "java/lang/ArithmeticException" ["java/lang/RuntimeException", "java/lang/Exception"]).filter goodWord)
def wsL_law0_r1 : List Cond := [Cond.classLink RL 8 RX2, Cond.instantiable RX2 11, Cond.initialized RX2, Cond.classLink RL 109 RX3, Cond.instantiable RX3 23, Cond.initialized RX3, Cond.arrayClass .long, Cond.arrayClass .double, Cond.methodLink RL 108 yX2_init, Cond.instanceMethod yX2_init, Cond.code yX2_init cX2_init 2 none, Cond.methodLink RX2 1 objectInit, Cond.instanceMethod objectInit, Cond.code objectInit ⟨#[0xb1]⟩ 1 none, Cond.arrayClass .int, Cond.fieldLink RX2 9 "TerminalYard" "idleLimits" "[I", Cond.fieldLink RX2 13 "TerminalYard" "hardLimits" "[I", Cond.fieldLink RX2 16 "TerminalYard" "pagesInRoom" "[I", Cond.fieldLink RX2 19 "TerminalYard" "departmentOf" "[I", Cond.fieldLink RX2 22 "TerminalYard" "kept" "[I", Cond.fieldLink RX2 25 "TerminalYard" "bought" "[I", Cond.classLink RX2 28 "[[I", Cond.fieldLink RX2 30 "TerminalYard" "owed" "[[I", Cond.classLink RX2 33 RJx4a65c]
def wsL_law0_r2 : List Cond := [Cond.instantiable RJx4a65c 3, Cond.initialized RJx4a65c, Cond.fieldLink RX2 36 "TerminalYard" "machines" "Ljava/util/ArrayList;", Cond.fieldLink RX2 40 "TerminalYard" "sessions" "Ljava/util/ArrayList;", Cond.fieldLink RX2 43 "TerminalYard" "now" "I", Cond.fieldLink RX2 47 "TerminalYard" "chargedForPages" "I", Cond.methodLink RX2 35 yJx4a65c_init_da8c8, Cond.instanceMethod yJx4a65c_init_da8c8, Cond.code yJx4a65c_init_da8c8 cJx4a65c_init_da8c8 1 none, Cond.fieldLink RJx4a65c 39 "java/util/ArrayList" "DEFAULTCAPACITY_EMPTY_ELEMENTDATA" "[Ljava/lang/Object;", Cond.fieldLink RJx4a65c 9 "java/util/ArrayList" "elementData" "[Ljava/lang/Object;", Cond.methodLink RJx4a65c 1 yJxc12de_init_da8c8, Cond.instanceMethod yJxc12de_init_da8c8, Cond.initialized RJxc12de, Cond.code yJxc12de_init_da8c8 cJxc12de_init_da8c8 1 none, Cond.fieldLink RJxc12de 7 "java/util/AbstractList" "modCount" "I", Cond.methodLink RJxc12de 1 yJxa1e45_init_da8c8, Cond.instanceMethod yJxa1e45_init_da8c8, Cond.initialized RJxa1e45, Cond.code yJxa1e45_init_da8c8 cJxa1e45_init_da8c8 1 none, Cond.methodLink RJxa1e45 1 objectInit, Cond.methodLink RL 111 yX3_init, Cond.instanceMethod yX3_init, Cond.code yX3_init cX3_init 1 none]
def wsL_law0_r3 : List Cond := [Cond.methodLink RX3 1 objectInit, Cond.fieldLink RX3 7 "TerminalYardModel" "idle" "[I", Cond.fieldLink RX3 13 "TerminalYardModel" "hard" "[I", Cond.fieldLink RX3 16 "TerminalYardModel" "pool" "[I", Cond.fieldLink RX3 19 "TerminalYardModel" "room" "[I", Cond.fieldLink RX3 22 "TerminalYardModel" "seats" "[I", Cond.arrayClass .char, Cond.fieldLink RX3 25 "TerminalYardModel" "how" "[C", Cond.fieldLink RX3 29 "TerminalYardModel" "minutes" "[I", Cond.fieldLink RX3 32 "TerminalYardModel" "owes" "[I", Cond.fieldLink RX3 35 "TerminalYardModel" "departmentOf" "[I", Cond.fieldLink RX3 38 "TerminalYardModel" "owner" "[I", Cond.fieldLink RX3 41 "TerminalYardModel" "user" "[I", Cond.fieldLink RX3 44 "TerminalYardModel" "machineOf" "[I", Cond.fieldLink RX3 47 "TerminalYardModel" "began" "[I", Cond.fieldLink RX3 50 "TerminalYardModel" "used" "[I", Cond.fieldLink RX3 53 "TerminalYardModel" "charged" "[I", Cond.fieldLink RX3 56 "TerminalYardModel" "ended" "[C", Cond.fieldLink RX3 59 "TerminalYardModel" "printed" "[I", Cond.methodLink RL 112 yL_addMachine, Cond.static yL_addMachine, Cond.initialized RL, Cond.codeWith yL_addMachine cL_addMachine 6 (some .int) [(0, 12, 15, 13), (0, 12, 19, 15)], Cond.classLink RL 13 "java/lang/IllegalArgumentException"]
def wsL_law0_r4 : List Cond := [Cond.classLink RL 15 "java/lang/IllegalStateException", Cond.methodLink RL 7 yX2_addMachine, Cond.instanceMethod yX2_addMachine, Cond.selects RX2 yX2_addMachine yX2_addMachine, Cond.code yX2_addMachine cX2_addMachine 5 (some .int), Cond.classLink RX2 58 "java/lang/IllegalArgumentException", Cond.initialized "java/lang/IllegalArgumentException", Cond.classLink RX2 71 "java/lang/IllegalStateException", Cond.initialized "java/lang/IllegalStateException", Cond.classLink RX2 76 RX0, Cond.instantiable RX0 6, Cond.initialized RX0, Cond.methodLink RX2 50 yX2_checkPool, Cond.static yX2_checkPool, Cond.code yX2_checkPool cX2_checkPool 1 none, Cond.methodLink RX2 54 yX2_isOutside, Cond.static yX2_isOutside, Cond.code yX2_isOutside cX2_isOutside 3 (some .boolean), Cond.methodLink RX2 67 yJx4a65c_size_8abf5, Cond.instanceMethod yJx4a65c_size_8abf5, Cond.selects RJx4a65c yJx4a65c_size_8abf5 yJx4a65c_size_8abf5, Cond.code yJx4a65c_size_8abf5 cJx4a65c_size_8abf5 1 (some .int), Cond.fieldLink RJx4a65c 48 "java/util/ArrayList" "size" "I", Cond.methodLink RX2 78 yX0_init]
def wsL_law0_r5 : List Cond := [Cond.instanceMethod yX0_init, Cond.code yX0_init cX0_init 5 none, Cond.methodLink RX0 3 objectInit, Cond.fieldLink RX0 9 "TerminalYard$Machine" "condition" "C", Cond.fieldLink RX0 15 "TerminalYard$Machine" "live" "I", Cond.fieldLink RX0 19 "TerminalYard$Machine" "number" "I", Cond.fieldLink RX0 22 "TerminalYard$Machine" "pool" "I", Cond.fieldLink RX0 25 "TerminalYard$Machine" "room" "I", Cond.fieldLink RX0 28 "TerminalYard$Machine" "seats" "I", Cond.methodLink RX2 81 yJx4a65c_add_9ea2d, Cond.instanceMethod yJx4a65c_add_9ea2d, Cond.selects RJx4a65c yJx4a65c_add_9ea2d yJx4a65c_add_9ea2d, Cond.code yJx4a65c_add_9ea2d cJx4a65c_add_9ea2d 2 (some .boolean), Cond.fieldLink RJx4a65c 63 "java/util/ArrayList" "modCount" "I", Cond.sameField "java/util/ArrayList" "java/util/AbstractList" "modCount" "I", Cond.methodLink RJx4a65c 131 yJx4a65c_add_72be8, Cond.instanceMethod yJx4a65c_add_72be8, Cond.selects RJx4a65c yJx4a65c_add_72be8 yJx4a65c_add_72be8, Cond.code yJx4a65c_add_72be8 cJx4a65c_add_72be8 4 none, Cond.methodLink RJx4a65c 129 yJx4a65c_grow_d5877, Cond.instanceMethod yJx4a65c_grow_d5877, Cond.selects RJx4a65c yJx4a65c_grow_d5877 yJx4a65c_grow_d5877, Cond.code yJx4a65c_grow_d5877 cJx4a65c_grow_d5877 1 (some (.array (.object "java/lang/Object"))), Cond.methodLink RJx4a65c 69 yJx4a65c_grow_92f84]
def wsL_law0_r6 : List Cond := [Cond.instanceMethod yJx4a65c_grow_92f84, Cond.selects RJx4a65c yJx4a65c_grow_92f84 yJx4a65c_grow_92f84, Cond.code yJx4a65c_grow_92f84 cJx4a65c_grow_92f84 4 (some (.array (.object "java/lang/Object"))), Cond.methodLink RJx4a65c 79 Lib.Math.max.name, Cond.static Lib.Math.max.name, Cond.initialized "java/lang/Math", Cond.code Lib.Math.max.name Lib.Math.max.code 2 (some .int), Cond.classLink RJx4a65c 7 "java/lang/Object", Cond.methodLink RJx4a65c 73 yJ8_newLength_cabcc, Cond.static yJ8_newLength_cabcc, Cond.initialized RJ8, Cond.code yJ8_newLength_cabcc cJ8_newLength_cabcc 4 (some .int), Cond.methodLink RJ8 194 Lib.Math.max.name, Cond.constant RJ8 200 (2147483639), Cond.methodLink RJ8 201 yJ8_hugeLength_7cf53, Cond.static yJ8_hugeLength_7cf53, Cond.code yJ8_hugeLength_7cf53 cJ8_hugeLength_7cf53 3 (some .int), Cond.methodLink RJx4a65c 66 yJ7_copyOf_1904c, Cond.static yJ7_copyOf_1904c, Cond.initialized RJ7, Cond.code yJ7_copyOf_1904c cJ7_copyOf_1904c 2 (some (.array (.object "java/lang/Object"))), Cond.methodLink RJ7 86 ⟨"java/lang/Object", "getClass", "()Ljava/lang/Class;"⟩, Cond.selects "[Ljava/lang/Object;" ⟨"java/lang/Object", "getClass", "()Ljava/lang/Class;"⟩ ⟨"java/lang/Object", "getClass", "()Ljava/lang/Class;"⟩, Cond.instanceMethod ⟨"java/lang/Object", "getClass", "()Ljava/lang/Class;"⟩]
def wsL_law0_r7 : List Cond := [Cond.native ⟨"java/lang/Object", "getClass", "()Ljava/lang/Class;"⟩, Cond.methodLink RJ7 300 yJ7_copyOf_6403c, Cond.static yJ7_copyOf_6403c, Cond.code yJ7_copyOf_6403c cJ7_copyOf_6403c 4 (some (.array (.object "java/lang/Object"))), Cond.classLink RJ7 110 "[Ljava/lang/Object;", Cond.classLink RJ7 2 "java/lang/Object", Cond.methodLink RJ7 304 Lib.Math.min.name, Cond.static Lib.Math.min.name, Cond.code Lib.Math.min.name Lib.Math.min.code 2 (some .int), Cond.methodLink RJ7 150 arraycopyName, Cond.native arraycopyName, Cond.static arraycopyName, Cond.initialized "java/lang/System", Cond.methodLink RL 117 yX3_addMachine, Cond.instanceMethod yX3_addMachine, Cond.selects RX3 yX3_addMachine yX3_addMachine, Cond.code yX3_addMachine cX3_addMachine 4 (some .int), Cond.fieldLink RX3 70 "TerminalYardModel" "machines" "I", Cond.methodLink RX3 80 yX3_isPool, Cond.static yX3_isPool, Cond.code yX3_isPool cX3_isPool 1 (some .boolean), Cond.methodLink RX3 66 yX3_in, Cond.static yX3_in, Cond.code yX3_in cX3_in 3 (some .boolean)]
def wsL_law0_r8 : List Cond := [Cond.methodLink RX3 83 yX3_goesOn, Cond.instanceMethod yX3_goesOn, Cond.selects RX3 yX3_goesOn yX3_goesOn, Cond.code yX3_goesOn cX3_goesOn 2 (some .boolean), Cond.fieldLink RX3 62 "TerminalYardModel" "thrown" "I", Cond.methodLink RL 118 yX3_thrown, Cond.instanceMethod yX3_thrown, Cond.selects RX3 yX3_thrown yX3_thrown, Cond.code yX3_thrown cX3_thrown 1 (some .int), Cond.methodLink RL 122 yL_setLimits, Cond.static yL_setLimits, Cond.codeWith yL_setLimits cL_setLimits 6 (some .int) [(0, 12, 15, 13)], Cond.methodLink RL 17 yX2_setLimits, Cond.instanceMethod yX2_setLimits, Cond.selects RX2 yX2_setLimits yX2_setLimits, Cond.code yX2_setLimits cX2_setLimits 5 (some .int), Cond.methodLink RL 124 yX3_setLimits, Cond.instanceMethod yX3_setLimits, Cond.selects RX3 yX3_setLimits yX3_setLimits, Cond.code yX3_setLimits cX3_setLimits 5 (some .int), Cond.methodLink RL 125 yL_drain, Cond.static yL_drain, Cond.codeWith yL_drain cL_drain 4 (some .int) [(0, 9, 12, 24), (0, 9, 15, 15)], Cond.classLink RL 24 "java/lang/IndexOutOfBoundsException"]
def wsL_law0_r9 : List Cond := [Cond.methodLink RL 20 yX2_drain, Cond.instanceMethod yX2_drain, Cond.selects RX2 yX2_drain yX2_drain, Cond.code yX2_drain cX2_drain 3 (some .int), Cond.fieldLink RX2 91 "TerminalYard$Machine" "condition" "C", Cond.fieldLink RX2 100 "TerminalYard$Machine" "live" "I", Cond.methodLink RX2 87 yX2_machineAt, Cond.instanceMethod yX2_machineAt, Cond.selects RX2 yX2_machineAt yX2_machineAt, Cond.code yX2_machineAt cX2_machineAt 2 (some (.object "TerminalYard$Machine")), Cond.classLink RX2 264 "java/lang/IndexOutOfBoundsException", Cond.initialized "java/lang/IndexOutOfBoundsException", Cond.classLink RX2 76 "TerminalYard$Machine", Cond.methodLink RX2 114 yJx4a65c_get_915e3, Cond.instanceMethod yJx4a65c_get_915e3, Cond.selects RJx4a65c yJx4a65c_get_915e3 yJx4a65c_get_915e3, Cond.code yJx4a65c_get_915e3 cJx4a65c_get_915e3 2 (some (.object "java/lang/Object")), Cond.methodLink RJx4a65c 118 yJ15_checkIndex_7cf53, Cond.static yJ15_checkIndex_7cf53, Cond.initialized RJ15, Cond.code yJ15_checkIndex_7cf53 cJ15_checkIndex_7cf53 2 (some .int), Cond.methodLink RJ15 105 yJ3_checkIndex_8e157, Cond.static yJ3_checkIndex_8e157, Cond.initialized RJ3]
def wsL_law0_r10 : List Cond := [Cond.code yJ3_checkIndex_8e157 cJ3_checkIndex_8e157 3 (some .int), Cond.methodLink RJx4a65c 123 yJx4a65c_elementData_915e3, Cond.instanceMethod yJx4a65c_elementData_915e3, Cond.selects RJx4a65c yJx4a65c_elementData_915e3 yJx4a65c_elementData_915e3, Cond.code yJx4a65c_elementData_915e3 cJx4a65c_elementData_915e3 2 (some (.object "java/lang/Object")), Cond.methodLink RX2 97 yX0_repairWhenEmpty, Cond.instanceMethod yX0_repairWhenEmpty, Cond.selects RX0 yX0_repairWhenEmpty yX0_repairWhenEmpty, Cond.code yX0_repairWhenEmpty cX0_repairWhenEmpty 1 none, Cond.methodLink RL 128 yX3_drain, Cond.instanceMethod yX3_drain, Cond.selects RX3 yX3_drain yX3_drain, Cond.code yX3_drain cX3_drain 2 (some .int), Cond.methodLink RX3 90 yX3_isMachine, Cond.instanceMethod yX3_isMachine, Cond.selects RX3 yX3_isMachine yX3_isMachine, Cond.code yX3_isMachine cX3_isMachine 2 (some .boolean), Cond.methodLink RX3 93 yX3_empties, Cond.instanceMethod yX3_empties, Cond.selects RX3 yX3_empties yX3_empties, Cond.code yX3_empties cX3_empties 2 none, Cond.methodLink RX3 86 yX3_liveOn, Cond.instanceMethod yX3_liveOn, Cond.selects RX3 yX3_liveOn yX3_liveOn]
def wsL_law0_r11 : List Cond := [Cond.code yX3_liveOn cX3_liveOn 4 (some .int), Cond.fieldLink RX3 73 "TerminalYardModel" "sessions" "I", Cond.methodLink RX3 76 yX3_isLive, Cond.instanceMethod yX3_isLive, Cond.selects RX3 yX3_isLive yX3_isLive, Cond.code yX3_isLive cX3_isLive 2 (some .boolean), Cond.methodLink RL 129 yL_putUp, Cond.static yL_putUp, Cond.codeWith yL_putUp cL_putUp 4 (some .int) [(0, 9, 12, 24), (0, 9, 15, 15)], Cond.methodLink RL 26 yX2_putUp, Cond.instanceMethod yX2_putUp, Cond.selects RX2 yX2_putUp yX2_putUp, Cond.code yX2_putUp cX2_putUp 3 (some .int), Cond.methodLink RX2 105 yX0_freeSeats, Cond.instanceMethod yX0_freeSeats, Cond.selects RX0 yX0_freeSeats yX0_freeSeats, Cond.code yX0_freeSeats cX0_freeSeats 1 (some .int), Cond.methodLink RL 131 yX3_putUp, Cond.instanceMethod yX3_putUp, Cond.selects RX3 yX3_putUp yX3_putUp, Cond.code yX3_putUp cX3_putUp 2 (some .int), Cond.methodLink RL 132 yL_machine, Cond.static yL_machine, Cond.codeWith yL_machine cL_machine 4 (some .int) [(0, 9, 12, 24)]]
def wsL_law0_r12 : List Cond := [Cond.methodLink RL 29 yX2_machine, Cond.instanceMethod yX2_machine, Cond.selects RX2 yX2_machine yX2_machine, Cond.code yX2_machine cX2_machine 2 (some .char), Cond.methodLink RL 134 yX3_machine, Cond.instanceMethod yX3_machine, Cond.selects RX3 yX3_machine yX3_machine, Cond.code yX3_machine cX3_machine 2 (some .char), Cond.methodLink RL 135 yL_next, Cond.static yL_next, Cond.codeWith yL_next cL_next 4 (some .int) [(0, 9, 12, 13), (0, 9, 15, 36)], Cond.classLink RL 36 "java/util/NoSuchElementException", Cond.methodLink RL 33 yX2_next, Cond.instanceMethod yX2_next, Cond.selects RX2 yX2_next yX2_next, Cond.code yX2_next cX2_next 2 (some .int), Cond.fieldLink RX2 111 "TerminalYard$Machine" "number" "I", Cond.methodLink RX2 108 yX2_emptiestMachine, Cond.instanceMethod yX2_emptiestMachine, Cond.selects RX2 yX2_emptiestMachine yX2_emptiestMachine, Cond.code yX2_emptiestMachine cX2_emptiestMachine 5 (some (.object "TerminalYard$Machine")), Cond.classLink RX2 271 "java/util/NoSuchElementException", Cond.initialized "java/util/NoSuchElementException", Cond.methodLink RX2 118 yX0_serves]
def wsL_law0_r13 : List Cond := [Cond.instanceMethod yX0_serves, Cond.selects RX0 yX0_serves yX0_serves, Cond.code yX0_serves cX0_serves 2 (some .boolean), Cond.methodLink RL 137 yX3_next, Cond.instanceMethod yX3_next, Cond.selects RX3 yX3_next yX3_next, Cond.code yX3_next cX3_next 3 (some .int), Cond.methodLink RX3 96 yX3_nextIn, Cond.instanceMethod yX3_nextIn, Cond.selects RX3 yX3_nextIn yX3_nextIn, Cond.code yX3_nextIn cX3_nextIn 5 (some .int), Cond.methodLink RL 138 yL_free, Cond.static yL_free, Cond.codeWith yL_free cL_free 4 (some .int) [(0, 9, 12, 13)], Cond.methodLink RL 38 yX2_free, Cond.instanceMethod yX2_free, Cond.selects RX2 yX2_free yX2_free, Cond.code yX2_free cX2_free 5 (some .int), Cond.methodLink RL 140 yX3_free, Cond.instanceMethod yX3_free, Cond.selects RX3 yX3_free yX3_free, Cond.code yX3_free cX3_free 4 (some .int), Cond.methodLink RL 141 yL_assign, Cond.static yL_assign]
def wsL_law0_r14 : List Cond := [Cond.codeWith yL_assign cL_assign 5 (some .int) [(0, 10, 13, 13)], Cond.methodLink RL 41 yX2_assign, Cond.instanceMethod yX2_assign, Cond.selects RX2 yX2_assign yX2_assign, Cond.code yX2_assign cX2_assign 4 (some .int), Cond.methodLink RX2 122 yX2_checkUser, Cond.static yX2_checkUser, Cond.code yX2_checkUser cX2_checkUser 1 none, Cond.methodLink RX2 125 yX2_checkDepartment, Cond.static yX2_checkDepartment, Cond.code yX2_checkDepartment cX2_checkDepartment 1 none, Cond.methodLink RL 144 yX3_assign, Cond.instanceMethod yX3_assign, Cond.selects RX3 yX3_assign yX3_assign, Cond.code yX3_assign cX3_assign 4 (some .int), Cond.methodLink RX3 99 yX3_isUser, Cond.static yX3_isUser, Cond.code yX3_isUser cX3_isUser 1 (some .boolean), Cond.methodLink RX3 102 yX3_isDepartment, Cond.static yX3_isDepartment, Cond.code yX3_isDepartment cX3_isDepartment 1 (some .boolean), Cond.methodLink RL 145 yL_buy, Cond.static yL_buy, Cond.codeWith yL_buy cL_buy 5 (some .int) [(0, 10, 13, 13), (0, 10, 17, 15)]]
def wsL_law0_r15 : List Cond := [Cond.methodLink RL 45 yX2_buy, Cond.instanceMethod yX2_buy, Cond.selects RX2 yX2_buy yX2_buy, Cond.code yX2_buy cX2_buy 3 (some .int), Cond.constant RX2 131 (99999), Cond.methodLink RX2 128 yX2_checkTrade, Cond.static yX2_checkTrade, Cond.code yX2_checkTrade cX2_checkTrade 1 none, Cond.methodLink RL 147 yX3_buy, Cond.instanceMethod yX3_buy, Cond.selects RX3 yX3_buy yX3_buy, Cond.code yX3_buy cX3_buy 3 (some .int), Cond.constant RX3 105 (99999), Cond.methodLink RL 148 yL_lend, Cond.static yL_lend, Cond.codeWith yL_lend cL_lend 6 (some .int) [(0, 12, 15, 13), (0, 12, 19, 51)], Cond.classLink RL 51 "java/lang/UnsupportedOperationException", Cond.methodLink RL 48 yX2_lend, Cond.instanceMethod yX2_lend, Cond.selects RX2 yX2_lend yX2_lend, Cond.code yX2_lend cX2_lend 4 (some .int), Cond.methodLink RX2 134 yX2_checkPair, Cond.static yX2_checkPair, Cond.code yX2_checkPair cX2_checkPair 2 none]
def wsL_law0_r16 : List Cond := [Cond.methodLink RX2 138 yX2_checkStock, Cond.instanceMethod yX2_checkStock, Cond.selects RX2 yX2_checkStock yX2_checkStock, Cond.code yX2_checkStock cX2_checkStock 3 none, Cond.classLink RX2 257 "java/lang/UnsupportedOperationException", Cond.initialized "java/lang/UnsupportedOperationException", Cond.methodLink RX2 141 yX2_move, Cond.instanceMethod yX2_move, Cond.selects RX2 yX2_move yX2_move, Cond.code yX2_move cX2_move 4 none, Cond.methodLink RL 150 yX3_lend, Cond.instanceMethod yX3_lend, Cond.selects RX3 yX3_lend yX3_lend, Cond.code yX3_lend cX3_lend 4 (some .int), Cond.methodLink RX3 106 yX3_areTwo, Cond.static yX3_areTwo, Cond.code yX3_areTwo cX3_areTwo 3 (some .boolean), Cond.methodLink RL 151 yL_giveBack, Cond.static yL_giveBack, Cond.codeWith yL_giveBack cL_giveBack 6 (some .int) [(0, 12, 15, 13), (0, 12, 19, 15), (0, 12, 23, 51)], Cond.methodLink RL 53 yX2_giveBack, Cond.instanceMethod yX2_giveBack, Cond.selects RX2 yX2_giveBack yX2_giveBack, Cond.code yX2_giveBack cX2_giveBack 4 (some .int)]
def wsL_law0_r17 : List Cond := [Cond.methodLink RL 153 yX3_giveBack, Cond.instanceMethod yX3_giveBack, Cond.selects RX3 yX3_giveBack yX3_giveBack, Cond.code yX3_giveBack cX3_giveBack 5 (some .int), Cond.methodLink RL 154 yL_minutes, Cond.static yL_minutes, Cond.codeWith yL_minutes cL_minutes 4 (some .int) [(0, 9, 12, 13)], Cond.methodLink RL 56 yX2_minutes, Cond.instanceMethod yX2_minutes, Cond.selects RX2 yX2_minutes yX2_minutes, Cond.code yX2_minutes cX2_minutes 2 (some .int), Cond.methodLink RL 156 yX3_minutes, Cond.instanceMethod yX3_minutes, Cond.selects RX3 yX3_minutes yX3_minutes, Cond.code yX3_minutes cX3_minutes 2 (some .int), Cond.methodLink RL 157 yL_minutesBySessions, Cond.static yL_minutesBySessions, Cond.codeWith yL_minutesBySessions cL_minutesBySessions 4 (some .int) [(0, 9, 12, 13)], Cond.methodLink RL 59 yX2_minutesBySessions, Cond.instanceMethod yX2_minutesBySessions, Cond.selects RX2 yX2_minutesBySessions yX2_minutesBySessions, Cond.code yX2_minutesBySessions cX2_minutesBySessions 4 (some .int), Cond.classLink RX2 147 "TerminalYard$Session", Cond.fieldLink RX2 149 "TerminalYard$Session" "chargedFrom" "[I"]
def wsL_law0_r18 : List Cond := [Cond.methodLink RL 159 yX3_minutesBySessions, Cond.instanceMethod yX3_minutesBySessions, Cond.selects RX3 yX3_minutesBySessions yX3_minutesBySessions, Cond.code yX3_minutesBySessions cX3_minutesBySessions 2 (some .int), Cond.methodLink RX3 109 yX3_minutes, Cond.methodLink RL 160 yL_logIn, Cond.static yL_logIn, Cond.codeWith yL_logIn cL_logIn 5 (some .int) [(0, 10, 13, 13), (0, 10, 17, 15), (0, 10, 21, 51), (0, 10, 25, 36)], Cond.methodLink RL 62 yX2_logIn, Cond.instanceMethod yX2_logIn, Cond.selects RX2 yX2_logIn yX2_logIn, Cond.code yX2_logIn cX2_logIn 5 (some .int), Cond.classLink RX2 147 RX1, Cond.instantiable RX1 7, Cond.initialized RX1, Cond.methodLink RX2 152 yX2_ownsLiveSession, Cond.instanceMethod yX2_ownsLiveSession, Cond.selects RX2 yX2_ownsLiveSession yX2_ownsLiveSession, Cond.code yX2_ownsLiveSession cX2_ownsLiveSession 4 (some .boolean), Cond.fieldLink RX2 192 "TerminalYard$Session" "owner" "I", Cond.methodLink RX2 210 yX1_isLive, Cond.instanceMethod yX1_isLive, Cond.selects RX1 yX1_isLive yX1_isLive, Cond.code yX1_isLive cX1_isLive 1 (some .boolean)]
def wsL_law0_r19 : List Cond := [Cond.fieldLink RX1 15 "TerminalYard$Session" "condition" "C", Cond.methodLink RX2 159 yX1_init, Cond.instanceMethod yX1_init, Cond.code yX1_init cX1_init 4 none, Cond.methodLink RX1 3 objectInit, Cond.fieldLink RX1 9 "TerminalYard$Session" "chargedFrom" "[I", Cond.fieldLink RX1 19 "TerminalYard$Session" "owner" "I", Cond.fieldLink RX1 23 "TerminalYard$Session" "host" "LTerminalYard$Machine;", Cond.fieldLink RX1 27 "TerminalYard$Session" "began" "I", Cond.fieldLink RX1 30 "TerminalYard$Session" "holder" "I", Cond.fieldLink RX1 33 "TerminalYard$Session" "usedLast" "I", Cond.methodLink RL 162 yX3_logIn, Cond.instanceMethod yX3_logIn, Cond.selects RX3 yX3_logIn yX3_logIn, Cond.code yX3_logIn cX3_logIn 5 (some .int), Cond.fieldLink RX3 114 "TerminalYardModel" "time" "I", Cond.methodLink RX3 111 yX3_owns, Cond.instanceMethod yX3_owns, Cond.selects RX3 yX3_owns yX3_owns, Cond.code yX3_owns cX3_owns 4 (some .boolean), Cond.methodLink RL 163 yL_logOut, Cond.static yL_logOut, Cond.codeWith yL_logOut cL_logOut 4 (some .int) [(0, 9, 12, 24), (0, 9, 15, 15)], Cond.methodLink RL 65 yX2_logOut]
def wsL_law0_r20 : List Cond := [Cond.instanceMethod yX2_logOut, Cond.selects RX2 yX2_logOut yX2_logOut, Cond.code yX2_logOut cX2_logOut 3 (some .int), Cond.methodLink RX2 162 yX2_liveSessionAt, Cond.instanceMethod yX2_liveSessionAt, Cond.selects RX2 yX2_liveSessionAt yX2_liveSessionAt, Cond.code yX2_liveSessionAt cX2_liveSessionAt 3 (some (.object "TerminalYard$Session")), Cond.methodLink RX2 176 yX2_sessionAt, Cond.instanceMethod yX2_sessionAt, Cond.selects RX2 yX2_sessionAt yX2_sessionAt, Cond.code yX2_sessionAt cX2_sessionAt 2 (some (.object "TerminalYard$Session")), Cond.methodLink RX2 184 yX2_checkLive, Cond.static yX2_checkLive, Cond.code yX2_checkLive cX2_checkLive 1 none, Cond.methodLink RX2 166 yX2_end, Cond.instanceMethod yX2_end, Cond.selects RX2 yX2_end yX2_end, Cond.code yX2_end cX2_end 3 none, Cond.fieldLink RX2 214 "TerminalYard$Session" "condition" "C", Cond.fieldLink RX2 203 "TerminalYard$Session" "host" "LTerminalYard$Machine;", Cond.methodLink RX2 170 yX1_chargedInAll, Cond.instanceMethod yX1_chargedInAll, Cond.selects RX1 yX1_chargedInAll yX1_chargedInAll, Cond.code yX1_chargedInAll cX1_chargedInAll 3 (some .int)]
def wsL_law0_r21 : List Cond := [Cond.methodLink RL 165 yX3_logOut, Cond.instanceMethod yX3_logOut, Cond.selects RX3 yX3_logOut yX3_logOut, Cond.code yX3_logOut cX3_logOut 2 (some .int), Cond.methodLink RX3 120 yX3_liveFault, Cond.instanceMethod yX3_liveFault, Cond.selects RX3 yX3_liveFault yX3_liveFault, Cond.code yX3_liveFault cX3_liveFault 2 (some .int), Cond.methodLink RX3 117 yX3_isSession, Cond.instanceMethod yX3_isSession, Cond.selects RX3 yX3_isSession yX3_isSession, Cond.code yX3_isSession cX3_isSession 2 (some .boolean), Cond.methodLink RX3 123 yX3_chargedTo, Cond.instanceMethod yX3_chargedTo, Cond.selects RX3 yX3_chargedTo yX3_chargedTo, Cond.code yX3_chargedTo cX3_chargedTo 4 (some .int), Cond.methodLink RL 166 yL_use, Cond.static yL_use, Cond.codeWith yL_use cL_use 4 (some .int) [(0, 9, 12, 24), (0, 9, 15, 15)], Cond.methodLink RL 68 yX2_use, Cond.instanceMethod yX2_use, Cond.selects RX2 yX2_use yX2_use, Cond.code yX2_use cX2_use 4 (some .int), Cond.fieldLink RX2 173 "TerminalYard$Session" "usedLast" "I"]
def wsL_law0_r22 : List Cond := [Cond.methodLink RL 168 yX3_use, Cond.instanceMethod yX3_use, Cond.selects RX3 yX3_use yX3_use, Cond.code yX3_use cX3_use 3 (some .int), Cond.methodLink RL 169 yL_takeOver, Cond.static yL_takeOver, Cond.codeWith yL_takeOver cL_takeOver 5 (some .int) [(0, 10, 13, 24), (0, 10, 17, 13), (0, 10, 21, 15), (0, 10, 25, 51)], Cond.methodLink RL 71 yX2_takeOver, Cond.instanceMethod yX2_takeOver, Cond.selects RX2 yX2_takeOver yX2_takeOver, Cond.code yX2_takeOver cX2_takeOver 4 (some .int), Cond.fieldLink RX2 179 "TerminalYard$Session" "holder" "I", Cond.methodLink RX2 188 yX2_passTo, Cond.instanceMethod yX2_passTo, Cond.selects RX2 yX2_passTo yX2_passTo, Cond.code yX2_passTo cX2_passTo 4 (some .int), Cond.methodLink RL 171 yX3_takeOver, Cond.instanceMethod yX3_takeOver, Cond.selects RX3 yX3_takeOver yX3_takeOver, Cond.code yX3_takeOver cX3_takeOver 5 (some .int), Cond.methodLink RL 172 yL_handBack, Cond.static yL_handBack, Cond.codeWith yL_handBack cL_handBack 4 (some .int) [(0, 9, 12, 24), (0, 9, 15, 15)], Cond.methodLink RL 74 yX2_handBack]
def wsL_law0_r23 : List Cond := [Cond.instanceMethod yX2_handBack, Cond.selects RX2 yX2_handBack yX2_handBack, Cond.code yX2_handBack cX2_handBack 3 (some .int), Cond.methodLink RL 174 yX3_handBack, Cond.instanceMethod yX3_handBack, Cond.selects RX3 yX3_handBack yX3_handBack, Cond.code yX3_handBack cX3_handBack 4 (some .int), Cond.methodLink RL 175 yL_print, Cond.static yL_print, Cond.codeWith yL_print cL_print 5 (some .int) [(0, 10, 13, 24), (0, 10, 17, 13), (0, 10, 21, 15), (0, 10, 25, 51)], Cond.methodLink RL 77 yX2_print, Cond.instanceMethod yX2_print, Cond.selects RX2 yX2_print yX2_print, Cond.code yX2_print cX2_print 6 (some .int), Cond.fieldLink RX2 207 "TerminalYard$Machine" "room" "I", Cond.methodLink RX2 199 yX2_charge, Cond.instanceMethod yX2_charge, Cond.selects RX2 yX2_charge yX2_charge, Cond.code yX2_charge cX2_charge 4 none, Cond.methodLink RL 177 yX3_print, Cond.instanceMethod yX3_print, Cond.selects RX3 yX3_print yX3_print, Cond.code yX3_print cX3_print 4 (some .int), Cond.fieldLink RX3 133 "TerminalYardModel" "pageMinutes" "I"]
def wsL_law0_r24 : List Cond := [Cond.methodLink RX3 129 yX3_charges, Cond.instanceMethod yX3_charges, Cond.selects RX3 yX3_charges yX3_charges, Cond.code yX3_charges cX3_charges 4 none, Cond.fieldLink RX3 126 "TerminalYardModel" "allMinutes" "I", Cond.methodLink RL 178 yL_state, Cond.static yL_state, Cond.codeWith yL_state cL_state 4 (some .int) [(0, 9, 12, 24)], Cond.methodLink RL 80 yX2_state, Cond.instanceMethod yX2_state, Cond.selects RX2 yX2_state yX2_state, Cond.code yX2_state cX2_state 3 (some .char), Cond.methodLink RL 180 yX3_state, Cond.instanceMethod yX3_state, Cond.selects RX3 yX3_state yX3_state, Cond.code yX3_state cX3_state 2 (some .char), Cond.methodLink RL 181 yL_machineOf, Cond.static yL_machineOf, Cond.codeWith yL_machineOf cL_machineOf 4 (some .int) [(0, 9, 12, 24)], Cond.methodLink RL 83 yX2_machineOf, Cond.instanceMethod yX2_machineOf, Cond.selects RX2 yX2_machineOf yX2_machineOf, Cond.code yX2_machineOf cX2_machineOf 2 (some .int), Cond.methodLink RL 183 yX3_machineOf]
def wsL_law0_r25 : List Cond := [Cond.instanceMethod yX3_machineOf, Cond.selects RX3 yX3_machineOf yX3_machineOf, Cond.code yX3_machineOf cX3_machineOf 2 (some .int), Cond.methodLink RL 184 yL_userOf, Cond.static yL_userOf, Cond.codeWith yL_userOf cL_userOf 4 (some .int) [(0, 9, 12, 24)], Cond.methodLink RL 86 yX2_userOf, Cond.instanceMethod yX2_userOf, Cond.selects RX2 yX2_userOf yX2_userOf, Cond.code yX2_userOf cX2_userOf 2 (some .int), Cond.methodLink RL 186 yX3_userOf, Cond.instanceMethod yX3_userOf, Cond.selects RX3 yX3_userOf yX3_userOf, Cond.code yX3_userOf cX3_userOf 2 (some .int), Cond.methodLink RL 187 yL_charged, Cond.static yL_charged, Cond.codeWith yL_charged cL_charged 5 (some .int) [(0, 10, 13, 24), (0, 10, 17, 13)], Cond.methodLink RL 89 yX2_charged, Cond.instanceMethod yX2_charged, Cond.selects RX2 yX2_charged yX2_charged, Cond.code yX2_charged cX2_charged 4 (some .int), Cond.methodLink RL 189 yX3_charged, Cond.instanceMethod yX3_charged, Cond.selects RX3 yX3_charged yX3_charged]
def wsL_law0_r26 : List Cond := [Cond.code yX3_charged cX3_charged 3 (some .int), Cond.methodLink RL 190 yL_endsIn, Cond.static yL_endsIn, Cond.codeWith yL_endsIn cL_endsIn 4 (some .int) [(0, 9, 12, 24), (0, 9, 15, 15)], Cond.methodLink RL 92 yX2_endsIn, Cond.instanceMethod yX2_endsIn, Cond.selects RX2 yX2_endsIn yX2_endsIn, Cond.code yX2_endsIn cX2_endsIn 6 (some .int), Cond.fieldLink RX2 215 "TerminalYard$Machine" "pool" "I", Cond.fieldLink RX2 218 "TerminalYard$Session" "began" "I", Cond.methodLink RX2 221 Lib.Math.min.name, Cond.methodLink RX2 227 Lib.Math.max.name, Cond.methodLink RL 192 yX3_endsIn, Cond.instanceMethod yX3_endsIn, Cond.selects RX3 yX3_endsIn yX3_endsIn, Cond.code yX3_endsIn cX3_endsIn 6 (some .int), Cond.methodLink RL 193 yL_pass, Cond.static yL_pass, Cond.codeWith yL_pass cL_pass 4 (some .int) [(0, 9, 12, 13)], Cond.methodLink RL 95 yX2_pass, Cond.instanceMethod yX2_pass, Cond.selects RX2 yX2_pass yX2_pass, Cond.code yX2_pass cX2_pass 4 (some .int), Cond.methodLink RX2 234 yX2_chargeLiveSessions]
def wsL_law0_r27 : List Cond := [Cond.instanceMethod yX2_chargeLiveSessions, Cond.selects RX2 yX2_chargeLiveSessions yX2_chargeLiveSessions, Cond.code yX2_chargeLiveSessions cX2_chargeLiveSessions 5 (some .int), Cond.methodLink RX2 276 yX2_afterOneMinute, Cond.instanceMethod yX2_afterOneMinute, Cond.selects RX2 yX2_afterOneMinute yX2_afterOneMinute, Cond.code yX2_afterOneMinute cX2_afterOneMinute 3 (some .char), Cond.methodLink RL 195 yX3_pass, Cond.instanceMethod yX3_pass, Cond.selects RX3 yX3_pass yX3_pass, Cond.code yX3_pass cX3_pass 5 (some .int), Cond.methodLink RX3 136 yX3_passes, Cond.instanceMethod yX3_passes, Cond.selects RX3 yX3_passes yX3_passes, Cond.code yX3_passes cX3_passes 3 (some .boolean), Cond.methodLink RL 196 yX2_time, Cond.instanceMethod yX2_time, Cond.selects RX2 yX2_time yX2_time, Cond.code yX2_time cX2_time 1 (some .int), Cond.methodLink RL 199 yX3_time, Cond.instanceMethod yX3_time, Cond.selects RX3 yX3_time yX3_time, Cond.code yX3_time cX3_time 1 (some .int), Cond.methodLink RL 200 yL_pageShare]
def wsL_law0_r28 : List Cond := [Cond.static yL_pageShare, Cond.codeWith yL_pageShare cL_pageShare 3 (some .int) [(0, 8, 11, 102)], Cond.classLink RL 102 "java/lang/ArithmeticException", Cond.methodLink RL 98 yX2_pageShare, Cond.instanceMethod yX2_pageShare, Cond.selects RX2 yX2_pageShare yX2_pageShare, Cond.code yX2_pageShare cX2_pageShare 2 (some .float), Cond.classLink RX2 240 "java/lang/ArithmeticException", Cond.initialized "java/lang/ArithmeticException", Cond.methodLink RX2 237 yX2_chargedToAllSessions, Cond.instanceMethod yX2_chargedToAllSessions, Cond.selects RX2 yX2_chargedToAllSessions yX2_chargedToAllSessions, Cond.code yX2_chargedToAllSessions cX2_chargedToAllSessions 3 (some .int), Cond.methodLink RL 203 yX3_pageShare, Cond.instanceMethod yX3_pageShare, Cond.selects RX3 yX3_pageShare yX3_pageShare, Cond.code yX3_pageShare cX3_pageShare 1 (some .float), Cond.methodLink RL 204 yL_meanCharge, Cond.static yL_meanCharge, Cond.codeWith yL_meanCharge cL_meanCharge 3 (some .int) [(0, 7, 10, 102)], Cond.methodLink RL 104 yX2_meanCharge, Cond.instanceMethod yX2_meanCharge, Cond.selects RX2 yX2_meanCharge yX2_meanCharge, Cond.code yX2_meanCharge cX2_meanCharge 2 (some .double)]
def wsL_law0_r29 : List Cond := [Cond.methodLink RL 206 yX3_meanCharge, Cond.instanceMethod yX3_meanCharge, Cond.selects RX3 yX3_meanCharge yX3_meanCharge, Cond.code yX3_meanCharge cX3_meanCharge 1 (some .double)]
def wsL_law0 : List Cond := (wsL_law0_r1 ++ (wsL_law0_r2 ++ (wsL_law0_r3 ++ (wsL_law0_r4 ++ (wsL_law0_r5 ++ (wsL_law0_r6 ++ (wsL_law0_r7 ++ (wsL_law0_r8 ++ (wsL_law0_r9 ++ (wsL_law0_r10 ++ (wsL_law0_r11 ++ (wsL_law0_r12 ++ (wsL_law0_r13 ++ (wsL_law0_r14 ++ (wsL_law0_r15 ++ (wsL_law0_r16 ++ (wsL_law0_r17 ++ (wsL_law0_r18 ++ (wsL_law0_r19 ++ (wsL_law0_r20 ++ (wsL_law0_r21 ++ (wsL_law0_r22 ++ (wsL_law0_r23 ++ (wsL_law0_r24 ++ (wsL_law0_r25 ++ (wsL_law0_r26 ++ (wsL_law0_r27 ++ (wsL_law0_r28 ++ wsL_law0_r29)))))))))))))))))))))))))))) ++ wsX20 ++ wsX30 ++ wsJx4a65c0 ++ wsX00 ++ wsX10 ++ ([] : List Cond)
def wsL_law : List Cond := wsL_law0 ++ (vx_atM "java/lang/ArrayIndexOutOfBoundsException" ["java/lang/IndexOutOfBoundsException", "java/lang/RuntimeException", "java/lang/Exception"]).filter goodWord ++ (vx_atS RX2 62 "java/lang/IllegalArgumentException" ["java/lang/RuntimeException", "java/lang/Exception"]).filter goodWord ++ (vx_atS RX2 75 "java/lang/IllegalStateException" ["java/lang/RuntimeException", "java/lang/Exception"]).filter goodWord ++ (vx_atS RX2 268 "java/lang/IndexOutOfBoundsException" ["java/lang/RuntimeException", "java/lang/Exception"]).filter goodWord ++ (vx_atS RX2 275 "java/util/NoSuchElementException" ["java/lang/RuntimeException", "java/lang/Exception"]).filter goodWord ++ (vx_atS RX2 261 "java/lang/UnsupportedOperationException" ["java/lang/RuntimeException", "java/lang/Exception"]).filter goodWord ++ (vx_atS RX2 244 "java/lang/ArithmeticException" ["java/lang/RuntimeException", "java/lang/Exception"]).filter goodWord
abbrev vwCl : List vw_C := [(RJ0, TJ0, 2), (RJx00060, TJx00060, 6), (RJx4a65c, TJx4a65c, 3), (RX0, TX0, 6), (RX1, TX1, 7), (RX2, TX2, 11), (RX3, TX3, 23)]
end
section
/-! THE LAYER J. A world: an address al a b, a shape sh a b for every key (kind a, number b), numbers S a b j (a field's or an array's place j). Shapes: an object (class number, targets of its reference fields), an array of ints or chars (class, length), any other array as it stands. Key kind 99: cells that were there before and are never written. -/
abbrev yTg := Nat → Option (Option (Nat × Nat))
abbrev yShp := (Nat × yTg) ⊕ ((ClassId × Nat) ⊕ (ClassId × vp_A))
abbrev yS := Nat → Nat → Nat → Int32
abbrev ySh := Nat → Nat → Option yShp
abbrev yAl := Nat → Nat → Nat
def sup (S : yS) (a b j : Nat) (v : Int32) : yS := fun a' b' j' => if a' = a ∧ b' = b ∧ j' = j then v else S a' b' j'
def szero (S : yS) (a b : Nat) : yS := fun a' b' j' => if a' = a ∧ b' = b then 0 else S a' b' j'
def shp (sh : ySh) (a b : Nat) (x : yShp) : ySh := fun a' b' => if a' = a ∧ b' = b then some x else sh a' b'
def alp (al : yAl) (a b q : Nat) : yAl := fun a' b' => if a' = a ∧ b' = b then q else al a' b'
def tgp (tg : yTg) (j : Nat) (r : Option (Nat × Nat)) : yTg := fun j' => if j' = j then some r else tg j'
theorem sup_self (S : yS) (a b j : Nat) (v : Int32) : sup S a b j v a b j = v := by simp [sup]
theorem sup_ne (S : yS) {a b j a' b' j' : Nat} (v : Int32) (h : ¬ (a' = a ∧ b' = b ∧ j' = j)) : sup S a b j v a' b' j' = S a' b' j' := by simp only [sup, if_neg h]
theorem sup_off (S : yS) {a b j a' b' j' : Nat} (v : Int32) (h : ¬ (a' = a ∧ b' = b)) : sup S a b j v a' b' j' = S a' b' j' := sup_ne S v (fun q => h ⟨q.1, q.2.1⟩)
theorem shp_self (sh : ySh) (a b : Nat) (x : yShp) : shp sh a b x a b = some x := by simp [shp]
theorem shp_ne (sh : ySh) {a b a' b' : Nat} (x : yShp) (h : ¬ (a' = a ∧ b' = b)) : shp sh a b x a' b' = sh a' b' := by simp only [shp, if_neg h]
theorem shp_id (sh : ySh) {a b : Nat} {x : yShp} (h : sh a b = some x) : shp sh a b x = sh := by
  funext c d
  by_cases e : c = a ∧ d = b
  · obtain ⟨rfl, rfl⟩ := e
    rw [shp_self, h]
  · rw [shp_ne _ _ e]
theorem alp_self (al : yAl) (a b q : Nat) : alp al a b q a b = q := by simp [alp]
theorem alp_ne (al : yAl) {a b a' b' : Nat} (q : Nat) (h : ¬ (a' = a ∧ b' = b)) : alp al a b q a' b' = al a' b' := by simp only [alp, if_neg h]
def yV (al : yAl) (S : yS) (a b : Nat) (tg : yTg) (j : Nat) : Value := match tg j with
  | none => .int (S a b j)
  | some r => va_rf (r.map (fun k => al k.1 k.2))
theorem yV_i {al : yAl} {S : yS} {a b j : Nat} {tg : yTg} (h : tg j = none) : yV al S a b tg j = .int (S a b j) := by unfold yV; rw [h]
theorem yV_r {al : yAl} {S : yS} {a b j : Nat} {tg : yTg} {k : Nat × Nat} (h : tg j = some (some k)) : yV al S a b tg j = .ref (al k.1 k.2) := by unfold yV; rw [h]; rfl
theorem yV_n {al : yAl} {S : yS} {a b j : Nat} {tg : yTg} (h : tg j = some none) : yV al S a b tg j = .null := by unfold yV; rw [h]; rfl
def yAt (G : va_G) (al : yAl) (S : yS) (a b : Nat) (x : yShp) (H : Heap) : Prop := match x with
  | .inl o => ∃ r : vw_C, vwCl[o.1]? = some r ∧ t_OB (al a b) (G.1 o.1) r.2.2 (G.2 o.1) H (yV al S a b o.2)
  | .inr (.inl o) => H[al a b]? = some (vp_cell o.1 (o.2, .inl (S a b)))
  | .inr (.inr o) => H[al a b]? = some (vp_cell o.1 o.2)
def yW (G : va_G) (n0 : Nat) (al : yAl) (sh : ySh) (S : yS) (H : Heap) : Prop :=
  n0 ≤ H.size ∧ (∀ a b x, sh a b = some x → n0 ≤ al a b ∧ yAt G al S a b x H) ∧
  (∀ a b c d x y, sh a b = some x → sh c d = some y → al a b = al c d → a = c ∧ b = d) ∧
  (∀ a b ci tg j k, sh a b = some (.inl (ci, tg)) → tg j = some (some k) → sh k.1 k.2 ≠ none ∨ k.1 = 99)
theorem yAt.lt {G : va_G} {al : yAl} {S : yS} {a b : Nat} {x : yShp} {H : Heap} (h : yAt G al S a b x H) : al a b < H.size := by
  rcases x with o | o | o
  · obtain ⟨r, -, cell, h2, -⟩ := h
    exact (Array.getElem?_eq_some_iff.mp h2).1
  · exact (Array.getElem?_eq_some_iff.mp h).1
  · exact (Array.getElem?_eq_some_iff.mp h).1
/-- the same thing in a heap, with addresses and numbers, that agree here -/
theorem yAt.keep {G : va_G} {al al' : yAl} {S S' : yS} {a b : Nat} {x : yShp} {H H1 : Heap} (h : yAt G al S a b x H) (hq : H1[al a b]? = H[al a b]?) (ha : al' a b = al a b) (hS : ∀ j, S' a b j = S a b j)
    (ht : ∀ ci tg j k, x = .inl (ci, tg) → tg j = some (some k) → al' k.1 k.2 = al k.1 k.2) : yAt G al' S' a b x H1 := by
  rcases x with ⟨ci, tg⟩ | o | o
  · obtain ⟨r, h1, h2⟩ := h
    refine ⟨r, h1, ?_⟩
    rw [ha]
    refine (h2.kept hq).to (fun j _ => ?_)
    show yV al S a b tg j = yV al' S' a b tg j
    cases hj : tg j with
    | none => rw [yV_i hj, yV_i hj, hS]
    | some r =>
      cases r with
      | none => rw [yV_n hj, yV_n hj]
      | some k => rw [yV_r hj, yV_r hj, ht ci tg j k rfl hj]
  · have e : S' a b = S a b := funext hS
    show H1[al' a b]? = some (vp_cell _ (_, .inl (S' a b)))
    rw [ha, hq, e]
    exact h
  · show H1[al' a b]? = _
    rw [ha, hq]
    exact h
/-- one cell changes, the keys stay -/
theorem yW.put {G : va_G} {n0 : Nat} {al : yAl} {sh : ySh} {S S' : yS} {H H1 : Heap} {a b : Nat} {x x' : yShp} (h : yW G n0 al sh S H) (hx : sh a b = some x) (z : H1.size = H.size) (oq : ∀ q : Nat, q ≠ al a b → H1[q]? = H[q]?)
    (hS : ∀ c d j, ¬ (c = a ∧ d = b) → S' c d j = S c d j) (hn : yAt G al S' a b x' H1) (hcl : ∀ ci tg j k, x' = .inl (ci, tg) → tg j = some (some k) → sh k.1 k.2 ≠ none ∨ k.1 = 99) : yW G n0 al (shp sh a b x') S' H1 := by
  obtain ⟨h1, h2, h3, h4⟩ := h
  refine ⟨by rw [z]; exact h1, fun c d y hy => ?_, fun c d c' d' y y' hy hy' he => ?_, fun c d ci tg j k hy hj => ?_⟩
  · by_cases e : c = a ∧ d = b
    · obtain ⟨rfl, rfl⟩ := e
      rw [shp_self] at hy
      cases hy
      exact ⟨(h2 _ _ _ hx).1, hn⟩
    · rw [shp_ne _ _ e] at hy
      obtain ⟨g1, g2⟩ := h2 c d y hy
      exact ⟨g1, g2.keep (oq _ (fun q => e (h3 c d a b y x hy hx q))) rfl (fun j => hS c d j e) (fun _ _ _ _ _ _ => rfl)⟩
  · have key : ∀ c d y, shp sh a b x' c d = some y → ∃ y0, sh c d = some y0 := fun c d y hy => by
      by_cases e : c = a ∧ d = b
      · exact ⟨x, by rw [e.1, e.2]; exact hx⟩
      · rw [shp_ne _ _ e] at hy
        exact ⟨y, hy⟩
    obtain ⟨y0, g0⟩ := key c d y hy
    obtain ⟨y1, g1⟩ := key c' d' y' hy'
    exact h3 c d c' d' y0 y1 g0 g1 he
  · have up : (sh k.1 k.2 ≠ none ∨ k.1 = 99) → (shp sh a b x' k.1 k.2 ≠ none ∨ k.1 = 99) := fun q => by
      by_cases e : k.1 = a ∧ k.2 = b
      · left
        rw [show shp sh a b x' k.1 k.2 = some x' by rw [e.1, e.2]; exact shp_self _ _ _ _]
        exact fun q => by cases q
      · rw [shp_ne _ _ e]
        exact q
    by_cases e : c = a ∧ d = b
    · obtain ⟨rfl, rfl⟩ := e
      rw [shp_self] at hy
      exact up (hcl ci tg j k (Option.some.inj hy) hj)
    · rw [shp_ne _ _ e] at hy
      exact up (h4 c d ci tg j k hy hj)
/-- a new cell, at a key that was free -/
theorem yW.new {G : va_G} {n0 : Nat} {al : yAl} {sh : ySh} {S S' : yS} {H H1 : Heap} {a b : Nat} {x' : yShp} (h : yW G n0 al sh S H) (hx : sh a b = none) (ha : a ≠ 99) (z : H1.size = H.size + 1) (oq : ∀ q : Nat, q < H.size → H1[q]? = H[q]?)
    (hS : ∀ c d j, ¬ (c = a ∧ d = b) → S' c d j = S c d j) (hn : yAt G (alp al a b H.size) S' a b x' H1) (hcl : ∀ ci tg j k, x' = .inl (ci, tg) → tg j ≠ some (some k)) : yW G n0 (alp al a b H.size) (shp sh a b x') S' H1 := by
  obtain ⟨h1, h2, h3, h4⟩ := h
  refine ⟨by omega, fun c d y hy => ?_, fun c d c' d' y y' hy hy' he => ?_, fun c d ci tg j k hy hj => ?_⟩
  · by_cases e : c = a ∧ d = b
    · obtain ⟨rfl, rfl⟩ := e
      rw [shp_self] at hy
      cases hy
      exact ⟨by rw [alp_self]; exact h1, hn⟩
    · rw [shp_ne _ _ e] at hy
      obtain ⟨g1, g2⟩ := h2 c d y hy
      refine ⟨by rw [alp_ne _ _ e]; exact g1, g2.keep (oq _ g2.lt) (alp_ne _ _ e) (fun j => hS c d j e) (fun ci tg j k hi hj => ?_)⟩
      refine alp_ne _ _ (fun q => ?_)
      subst hi
      rcases h4 c d ci tg j k hy hj with q1 | q1
      · exact q1 (by rw [q.1, q.2]; exact hx)
      · exact ha (q.1 ▸ q1)
  · have key : ∀ c d y, ¬ (c = a ∧ d = b) → shp sh a b x' c d = some y → sh c d = some y ∧ al c d < H.size := fun c d y e hy => by
      rw [shp_ne _ _ e] at hy
      exact ⟨hy, (h2 c d y hy).2.lt⟩
    by_cases e1 : c = a ∧ d = b <;> by_cases e2 : c' = a ∧ d' = b
    · exact ⟨e1.1.trans e2.1.symm, e1.2.trans e2.2.symm⟩
    · obtain ⟨-, g2⟩ := key c' d' y' e2 hy'
      rw [alp_ne _ _ e2, e1.1, e1.2, alp_self] at he
      omega
    · obtain ⟨-, g2⟩ := key c d y e1 hy
      rw [alp_ne _ _ e1, e2.1, e2.2, alp_self] at he
      omega
    · obtain ⟨g1, -⟩ := key c d y e1 hy
      obtain ⟨g2, -⟩ := key c' d' y' e2 hy'
      rw [alp_ne _ _ e1, alp_ne _ _ e2] at he
      exact h3 c d c' d' y y' g1 g2 he
  · by_cases e : c = a ∧ d = b
    · obtain ⟨rfl, rfl⟩ := e
      rw [shp_self] at hy
      exact absurd hj (hcl ci tg j k (Option.some.inj hy))
    · rw [shp_ne _ _ e] at hy
      rcases h4 c d ci tg j k hy hj with q | q
      · left
        by_cases e2 : k.1 = a ∧ k.2 = b
        · rw [e2.1, e2.2, shp_self]
          exact fun q => by cases q
        · rw [shp_ne _ _ e2]
          exact q
      · exact Or.inr q
theorem yW.kept {G : va_G} {n0 : Nat} {al : yAl} {sh : ySh} {S : yS} {H H1 : Heap} (h : yW G n0 al sh S H) (z : H.size ≤ H1.size) (oq : ∀ q : Nat, q < H.size → H1[q]? = H[q]?) : yW G n0 al sh S H1 :=
  ⟨Nat.le_trans h.1 z, fun a b x hx => ⟨(h.2.1 a b x hx).1, (h.2.1 a b x hx).2.keep (oq _ (h.2.1 a b x hx).2.lt) rfl (fun _ => rfl) (fun _ _ _ _ _ _ => rfl)⟩, h.2.2⟩
/-- the classes of the arrays -/
def yT (cs : Nat → ClassId) : List (ClassId × FieldType) := [(cs 0, .int), (cs 1, .char), (cs 2, .long), (cs 3, .double), (cs 4, .object "java/lang/Object"), (cs 5, .array .int)]
def yStrs : List (Nat × String) := [(60, "no such room"), (65, "a machine has from 1 to 4 seats"), (73, "there are 6 machines"), (85, "a limit is from 1 to 999"), (95, "the machine is not up"), (103, "the machine is up"), (132, "a department buys up to 99999 minutes"), (145, "the department owes fewer minutes"), (155, "the user owns a live session"), (157, "there were 40 sessions"), (182, "this is the user of the session"), (195, "the owner is the user of the session"), (197, "pages are printed from 1 to 99 at once"), (230, "from 1 to 60 minutes pass at once"), (232, "time is counted up to 5000"), (242, "nothing was charged"), (245, "there were no sessions"), (247, "no such pool"), (249, "no such user"), (251, "no such department"), (253, "both departments are the same"), (255, "from 1 to 5000 minutes change hands at once"), (259, "the department has too few minutes"), (262, "the session is not live"), (266, "no such machine"), (269, "no such session"), (273, "no machine of the pool takes a session")]
def yExc : List String := ["java/lang/IllegalArgumentException", "java/lang/IllegalStateException", "java/lang/IndexOutOfBoundsException", "java/util/NoSuchElementException", "java/lang/UnsupportedOperationException", "java/lang/ArithmeticException"]
def yCast : List (String × String) := yExc.map (fun q => (q, q)) ++ [("TerminalYard$Machine", "java/lang/Object"), ("TerminalYard$Session", "java/lang/Object")]
def yDecl : List MethodName := [⟨"java/lang/Object", "getClass", "()Ljava/lang/Class;"⟩, Bundle.initS "java/lang/RuntimeException", Bundle.initS "java/lang/Exception", Bundle.initS "java/lang/Throwable"]
def yB (U : State) : Prop := (∀ q ∈ yCast, va_Nw (.castable q.1 q.2) U) ∧ (∀ q ∈ yDecl, (Cond.declares q).before #[] U = true) ∧ ∀ x ∈ yExc, ∀ y ∈ yExc, x ≠ y → va_Nc x y U
theorem yB_decl {x : MethodName} {u U : State} (hvm : u.vm.Alike U.vm) (h : (Cond.declares x).before #[] u = true) : (Cond.declares x).before #[] U = true := by
  have h1 : (Cond.declares x).before #[] (u.setVm U.vm) = true := by
    rw [Cond.declares_setVm hvm]
    exact h
  have e := Cond.onTables_vm (A := #[]) (A' := #[]) (U := u) (U' := U) U.vm (Cond.declares x) rfl
  have hU : U.setVm U.vm = U := rfl
  rw [hU] at e
  rw [← e]
  exact h1
theorem yB.warm {s U : State} (hW : s.WarmedH U.vm) (h : yB s) : yB U := ⟨fun q hq => (h.1 q hq).warmC hW, fun q hq => yB_decl hW.alike (h.2.1 q hq), fun x hx y hy hn => by
  obtain ⟨a, b, h1, h2, h3⟩ := h.2.2 x hx y hy hn
  exact ⟨a, b, by rw [hW.alike.findClass]; exact h1, by rw [hW.alike.findClass]; exact h2, by rw [hW.alike.assignable]; exact h3⟩⟩
theorem yB.calling {U : State} (g : JFrame) (mk : MethodId) (a : Array Value) (h : yB U) : yB (U.calling g mk a) := yB.warm (State.WarmedH.refl U) h
def yAOA (U : State) : Prop := (Cond.arrayOver (.array .int)).before #[] U = true
theorem y_idx_bare (vm : Vm) (comp : ClassId) : (vm.bare.classes.findIdx? fun (x : Class) => match x.kind with | .array component _ => component == comp | _ => false) = (vm.classes.findIdx? fun (x : Class) => match x.kind with | .array component _ => component == comp | _ => false) := by
  simp only [Vm.bare, Array.findIdx?_map]
  rfl
theorem yAOA.moved {u U : State} (hvm : u.vm.Alike U.vm) (h : yAOA u) : yAOA U := by
  obtain ⟨comp, c, k, h1, h2, h3, h4, h5⟩ := arrayOverA_spec h
  obtain ⟨k', hk', he⟩ := hvm.2.2 _ _ h3
  have hi : (U.vm.classes.findIdx? fun (x : Class) => match x.kind with | .array component _ => component == comp | _ => false) = some c := by
    rw [← y_idx_bare]
    first | rw [hvm.bare_eq] | rw [← hvm.bare_eq]
    rw [y_idx_bare]
    exact h2
  have hkind : k'.kind = .array comp (.array .int) := by rw [he]; exact h4
  have f1 : U.vm.findClass (FieldType.array .int).toString = some comp := by rw [hvm.findClass]; exact h1
  have f2 : U.vm.findClass ("[" ++ (FieldType.array .int).toString) = some c := by rw [hvm.findClass]; exact h5
  unfold yAOA Cond.before Cond.holds
  simp only [Cond.value]
  rw [f1, Option.bind_some]
  refine (congrArg (fun o : Option Nat => (o.bind (fun c => (U.vm.classes[c]?).map fun (k : Class) => match k.kind with | .array _ ty => decide (ty = FieldType.array .int) && decide (U.vm.findClass ("[" ++ (FieldType.array .int).toString) = some c) | _ => false) == some true)) hi).trans ?_
  simp [hk', hkind, f2]
def yE (n0 tE mO : Nat) (U : State) (H : Heap) : Prop :=
  vx_Zq Bundle.tN "UNASSIGNED_STACK" Bundle.steD (fun q => n0 ≤ q) U H ∧ vx_Zq Bundle.tN "SUPPRESSED_SENTINEL" Bundle.listD (fun q => n0 ≤ q) U H ∧ (∀ q ∈ yStrs, ∃ a, vk_R RX2 q.1 q.2 a U) ∧
  va_Z RJx4a65c "DEFAULTCAPACITY_EMPTY_ELEMENTDATA" "[Ljava/lang/Object;" (.ref tE) (fun q => n0 ≤ q) U H ∧ va_T (.object "java/lang/Object") tE 0 (fun _ => .null) (fun q => n0 ≤ q) U H ∧ va_Mi "[Ljava/lang/Object;" mO U ∧ yB U ∧ va_AO "java/lang/Object" U ∧ yAOA U

theorem yE.go {n0 tE mO : Nat} {s U : State} {H : Heap} {locs : List Loc} (h : yE n0 tE mO s s.heap) (hS : va_S (fun q => n0 ≤ q) s.heap H locs) (hW : s.WarmedH U.vm) (hU : U.heap = H) : yE n0 tE mO U U.heap := by
  obtain ⟨h1, h2, h3, h4, h5, h6, h7, h8, h9⟩ := h
  rw [hU]
  exact ⟨vx_Zq.moved hW.alike (h1.kept hS.2.1), vx_Zq.moved hW.alike (h2.kept hS.2.1), fun q hq => by
    obtain ⟨a, ha⟩ := h3 q hq
    exact ⟨a, vk_R.warm hW ha⟩, va_Z.moved hW.alike (h4.kept hS.2.1), va_T.moved hW.alike (h5.kept hS.2.1), va_Mi.moved hW.alike h6, h7.warm hW, h8.moved hW.alike, h9.moved hW.alike⟩
theorem yE.calling {n0 tE mO : Nat} {U : State} (g : JFrame) (mk : MethodId) (a : Array Value) (h : yE n0 tE mO U U.heap) : yE n0 tE mO (U.calling g mk a) (U.calling g mk a).heap := by
  obtain ⟨h1, h2, h3, h4, h5, h6, h7, h8, h9⟩ := h
  have hv : U.vm.Alike (U.calling g mk a).vm := Vm.Alike.refl U.vm
  exact ⟨vx_Zq.moved hv h1, vx_Zq.moved hv h2, fun q hq => by
    obtain ⟨x, hx⟩ := h3 q hq
    exact ⟨x, vk_R.same rfl hx⟩, va_Z.moved hv h4, va_T.moved hv h5, va_Mi.moved hv h6, h7.calling g mk a, h8.moved hv, h9.moved hv⟩
/-- the launch's own numbers: array classes, floor of the heap, two addresses, the classes of the objects -/
abbrev yL : Type := va_G × (Nat → ClassId) × Nat × Nat × Nat
def yP (Z : yL) (al : yAl) (sh : ySh) (S : yS) (U : State) : Prop := yW Z.1 Z.2.2.1 al sh S U.heap ∧ va_K Z.1 vwCl (yT Z.2.1) U ∧ yE Z.2.2.1 Z.2.2.2.1 Z.2.2.2.2 U U.heap
theorem yP.calling {Z : yL} {al : yAl} {sh : ySh} {S : yS} {U : State} (g : JFrame) (mk : MethodId) (a : Array Value) (h : yP Z al sh S U) : yP Z al sh S (U.calling g mk a) :=
  ⟨h.1, va_K.moved (u := U) (U := U.calling g mk a) (Vm.Alike.refl U.vm) h.2.1, h.2.2.calling g mk a⟩
/-- what a method's body stands on -/
def Cx (p : Program) (s : State) (m : MethodId) (args : Array Value) (c : Code) (cc : ByteArray) (nL : Nat) (own : String) (Ts : List Cond) (Z : yL) : Prop :=
  CallFix p m c cc nL s args Ts own ∧ va_K Z.1 vwCl (yT Z.2.1) s ∧ Z.2.2.1 ≤ s.heap.size ∧ yE Z.2.2.1 Z.2.2.2.1 Z.2.2.2.2 s s.heap
abbrev yF (Z : yL) : Nat → Prop := fun q => Z.2.2.1 ≤ q
/-- from any heap of this world, at pc, with these locals and this stack, the run comes to Q -/
def J (p : Program) (l : Launch) (e : Env) (R : Room) (s : State) (m : MethodId) (args : Array Value) (below : List Frame) (meth : Method) (c : Code) (nL : Nat) (Z : yL) (cells slots : Nat) (Q : State → Prop) (al : yAl) (sh : ySh) (S : yS) (pc : Nat) (lv : List (Nat × Value)) (st : List Value) : Prop :=
  ∀ (H : Heap) (locs : List Loc) (ls : Array Slot), yW Z.1 Z.2.2.1 al sh S H → va_S (yF Z) s.heap H locs → lv_has ls nL lv → W p l e R s m args below meth c H locs cells slots Q (F0 m pc ls st)
/-- the same with an exception of class E thrown at pc -/
def JX (p : Program) (l : Launch) (e : Env) (R : Room) (s : State) (m : MethodId) (args : Array Value) (below : List Frame) (meth : Method) (c : Code) (nL : Nat) (Z : yL) (cells slots : Nat) (Q : State → Prop) (al : yAl) (sh : ySh) (S : yS) (pc : Nat) (lv : List (Nat × Value)) (E : String) : Prop :=
  ∀ (H : Heap) (locs : List Loc) (ls : Array Slot) (q : Addr) (ce : Cell) (st : List Value), yW Z.1 Z.2.2.1 al sh S H → va_S (yF Z) s.heap H locs → lv_has ls nL lv → H[q]? = some ce → ce.vm = .none → s.vm.findClass E = some ce.cls → vx_W p l e R s m args below meth c H locs cells slots Q (F0 m pc ls st) q
abbrev yPost : Type := Option Value → yAl → ySh → yS → Prop
def Qn (Z : yL) (post : yPost) : Array Value → State → Outcome → State → Prop := fun _ st o t => (∃ v al' sh' S', o = .returned v ∧ post v al' sh' S' ∧ yW Z.1 Z.2.2.1 al' sh' S' t.heap) ∧ va_F (yF Z) st t
def Qx (Z : yL) (px : String → Prop) (al : yAl) (sh : ySh) (S : yS) : String → State → State → Prop := fun E st t => px E ∧ yW Z.1 Z.2.2.1 al sh S t.heap ∧ va_F (yF Z) st t
def Pn (Z : yL) (av : List Value) (al : yAl) (sh : ySh) (S : yS) : Array Value → State → Prop := fun a U => a = av.toArray ∧ yP Z al sh S U
/-- a contract: y, called with av in the world al sh S, returns with post -/
def Ct (l : Launch) (y : MethodName) (ws : List Cond) (rm : Room) (mc ms : Nat) (Z : yL) (av : List Value) (al : yAl) (sh : ySh) (S : yS) (post : yPost) : Prop :=
  Met l y ws rm (Pn Z av al sh S) (Qn Z post) mc ms (yF Z)
/-- returns with post, or throws a class of px with the world as it was -/
def Cq (l : Launch) (y : MethodName) (ws : List Cond) (rm : Room) (mc ms : Nat) (Z : yL) (av : List Value) (al : yAl) (sh : ySh) (S : yS) (post : yPost) (px : String → Prop) : Prop :=
  vx_Met l y ws rm (Pn Z av al sh S) (Qn Z post) (Qx Z px al sh S) mc ms (yF Z)
/-- the answer v, and nothing but numbers changes -/
def yR (al : yAl) (sh : ySh) (v : Option Value) (S : yS) : yPost := fun v' al' sh' S' => v' = v ∧ al' = al ∧ sh' = sh ∧ S' = S
theorem Pn.blind {Z : yL} {av : List Value} {al : yAl} {sh : ySh} {S : yS} : FrameBlind (Pn Z av al sh S) := fun _ _ g mk h => ⟨h.1, h.2.calling g mk _⟩
section JR
variable {p : Program} {l : Launch} {e : Env} {R : Room} {s : State} {m : MethodId} {args : Array Value} {below : List Frame} {meth : Method} {c : Code} {cells slots : Nat} {Q : State → Prop} {cc : ByteArray} {nL pc pc' : Nat} {own : String} {Ts : List Cond} {Z : yL} {al : yAl} {sh : ySh} {S : yS} {lv lv' : List (Nat × Value)} {st rest : List Value}
theorem J.widen {k n : Nat} (h1 : cells ≤ k) (h2 : slots ≤ n) (kk : J p l e R s m args below meth c nL Z k n Q al sh S pc lv st) : J p l e R s m args below meth c nL Z cells slots Q al sh S pc lv st := fun H locs ls hW hS hl => W.widen h1 h2 (kk H locs ls hW hS hl)
theorem J.sub (ks : List Nat) (hl : lv_pick lv ks = lv') (kk : J p l e R s m args below meth c nL Z cells slots Q al sh S pc lv' st) : J p l e R s m args below meth c nL Z cells slots Q al sh S pc lv st := fun H locs ls hW hS h => kk H locs ls hW hS (lv_sub h ks hl)
theorem Pn.at (cx : Cx p s m args c cc nL own Ts Z) {av : List Value} {H : Heap} {locs : List Loc} (hW : yW Z.1 Z.2.2.1 al sh S H) (hS : va_S (yF Z) s.heap H locs) : ∀ U : State, U.heap = H → s.WarmedH U.vm → Pn Z av al sh S av.toArray U := fun U hU hw =>
  ⟨rfl, by rw [hU]; exact hW, va_K.moved hw.alike cx.2.1, cx.2.2.2.go hS hw hU⟩
theorem yP.at (cx : Cx p s m args c cc nL own Ts Z) {H : Heap} {locs : List Loc} (hW : yW Z.1 Z.2.2.1 al sh S H) (hS : va_S (yF Z) s.heap H locs) (U : State) (hU : U.heap = H) (hw : s.WarmedH U.vm) : yP Z al sh S U := ⟨by rw [hU]; exact hW, va_K.moved hw.alike cx.2.1, cx.2.2.2.go hS hw hU⟩
/-- behind a call that returns -/
theorem J.behind {mc ms : Nat} {post : yPost} {a : Array Value} (hp : pc + 3 = pc') {st0 : List Value}
    (hr : ∀ (H : Heap) (locs : List Loc) (ls : Array Slot), yW Z.1 Z.2.2.1 al sh S H → va_S (yF Z) s.heap H locs → lv_has ls nL lv → va_Run p l e R s m args below meth c H locs cells slots mc ms (F0 m pc ls st0) rest (Qn Z post a) (yF Z))
    (kk : ∀ v al' sh' S', post v al' sh' S' → J p l e R s m args below meth c nL Z (cells + mc) (slots + ms) Q al' sh' S' pc' lv (v.toList ++ rest)) : J p l e R s m args below meth c nL Z cells slots Q al sh S pc lv st0 := by
  subst hp
  intro H locs ls hW hS hl T hT X
  obtain ⟨v, st₀, t, T', L, h0, X', hL, e1, e2, ⟨⟨v', al', sh', S', ho, hpost, hP⟩, hF⟩, st⟩ := hr H locs ls hW hS hl T hT X
  cases ho
  obtain ⟨k1, k2, k3⟩ := vx_keep h0 e1 hS (fun _ _ h => h) (fun _ h => h) hL hF
  obtain ⟨t2, a1, b1⟩ := kk v al' sh' S' hpost T'.heap (locs ++ L) ls (by rw [e1]; exact hP) k3 hl T' rfl X'
  exact ⟨t2, st t2 a1, b1⟩
theorem J.behindX {mc ms : Nat} {post : yPost} {px : String → Prop} {a : Array Value} (hp : pc + 3 = pc') {st0 : List Value}
    (hr : ∀ (H : Heap) (locs : List Loc) (ls : Array Slot), yW Z.1 Z.2.2.1 al sh S H → va_S (yF Z) s.heap H locs → lv_has ls nL lv → vx_Run p l e R s m args below meth c H locs cells slots mc ms (F0 m pc ls st0) rest (Qn Z post a) (Qx Z px al sh S) (yF Z))
    (kx : ∀ E, px E → JX p l e R s m args below meth c nL Z (cells + mc) (slots + ms) Q al sh S pc lv E)
    (kk : ∀ v al' sh' S', post v al' sh' S' → J p l e R s m args below meth c nL Z (cells + mc) (slots + ms) Q al' sh' S' pc' lv (v.toList ++ rest)) : J p l e R s m args below meth c nL Z cells slots Q al sh S pc lv st0 := by
  subst hp
  intro H locs ls hW hS hl T hT X
  rcases hr H locs ls hW hS hl T hT X with ⟨v, st₀, t, T', L, h0, X', hL, e1, e2, ⟨⟨v', al', sh', S', ho, hpost, hP⟩, hF⟩, st⟩ | ⟨q, st₀, t, T', L, E, ce, h0, X', hL, e1, e2, ⟨hpx, hP, hF⟩, hce, hcv, hcl, st⟩
  · cases ho
    obtain ⟨k1, k2, k3⟩ := vx_keep h0 e1 hS (fun _ _ h => h) (fun _ h => h) hL hF
    obtain ⟨t2, a1, b1⟩ := kk v al' sh' S' hpost T'.heap (locs ++ L) ls (by rw [e1]; exact hP) k3 hl T' rfl X'
    exact ⟨t2, st t2 a1, b1⟩
  · obtain ⟨k1, k2, k3⟩ := vx_keep h0 e1 hS (fun _ _ h => h) (fun _ h => h) hL hF
    obtain ⟨t2, a1, b1⟩ := kx E hpx T'.heap (locs ++ L) ls q ce rest (by rw [e1]; exact hP) k3 hl (by rw [e1]; exact hce) hcv hcl T' rfl X'
    exact ⟨t2, st.trans a1, b1⟩
/-- an object of the world, as a receiver -/
theorem yW.recv (cx : Cx p s m args c cc nL own Ts Z) {H : Heap} (hW : yW Z.1 Z.2.2.1 al sh S H) {a b ci : Nat} {tg : yTg} {r : vw_C} (hs : sh a b = some (.inl (ci, tg))) (hc : vwCl[ci]? = some r) : ∃ cell : Cell, H[al a b]? = some cell ∧ cell.vm.isStatics = false ∧ s.vm.findClass r.1 = some cell.cls := by
  obtain ⟨r', h1, cell, h2, h3, h4, -⟩ := (hW.2.1 a b _ hs).2
  cases h1.symm.trans hc
  exact ⟨cell, h2, by rw [h4]; rfl, by rw [h3]; exact (cx.2.1.1 ci r hc).2.1⟩
section CALLS
variable {y : MethodName} {ws ws' : List Cond} {rm : Room} {mc ms idx n maxL : Nat} {bytes : ByteArray} {ret : Option FieldType} {C : String} {b : Addr} {As : List Value} {post : yPost} {px : String → Prop} {hh : List (Nat × Nat × Nat × Nat)}
theorem j_callV (cx : Cx p s m args c cc nL own Ts Z) (hM : Ct l y ws rm mc ms Z (.ref b :: As) al sh S post) (hT : GoodIn Ts (wsV own idx C y ws)) (hw : ws = Cond.code y bytes maxL ret :: ws') (hrc : rm.cells = mc) (hrs : rm.slots = ms)
    (hd : y.cls = C ∧ y.cls ≠ "java/lang/invoke/MethodHandle" ∧ y.cls ≠ "java/lang/invoke/VarHandle" ∧ (parseMethodDescriptor y.desc).map (fun d => d.parameters.length) = some As.length) (hR : rm.frames + 1 ≤ R.frames ∧ 8 + (maxL + 11) + rm.locals ≤ R.locals)
    {k1 k2 ci : Nat} {tg : yTg} {r : vw_C} (hs : sh k1 k2 = some (.inl (ci, tg))) (hc : vwCl[ci]? = some r) (hrC : r.1 = C) (hb : b = al k1 k2) {st0 : List Value} (hst : st0 = As.reverse ++ .ref b :: rest) (hsum : (rest.map fun v => v.category).sum ≤ 8) (d : decode cc pc = .ok (.invokevirtual idx, 3)) (hf : cells + mc ≤ R.cells ∧ slots + ms ≤ R.slots) (hp : pc + 3 = pc')
    (kk : ∀ v al' sh' S', post v al' sh' S' → J p l e R s m args below meth c nL Z (cells + mc) (slots + ms) Q al' sh' S' pc' lv (v.toList ++ rest)) : J p l e R s m args below meth c nL Z cells slots Q al sh S pc lv st0 := by
  subst hst
  refine J.behind (a := (Value.ref b :: As).toArray) hp (fun H locs ls hW hS hl => ?_) kk
  exact va_runV cx.1 hM (cwV As.length cx.1.2.2.2.2 hT hw hrc hrs hd hR) ⟨Pn.blind, by rw [hb]; have := hW.recv cx hs hc; rw [hrC] at this; exact this, Pn.at cx hW hS⟩ rfl rfl hl.1 rfl (lv_room hsum) d hf
theorem j_callVx (cx : Cx p s m args c cc nL own Ts Z) (hM : Cq l y ws rm mc ms Z (.ref b :: As) al sh S post px) (hT : GoodIn Ts (wsV own idx C y ws)) (hw : ws = Cond.code y bytes maxL ret :: ws') (hrc : rm.cells = mc) (hrs : rm.slots = ms)
    (hd : y.cls = C ∧ y.cls ≠ "java/lang/invoke/MethodHandle" ∧ y.cls ≠ "java/lang/invoke/VarHandle" ∧ (parseMethodDescriptor y.desc).map (fun d => d.parameters.length) = some As.length) (hR : rm.frames + 1 ≤ R.frames ∧ 8 + (maxL + 11) + rm.locals ≤ R.locals)
    {k1 k2 ci : Nat} {tg : yTg} {r : vw_C} (hs : sh k1 k2 = some (.inl (ci, tg))) (hc : vwCl[ci]? = some r) (hrC : r.1 = C) (hb : b = al k1 k2) {st0 : List Value} (hst : st0 = As.reverse ++ .ref b :: rest) (hsum : (rest.map fun v => v.category).sum ≤ 8) (d : decode cc pc = .ok (.invokevirtual idx, 3)) (hf : cells + mc ≤ R.cells ∧ slots + ms ≤ R.slots) (hp : pc + 3 = pc')
    (kx : ∀ E, px E → JX p l e R s m args below meth c nL Z (cells + mc) (slots + ms) Q al sh S pc lv E)
    (kk : ∀ v al' sh' S', post v al' sh' S' → J p l e R s m args below meth c nL Z (cells + mc) (slots + ms) Q al' sh' S' pc' lv (v.toList ++ rest)) : J p l e R s m args below meth c nL Z cells slots Q al sh S pc lv st0 := by
  subst hst
  refine J.behindX (a := (Value.ref b :: As).toArray) hp (fun H locs ls hW hS hl => ?_) kx kk
  exact vx_runV cx.1 hM (cwV As.length cx.1.2.2.2.2 hT hw hrc hrs hd hR) ⟨Pn.blind, by rw [hb]; have := hW.recv cx hs hc; rw [hrC] at this; exact this, Pn.at cx hW hS⟩ rfl rfl hl.1 rfl (lv_room hsum) d hf
theorem j_callS (cx : Cx p s m args c cc nL own Ts Z) (hM : Ct l y ws rm mc ms Z As al sh S post) (hT : GoodIn Ts (va_wsS own idx y ws)) (hw : ws = Cond.code y bytes maxL ret :: ws') (hrc : rm.cells = mc) (hrs : rm.slots = ms)
    (hd : y.cls ≠ "java/lang/invoke/MethodHandle" ∧ y.cls ≠ "java/lang/invoke/VarHandle" ∧ (parseMethodDescriptor y.desc).map (fun d => d.parameters.length) = some As.length) (hR : rm.frames + 1 ≤ R.frames ∧ 8 + (maxL + 11) + rm.locals ≤ R.locals)
    {st0 : List Value} (hst : st0 = As.reverse ++ rest) (hsum : (rest.map fun v => v.category).sum ≤ 8) (d : decode cc pc = .ok (.invokestatic idx, 3)) (hf : cells + mc ≤ R.cells ∧ slots + ms ≤ R.slots) (hp : pc + 3 = pc')
    (kk : ∀ v al' sh' S', post v al' sh' S' → J p l e R s m args below meth c nL Z (cells + mc) (slots + ms) Q al' sh' S' pc' lv (v.toList ++ rest)) : J p l e R s m args below meth c nL Z cells slots Q al sh S pc lv st0 := by
  subst hst
  refine J.behind (a := As.toArray) hp (fun H locs ls hW hS hl => ?_) kk
  exact va_runS cx.1 hM (va_cwS As.length cx.1.2.2.2.2 hT hw hrc hrs hd hR) ⟨Pn.blind, Pn.at cx hW hS⟩ rfl rfl hl.1 rfl (lv_room hsum) d hf
theorem j_callSx (cx : Cx p s m args c cc nL own Ts Z) (hM : Cq l y ws rm mc ms Z As al sh S post px) (hT : GoodIn Ts (va_wsS own idx y ws)) (hw : ws = Cond.code y bytes maxL ret :: ws') (hrc : rm.cells = mc) (hrs : rm.slots = ms)
    (hd : y.cls ≠ "java/lang/invoke/MethodHandle" ∧ y.cls ≠ "java/lang/invoke/VarHandle" ∧ (parseMethodDescriptor y.desc).map (fun d => d.parameters.length) = some As.length) (hR : rm.frames + 1 ≤ R.frames ∧ 8 + (maxL + 11) + rm.locals ≤ R.locals)
    {st0 : List Value} (hst : st0 = As.reverse ++ rest) (hsum : (rest.map fun v => v.category).sum ≤ 8) (d : decode cc pc = .ok (.invokestatic idx, 3)) (hf : cells + mc ≤ R.cells ∧ slots + ms ≤ R.slots) (hp : pc + 3 = pc')
    (kx : ∀ E, px E → JX p l e R s m args below meth c nL Z (cells + mc) (slots + ms) Q al sh S pc lv E)
    (kk : ∀ v al' sh' S', post v al' sh' S' → J p l e R s m args below meth c nL Z (cells + mc) (slots + ms) Q al' sh' S' pc' lv (v.toList ++ rest)) : J p l e R s m args below meth c nL Z cells slots Q al sh S pc lv st0 := by
  subst hst
  refine J.behindX (a := As.toArray) hp (fun H locs ls hW hS hl => ?_) kx kk
  exact vx_runS cx.1 hM (va_cwS As.length cx.1.2.2.2.2 hT hw hrc hrs hd hR) ⟨Pn.blind, Pn.at cx hW hS⟩ rfl rfl hl.1 rfl (lv_room hsum) d hf
theorem j_callSW (cx : Cx p s m args c cc nL own Ts Z) (hM : Ct l y ws rm mc ms Z As al sh S post) (hT : GoodIn Ts (va_wsS own idx y ws)) (hw : ws = Cond.codeWith y bytes maxL ret hh :: ws') (hrc : rm.cells = mc) (hrs : rm.slots = ms)
    (hd : y.cls ≠ "java/lang/invoke/MethodHandle" ∧ y.cls ≠ "java/lang/invoke/VarHandle" ∧ (parseMethodDescriptor y.desc).map (fun d => d.parameters.length) = some As.length) (hR : rm.frames + 1 ≤ R.frames ∧ 8 + (maxL + 11) + rm.locals ≤ R.locals)
    {st0 : List Value} (hst : st0 = As.reverse ++ rest) (hsum : (rest.map fun v => v.category).sum ≤ 8) (d : decode cc pc = .ok (.invokestatic idx, 3)) (hf : cells + mc ≤ R.cells ∧ slots + ms ≤ R.slots) (hp : pc + 3 = pc')
    (kk : ∀ v al' sh' S', post v al' sh' S' → J p l e R s m args below meth c nL Z (cells + mc) (slots + ms) Q al' sh' S' pc' lv (v.toList ++ rest)) : J p l e R s m args below meth c nL Z cells slots Q al sh S pc lv st0 := by
  subst hst
  refine J.behind (a := As.toArray) hp (fun H locs ls hW hS hl => ?_) kk
  exact vx_runSW cx.1 hM (vx_cwSW As.length cx.1.2.2.2.2 hT hw hrc hrs hd hR) ⟨Pn.blind, Pn.at cx hW hS⟩ rfl rfl hl.1 rfl (lv_room hsum) d hf
theorem j_callI (cx : Cx p s m args c cc nL own Ts Z) (hM : Ct l y ws rm mc ms Z (.ref b :: As) al sh S post) (hT : GoodIn Ts ws) (hw : ws = Cond.code y bytes maxL none :: ws') (hrc : rm.cells = mc) (hrs : rm.slots = ms)
    (hini : Cond.initialized y.cls ∈ Ts) (hlk : Cond.methodLink own idx y ∈ Ts) (hin : Cond.instanceMethod y ∈ Ts) (hy1 : y.name = "<init>")
    (hd : y.cls ≠ "java/lang/invoke/MethodHandle" ∧ y.cls ≠ "java/lang/invoke/VarHandle" ∧ (parseMethodDescriptor y.desc).map (fun d => d.parameters.length) = some As.length) (hR : rm.frames + 1 ≤ R.frames ∧ 8 + (maxL + 11) + rm.locals ≤ R.locals)
    {st0 : List Value} (hst : st0 = As.reverse ++ .ref b :: rest) (hsum : (rest.map fun v => v.category).sum ≤ 8) (d : decode cc pc = .ok (.invokespecial idx, 3)) (hf : cells + mc ≤ R.cells ∧ slots + ms ≤ R.slots) (hp : pc + 3 = pc')
    (kk : ∀ v al' sh' S', post v al' sh' S' → J p l e R s m args below meth c nL Z (cells + mc) (slots + ms) Q al' sh' S' pc' lv (v.toList ++ rest)) : J p l e R s m args below meth c nL Z cells slots Q al sh S pc lv st0 := by
  subst hst
  refine J.behind (a := (Value.ref b :: As).toArray) hp (fun H locs ls hW hS hl => ?_) kk
  exact va_runI cx.1 hM (cwI As.length cx.1.2.2.2.2 hT hw hrc hrs (cx.1.2.2.2.2 _ hini) (cx.1.2.2.2.2 _ hlk) (cx.1.2.2.2.2 _ hin) hy1 hd hR) ⟨Pn.blind, Pn.at cx hW hS⟩ rfl rfl hl.1 rfl (lv_room hsum) d hf
end CALLS
section ENDS
variable {mc ms : Nat} {post : yPost} {px : String → Prop} {al0 : yAl} {sh0 : ySh} {S0 : yS}
theorem yQ.at {H : Heap} {locs : List Loc} {a : Array Value} {v : Option Value} (hW : yW Z.1 Z.2.2.1 al sh S H) (hS : va_S (yF Z) s.heap H locs) (hp : post v al sh S) : ∀ t : State, t.heap = H → s.WarmedH t.vm → Qn Z post a s (.returned v) t := fun t ht hw =>
  ⟨⟨v, al, sh, S, rfl, hp, by rw [ht]; exact hW⟩, hS.F ht⟩
theorem j_iret (cx : Cx p s m args c cc nL own Ts Z) (hlk : meth.locks = false) {ty : FieldType} (hr : meth.sig.returnType = some ty) {x : Int32} (hn : narrow ty (.int x) = .int x) (hc : cells ≤ mc) (hs : slots ≤ ms) (d : decode cc pc = .ok (.ireturn, 1)) (hp : post (some (.int x)) al sh S) :
    J p l e R s m args below meth c nL Z cells slots (MQ below (Qn Z post) args s mc ms (yF Z)) al sh S pc lv [.int x] := fun H locs ls hW hS hl =>
  W.widen hc hs (W.zret (ty := ty) cx.1.1 cx.1.2.1 hr hn (yQ.at hW hS hp) hS.2.2 d hlk)
theorem j_vret (cx : Cx p s m args c cc nL own Ts Z) (hlk : meth.locks = false) (hr : meth.sig.returnType = none) (hc : cells ≤ mc) (hs : slots ≤ ms) (d : decode cc pc = .ok (.return_, 1)) (hp : post none al sh S) :
    J p l e R s m args below meth c nL Z cells slots (MQ below (Qn Z post) args s mc ms (yF Z)) al sh S pc lv [] := fun H locs ls hW hS hl =>
  W.widen hc hs (W.vret cx.1.1 cx.1.2.1 hr (yQ.at hW hS hp) hS.2.2 d hlk)
theorem j_aret (cx : Cx p s m args c cc nL own Ts Z) (hlk : meth.locks = false) {ty : FieldType} (hr : meth.sig.returnType = some ty) (hty : (∃ n, ty = .object n) ∨ ∃ t, ty = .array t) {a : Addr} (hc : cells ≤ mc) (hs : slots ≤ ms) (d : decode cc pc = .ok (.areturn, 1)) (hp : post (some (.ref a)) al sh S) :
    J p l e R s m args below meth c nL Z cells slots (MQ below (Qn Z post) args s mc ms (yF Z)) al sh S pc lv [.ref a] := fun H locs ls hW hS hl =>
  W.widen hc hs (W.aret cx.1.1 cx.1.2.1 hr hty (Or.inr ⟨a, rfl⟩) (yQ.at hW hS hp) hS.2.2 d hlk)
theorem j_fret (cx : Cx p s m args c cc nL own Ts Z) (hlk : meth.locks = false) (hr : meth.sig.returnType = some .float) {x : UInt32} (hc : cells ≤ mc) (hs : slots ≤ ms) (d : decode cc pc = .ok (.freturn, 1)) (hp : post (some (.float x)) al sh S) :
    J p l e R s m args below meth c nL Z cells slots (MQ below (Qn Z post) args s mc ms (yF Z)) al sh S pc lv [.float x] := fun H locs ls hW hS hl =>
  W.widen hc hs (W.fret cx.1.1 cx.1.2.1 hr (yQ.at hW hS hp) hS.2.2 d hlk)
theorem j_dret (cx : Cx p s m args c cc nL own Ts Z) (hlk : meth.locks = false) (hr : meth.sig.returnType = some .double) {x : UInt64} (hc : cells ≤ mc) (hs : slots ≤ ms) (d : decode cc pc = .ok (.dreturn, 1)) (hp : post (some (.double x)) al sh S) :
    J p l e R s m args below meth c nL Z cells slots (MQ below (Qn Z post) args s mc ms (yF Z)) al sh S pc lv [.double x] := fun H locs ls hW hS hl =>
  W.widen hc hs (W.dret cx.1.1 cx.1.2.1 hr (yQ.at hW hS hp) hS.2.2 d hlk)
theorem J.ret (XC : String → State → State → Prop) (kk : J p l e R s m args below meth c nL Z cells slots (MQ below (Qn Z post) args s mc ms (yF Z)) al sh S pc lv st) : J p l e R s m args below meth c nL Z cells slots (vx_MQ below (Qn Z post) XC args s mc ms (yF Z)) al sh S pc lv st := fun H locs ls hW hS hl => vx_ret (kk H locs ls hW hS hl)
/-- an exception that this method doesn't catch -/
theorem jx_out (hlk : meth.locks = false) (htb : ∀ x ∈ c.exceptionTable.toList, False) {E : String} (hc : cells ≤ mc) (hs : slots ≤ ms) (hp : px E) :
    JX p l e R s m args below meth c nL Z cells slots (vx_MQ below (Qn Z post) (Qx Z px al sh S) args s mc ms (yF Z)) al sh S pc lv E := by
  intro H locs ls q ce st hW hS hl h1 h2 h3
  refine vx_widen hc hs ?_
  exact vx_out (fun x hx => (htb x hx).elim) hlk h1 h2 h3 (fun t ht _ => ⟨hp, by rw [ht]; exact hW, hS.F ht⟩) hS.2.2 (Nat.le_refl _) (Nat.le_refl _)
end ENDS
end JR
end
section
section JROWS
variable {p : Program} {l : Launch} {e : Env} {R : Room} {s : State} {m : MethodId} {args : Array Value} {below : List Frame} {meth : Method} {c : Code} {cells slots : Nat} {Q : State → Prop} {cc : ByteArray} {nL pc pc' : Nat} {own : String} {Ts : List Cond} {Z : yL} {al : yAl} {sh : ySh} {S : yS} {lv lv' : List (Nat × Value)} {st rest : List Value}
theorem j_iconst (cx : Cx p s m args c cc nL own Ts Z) {n : Int} {v : Int32} (d : decode cc pc = .ok (.iconst n, 1)) (hv : Int32.ofInt n = v) (hp : pc + 1 = pc') (k : J p l e R s m args below meth c nL Z cells slots Q al sh S pc' lv (.int v :: st)) : J p l e R s m args below meth c nL Z cells slots Q al sh S pc lv (st) := by
  subst hp
  exact fun H locs ls hW hS hl => lv_iconst cx.1.1 cx.1.2.1 d hv (k H locs ls hW hS hl)
theorem j_bipush (cx : Cx p s m args c cc nL own Ts Z) {n : Int} {v : Int32} (d : decode cc pc = .ok (.bipush n, 2)) (hv : (Int8.ofInt n).toInt32 = v) (hp : pc + 2 = pc') (k : J p l e R s m args below meth c nL Z cells slots Q al sh S pc' lv (.int v :: st)) : J p l e R s m args below meth c nL Z cells slots Q al sh S pc lv (st) := by
  subst hp
  exact fun H locs ls hW hS hl => lv_bipush cx.1.1 cx.1.2.1 d hv (k H locs ls hW hS hl)
theorem j_sipush (cx : Cx p s m args c cc nL own Ts Z) {n : Int} {v : Int32} (d : decode cc pc = .ok (.sipush n, 3)) (hv : (Int16.ofInt n).toInt32 = v) (hp : pc + 3 = pc') (k : J p l e R s m args below meth c nL Z cells slots Q al sh S pc' lv (.int v :: st)) : J p l e R s m args below meth c nL Z cells slots Q al sh S pc lv (st) := by
  subst hp
  exact fun H locs ls hW hS hl => lv_sipush cx.1.1 cx.1.2.1 d hv (k H locs ls hW hS hl)
theorem j_iload_n (cx : Cx p s m args c cc nL own Ts Z) {kk : Fin 4} {i : Nat} {x : Int32} {j : Nat} (d : decode cc pc = .ok (.iload_n kk, 1)) (hi : (kk : Nat) = i) (hk : lv[j]? = some (i, .int x)) (hp : pc + 1 = pc') (k : J p l e R s m args below meth c nL Z cells slots Q al sh S pc' lv (.int x :: st)) : J p l e R s m args below meth c nL Z cells slots Q al sh S pc lv (st) := by
  subst hp
  exact fun H locs ls hW hS hl => lv_iload_n cx.1.1 cx.1.2.1 d hi (lv_at hl j hk) (k H locs ls hW hS hl)
theorem j_iload (cx : Cx p s m args c cc nL own Ts Z) {i : Nat} {x : Int32} {j : Nat} (d : decode cc pc = .ok (.iload i, 2)) (hk : lv[j]? = some (i, .int x)) (hp : pc + 2 = pc') (k : J p l e R s m args below meth c nL Z cells slots Q al sh S pc' lv (.int x :: st)) : J p l e R s m args below meth c nL Z cells slots Q al sh S pc lv (st) := by
  subst hp
  exact fun H locs ls hW hS hl => lv_iload cx.1.1 cx.1.2.1 d (lv_at hl j hk) (k H locs ls hW hS hl)
theorem j_aload_n (cx : Cx p s m args c cc nL own Ts Z) {kk : Fin 4} {i : Nat} {x : Nat} {j : Nat} (d : decode cc pc = .ok (.aload_n kk, 1)) (hi : (kk : Nat) = i) (hk : lv[j]? = some (i, .ref x)) (hp : pc + 1 = pc') (k : J p l e R s m args below meth c nL Z cells slots Q al sh S pc' lv (.ref x :: st)) : J p l e R s m args below meth c nL Z cells slots Q al sh S pc lv (st) := by
  subst hp
  exact fun H locs ls hW hS hl => lv_aload_n cx.1.1 cx.1.2.1 d hi (lv_at hl j hk) (k H locs ls hW hS hl)
theorem j_aload (cx : Cx p s m args c cc nL own Ts Z) {i : Nat} {x : Nat} {j : Nat} (d : decode cc pc = .ok (.aload i, 2)) (hk : lv[j]? = some (i, .ref x)) (hp : pc + 2 = pc') (k : J p l e R s m args below meth c nL Z cells slots Q al sh S pc' lv (.ref x :: st)) : J p l e R s m args below meth c nL Z cells slots Q al sh S pc lv (st) := by
  subst hp
  exact fun H locs ls hW hS hl => lv_aload cx.1.1 cx.1.2.1 d (lv_at hl j hk) (k H locs ls hW hS hl)
theorem j_fload_n (cx : Cx p s m args c cc nL own Ts Z) {kk : Fin 4} {i : Nat} {x : UInt32} {j : Nat} (d : decode cc pc = .ok (.fload_n kk, 1)) (hi : (kk : Nat) = i) (hk : lv[j]? = some (i, .float x)) (hp : pc + 1 = pc') (k : J p l e R s m args below meth c nL Z cells slots Q al sh S pc' lv (.float x :: st)) : J p l e R s m args below meth c nL Z cells slots Q al sh S pc lv (st) := by
  subst hp
  exact fun H locs ls hW hS hl => lv_fload_n cx.1.1 cx.1.2.1 d hi (lv_at hl j hk) (k H locs ls hW hS hl)
theorem j_fload (cx : Cx p s m args c cc nL own Ts Z) {i : Nat} {x : UInt32} {j : Nat} (d : decode cc pc = .ok (.fload i, 2)) (hk : lv[j]? = some (i, .float x)) (hp : pc + 2 = pc') (k : J p l e R s m args below meth c nL Z cells slots Q al sh S pc' lv (.float x :: st)) : J p l e R s m args below meth c nL Z cells slots Q al sh S pc lv (st) := by
  subst hp
  exact fun H locs ls hW hS hl => lv_fload cx.1.1 cx.1.2.1 d (lv_at hl j hk) (k H locs ls hW hS hl)
theorem j_dload_n (cx : Cx p s m args c cc nL own Ts Z) {kk : Fin 4} {i : Nat} {x : UInt64} {j : Nat} (d : decode cc pc = .ok (.dload_n kk, 1)) (hi : (kk : Nat) = i) (hk : lv[j]? = some (i, .double x)) (hp : pc + 1 = pc') (k : J p l e R s m args below meth c nL Z cells slots Q al sh S pc' lv (.double x :: st)) : J p l e R s m args below meth c nL Z cells slots Q al sh S pc lv (st) := by
  subst hp
  exact fun H locs ls hW hS hl => lv_dload_n cx.1.1 cx.1.2.1 d hi (lv_at hl j hk) (k H locs ls hW hS hl)
theorem j_dload (cx : Cx p s m args c cc nL own Ts Z) {i : Nat} {x : UInt64} {j : Nat} (d : decode cc pc = .ok (.dload i, 2)) (hk : lv[j]? = some (i, .double x)) (hp : pc + 2 = pc') (k : J p l e R s m args below meth c nL Z cells slots Q al sh S pc' lv (.double x :: st)) : J p l e R s m args below meth c nL Z cells slots Q al sh S pc lv (st) := by
  subst hp
  exact fun H locs ls hW hS hl => lv_dload cx.1.1 cx.1.2.1 d (lv_at hl j hk) (k H locs ls hW hS hl)
theorem j_istore_n (cx : Cx p s m args c cc nL own Ts Z) {kk : Fin 4} {i : Nat} {x : Int32} (d : decode cc pc = .ok (.istore_n kk, 1)) (hi : (kk : Nat) = i) (hn : i < nL) (hl' : (i, Value.int x) :: lv.filter (fun q => !(q.1 == i) && !(q.1 + 1 == i && q.2.category == 2)) = lv') (hp : pc + 1 = pc') (k : J p l e R s m args below meth c nL Z cells slots Q al sh S pc' lv' st) : J p l e R s m args below meth c nL Z cells slots Q al sh S pc lv (.int x :: st) := by
  subst hp
  exact fun H locs ls hW hS hl => lv_istore_n cx.1.1 cx.1.2.1 d hi hl hn hl' (fun ls' h' => k H locs ls' hW hS h')
theorem j_istore (cx : Cx p s m args c cc nL own Ts Z) {i : Nat} {x : Int32} (d : decode cc pc = .ok (.istore i, 2)) (hn : i < nL) (hl' : (i, Value.int x) :: lv.filter (fun q => !(q.1 == i) && !(q.1 + 1 == i && q.2.category == 2)) = lv') (hp : pc + 2 = pc') (k : J p l e R s m args below meth c nL Z cells slots Q al sh S pc' lv' st) : J p l e R s m args below meth c nL Z cells slots Q al sh S pc lv (.int x :: st) := by
  subst hp
  exact fun H locs ls hW hS hl => lv_istore cx.1.1 cx.1.2.1 d hl hn hl' (fun ls' h' => k H locs ls' hW hS h')
theorem j_astore_n (cx : Cx p s m args c cc nL own Ts Z) {kk : Fin 4} {i : Nat} {x : Nat} (d : decode cc pc = .ok (.astore_n kk, 1)) (hi : (kk : Nat) = i) (hn : i < nL) (hl' : (i, Value.ref x) :: lv.filter (fun q => !(q.1 == i) && !(q.1 + 1 == i && q.2.category == 2)) = lv') (hp : pc + 1 = pc') (k : J p l e R s m args below meth c nL Z cells slots Q al sh S pc' lv' st) : J p l e R s m args below meth c nL Z cells slots Q al sh S pc lv (.ref x :: st) := by
  subst hp
  exact fun H locs ls hW hS hl => lv_astore_n cx.1.1 cx.1.2.1 d hi hl hn hl' (fun ls' h' => k H locs ls' hW hS h')
theorem j_astore (cx : Cx p s m args c cc nL own Ts Z) {i : Nat} {x : Nat} (d : decode cc pc = .ok (.astore i, 2)) (hn : i < nL) (hl' : (i, Value.ref x) :: lv.filter (fun q => !(q.1 == i) && !(q.1 + 1 == i && q.2.category == 2)) = lv') (hp : pc + 2 = pc') (k : J p l e R s m args below meth c nL Z cells slots Q al sh S pc' lv' st) : J p l e R s m args below meth c nL Z cells slots Q al sh S pc lv (.ref x :: st) := by
  subst hp
  exact fun H locs ls hW hS hl => lv_astore cx.1.1 cx.1.2.1 d hl hn hl' (fun ls' h' => k H locs ls' hW hS h')
theorem j_fstore_n (cx : Cx p s m args c cc nL own Ts Z) {kk : Fin 4} {i : Nat} {x : UInt32} (d : decode cc pc = .ok (.fstore_n kk, 1)) (hi : (kk : Nat) = i) (hn : i < nL) (hl' : (i, Value.float x) :: lv.filter (fun q => !(q.1 == i) && !(q.1 + 1 == i && q.2.category == 2)) = lv') (hp : pc + 1 = pc') (k : J p l e R s m args below meth c nL Z cells slots Q al sh S pc' lv' st) : J p l e R s m args below meth c nL Z cells slots Q al sh S pc lv (.float x :: st) := by
  subst hp
  exact fun H locs ls hW hS hl => lv_fstore_n cx.1.1 cx.1.2.1 d hi hl hn hl' (fun ls' h' => k H locs ls' hW hS h')
theorem j_fstore (cx : Cx p s m args c cc nL own Ts Z) {i : Nat} {x : UInt32} (d : decode cc pc = .ok (.fstore i, 2)) (hn : i < nL) (hl' : (i, Value.float x) :: lv.filter (fun q => !(q.1 == i) && !(q.1 + 1 == i && q.2.category == 2)) = lv') (hp : pc + 2 = pc') (k : J p l e R s m args below meth c nL Z cells slots Q al sh S pc' lv' st) : J p l e R s m args below meth c nL Z cells slots Q al sh S pc lv (.float x :: st) := by
  subst hp
  exact fun H locs ls hW hS hl => lv_fstore cx.1.1 cx.1.2.1 d hl hn hl' (fun ls' h' => k H locs ls' hW hS h')
theorem j_dstore_n (cx : Cx p s m args c cc nL own Ts Z) {kk : Fin 4} {i : Nat} {x : UInt64} (d : decode cc pc = .ok (.dstore_n kk, 1)) (hi : (kk : Nat) = i) (hn : i + 1 < nL) (hl' : (i, Value.double x) :: lv.filter (fun q => !(q.1 == i) && (!(q.1 == i + 1) && !(q.1 + 1 == i && q.2.category == 2))) = lv') (hp : pc + 1 = pc') (k : J p l e R s m args below meth c nL Z cells slots Q al sh S pc' lv' st) : J p l e R s m args below meth c nL Z cells slots Q al sh S pc lv (.double x :: st) := by
  subst hp
  exact fun H locs ls hW hS hl => lv_dstore_n cx.1.1 cx.1.2.1 d hi hl hn hl' (fun ls' h' => k H locs ls' hW hS h')
theorem j_dstore (cx : Cx p s m args c cc nL own Ts Z) {i : Nat} {x : UInt64} (d : decode cc pc = .ok (.dstore i, 2)) (hn : i + 1 < nL) (hl' : (i, Value.double x) :: lv.filter (fun q => !(q.1 == i) && (!(q.1 == i + 1) && !(q.1 + 1 == i && q.2.category == 2))) = lv') (hp : pc + 2 = pc') (k : J p l e R s m args below meth c nL Z cells slots Q al sh S pc' lv' st) : J p l e R s m args below meth c nL Z cells slots Q al sh S pc lv (.double x :: st) := by
  subst hp
  exact fun H locs ls hW hS hl => lv_dstore cx.1.1 cx.1.2.1 d hl hn hl' (fun ls' h' => k H locs ls' hW hS h')
theorem j_iinc (cx : Cx p s m args c cc nL own Ts Z) {i j : Nat} {n : Int} {x v : Int32} (d : decode cc pc = .ok (.iinc i n, 3)) (hk : lv[j]? = some (i, .int x)) (hv : x + Int32.ofInt n = v) (hn : i < nL) (hl' : (i, Value.int v) :: lv.filter (fun q => !(q.1 == i) && !(q.1 + 1 == i && q.2.category == 2)) = lv') (hp : pc + 3 = pc') (k : J p l e R s m args below meth c nL Z cells slots Q al sh S pc' lv' st) : J p l e R s m args below meth c nL Z cells slots Q al sh S pc lv st := by
  subst hp
  exact fun H locs ls hW hS hl => lv_iinc (k := j) cx.1.1 cx.1.2.1 d hl hk hv hn hl' (fun ls' h' => k H locs ls' hW hS h')
theorem j_iadd (cx : Cx p s m args c cc nL own Ts Z) {x y : Int32} (d : decode cc pc = .ok (.iadd, 1))  (hp : pc + 1 = pc') (k : J p l e R s m args below meth c nL Z cells slots Q al sh S pc' lv (.int (x + y) :: st)) : J p l e R s m args below meth c nL Z cells slots Q al sh S pc lv (.int y :: .int x :: st) := by
  subst hp
  exact fun H locs ls hW hS hl => lv_iadd cx.1.1 cx.1.2.1 d  (k H locs ls hW hS hl)
theorem j_isub (cx : Cx p s m args c cc nL own Ts Z) {x y : Int32} (d : decode cc pc = .ok (.isub, 1))  (hp : pc + 1 = pc') (k : J p l e R s m args below meth c nL Z cells slots Q al sh S pc' lv (.int (x - y) :: st)) : J p l e R s m args below meth c nL Z cells slots Q al sh S pc lv (.int y :: .int x :: st) := by
  subst hp
  exact fun H locs ls hW hS hl => lv_isub cx.1.1 cx.1.2.1 d  (k H locs ls hW hS hl)
theorem j_imul (cx : Cx p s m args c cc nL own Ts Z) {x y : Int32} (d : decode cc pc = .ok (.imul, 1))  (hp : pc + 1 = pc') (k : J p l e R s m args below meth c nL Z cells slots Q al sh S pc' lv (.int (x * y) :: st)) : J p l e R s m args below meth c nL Z cells slots Q al sh S pc lv (.int y :: .int x :: st) := by
  subst hp
  exact fun H locs ls hW hS hl => lv_imul cx.1.1 cx.1.2.1 d  (k H locs ls hW hS hl)
theorem j_iand (cx : Cx p s m args c cc nL own Ts Z) {x y : Int32} (d : decode cc pc = .ok (.iand, 1))  (hp : pc + 1 = pc') (k : J p l e R s m args below meth c nL Z cells slots Q al sh S pc' lv (.int (x &&& y) :: st)) : J p l e R s m args below meth c nL Z cells slots Q al sh S pc lv (.int y :: .int x :: st) := by
  subst hp
  exact fun H locs ls hW hS hl => lv_iand cx.1.1 cx.1.2.1 d  (k H locs ls hW hS hl)
theorem j_ishr (cx : Cx p s m args c cc nL own Ts Z) {x y : Int32} (d : decode cc pc = .ok (.ishr, 1))  (hp : pc + 1 = pc') (k : J p l e R s m args below meth c nL Z cells slots Q al sh S pc' lv (.int (x >>> (y &&& 31)) :: st)) : J p l e R s m args below meth c nL Z cells slots Q al sh S pc lv (.int y :: .int x :: st) := by
  subst hp
  exact fun H locs ls hW hS hl => lv_ishr cx.1.1 cx.1.2.1 d  (k H locs ls hW hS hl)
theorem j_i2l (cx : Cx p s m args c cc nL own Ts Z) {x : Int32} {v : Int64} (d : decode cc pc = .ok (.i2l, 1)) (hv : x.toInt64 = v) (hp : pc + 1 = pc') (k : J p l e R s m args below meth c nL Z cells slots Q al sh S pc' lv (.long v :: st)) : J p l e R s m args below meth c nL Z cells slots Q al sh S pc lv (.int x :: st) := by
  subst hp
  exact fun H locs ls hW hS hl => lv_i2l cx.1.1 cx.1.2.1 d hv (k H locs ls hW hS hl)
theorem j_i2f (cx : Cx p s m args c cc nL own Ts Z) {x : Int32} (d : decode cc pc = .ok (.i2f, 1))  (hp : pc + 1 = pc') (k : J p l e R s m args below meth c nL Z cells slots Q al sh S pc' lv (.float (FP.i2f x) :: st)) : J p l e R s m args below meth c nL Z cells slots Q al sh S pc lv (.int x :: st) := by
  subst hp
  exact fun H locs ls hW hS hl => lv_i2f cx.1.1 cx.1.2.1 d  (k H locs ls hW hS hl)
theorem j_i2d (cx : Cx p s m args c cc nL own Ts Z) {x : Int32} (d : decode cc pc = .ok (.i2d, 1))  (hp : pc + 1 = pc') (k : J p l e R s m args below meth c nL Z cells slots Q al sh S pc' lv (.double (FP.i2d x) :: st)) : J p l e R s m args below meth c nL Z cells slots Q al sh S pc lv (.int x :: st) := by
  subst hp
  exact fun H locs ls hW hS hl => lv_i2d cx.1.1 cx.1.2.1 d  (k H locs ls hW hS hl)
theorem j_f2d (cx : Cx p s m args c cc nL own Ts Z) {x : UInt32} (d : decode cc pc = .ok (.f2d, 1)) (hne : vf_n64 (FP.f2d x)) (hp : pc + 1 = pc') (k : J p l e R s m args below meth c nL Z cells slots Q al sh S pc' lv (.double (FP.f2d x) :: st)) : J p l e R s m args below meth c nL Z cells slots Q al sh S pc lv (.float x :: st) := by
  subst hp
  exact fun H locs ls hW hS hl => lv_f2d cx.1.1 cx.1.2.1 d hne (k H locs ls hW hS hl)
theorem j_fdiv (cx : Cx p s m args c cc nL own Ts Z) {x y : UInt32} (d : decode cc pc = .ok (.fdiv, 1)) (hne : vf_n32 (FP.fdiv x y)) (hp : pc + 1 = pc') (k : J p l e R s m args below meth c nL Z cells slots Q al sh S pc' lv (.float (FP.fdiv x y) :: st)) : J p l e R s m args below meth c nL Z cells slots Q al sh S pc lv (.float y :: .float x :: st) := by
  subst hp
  exact fun H locs ls hW hS hl => lv_fdiv cx.1.1 cx.1.2.1 d hne (k H locs ls hW hS hl)
theorem j_ddiv (cx : Cx p s m args c cc nL own Ts Z) {x y : UInt64} (d : decode cc pc = .ok (.ddiv, 1)) (hne : vf_n64 (FP.ddiv x y)) (hp : pc + 1 = pc') (k : J p l e R s m args below meth c nL Z cells slots Q al sh S pc' lv (.double (FP.ddiv x y) :: st)) : J p l e R s m args below meth c nL Z cells slots Q al sh S pc lv (.double y :: .double x :: st) := by
  subst hp
  exact fun H locs ls hW hS hl => lv_ddiv cx.1.1 cx.1.2.1 d hne (k H locs ls hW hS hl)
theorem j_fcmp (cx : Cx p s m args c cc nL own Ts Z) {x y : UInt32} {op : CmpOp} (d : decode cc pc = .ok (.fcmp op, 1))  (hp : pc + 1 = pc') (k : J p l e R s m args below meth c nL Z cells slots Q al sh S pc' lv (.int (Op.cmpValue (FP.fcmp x y) op) :: st)) : J p l e R s m args below meth c nL Z cells slots Q al sh S pc lv (.float y :: .float x :: st) := by
  subst hp
  exact fun H locs ls hW hS hl => lv_fcmp cx.1.1 cx.1.2.1 d  (k H locs ls hW hS hl)
theorem j_dcmp (cx : Cx p s m args c cc nL own Ts Z) {x y : UInt64} {op : CmpOp} (d : decode cc pc = .ok (.dcmp op, 1))  (hp : pc + 1 = pc') (k : J p l e R s m args below meth c nL Z cells slots Q al sh S pc' lv (.int (Op.cmpValue (FP.dcmp x y) op) :: st)) : J p l e R s m args below meth c nL Z cells slots Q al sh S pc lv (.double y :: .double x :: st) := by
  subst hp
  exact fun H locs ls hW hS hl => lv_dcmp cx.1.1 cx.1.2.1 d  (k H locs ls hW hS hl)
theorem j_fconst0 (cx : Cx p s m args c cc nL own Ts Z)  (d : decode cc pc = .ok (.fconst 0, 1))  (hp : pc + 1 = pc') (k : J p l e R s m args below meth c nL Z cells slots Q al sh S pc' lv (.float 0 :: st)) : J p l e R s m args below meth c nL Z cells slots Q al sh S pc lv (st) := by
  subst hp
  exact fun H locs ls hW hS hl => lv_fconst0 cx.1.1 cx.1.2.1 d  (k H locs ls hW hS hl)
theorem j_dconst0 (cx : Cx p s m args c cc nL own Ts Z)  (d : decode cc pc = .ok (.dconst 0, 1))  (hp : pc + 1 = pc') (k : J p l e R s m args below meth c nL Z cells slots Q al sh S pc' lv (.double 0 :: st)) : J p l e R s m args below meth c nL Z cells slots Q al sh S pc lv (st) := by
  subst hp
  exact fun H locs ls hW hS hl => lv_dconst0 cx.1.1 cx.1.2.1 d  (k H locs ls hW hS hl)
theorem j_dup (cx : Cx p s m args c cc nL own Ts Z) {va : Value} (d : decode cc pc = .ok (.dup, 1)) (hva : va.category = 1) (hp : pc + 1 = pc') (k : J p l e R s m args below meth c nL Z cells slots Q al sh S pc' lv (va :: va :: st)) : J p l e R s m args below meth c nL Z cells slots Q al sh S pc lv (va :: st) := by
  subst hp
  exact fun H locs ls hW hS hl => lv_dup cx.1.1 cx.1.2.1 d hva (k H locs ls hW hS hl)
theorem j_pop (cx : Cx p s m args c cc nL own Ts Z) {va : Value} (d : decode cc pc = .ok (.pop, 1)) (hva : va.category = 1) (hp : pc + 1 = pc') (k : J p l e R s m args below meth c nL Z cells slots Q al sh S pc' lv (st)) : J p l e R s m args below meth c nL Z cells slots Q al sh S pc lv (va :: st) := by
  subst hp
  exact fun H locs ls hW hS hl => lv_pop cx.1.1 cx.1.2.1 d hva (k H locs ls hW hS hl)
theorem j_dup_x1 (cx : Cx p s m args c cc nL own Ts Z) {va vb : Value} (d : decode cc pc = .ok (.dup_x1, 1)) (hva : va.category = 1) (hvb : vb.category = 1) (hp : pc + 1 = pc') (k : J p l e R s m args below meth c nL Z cells slots Q al sh S pc' lv (va :: vb :: va :: st)) : J p l e R s m args below meth c nL Z cells slots Q al sh S pc lv (va :: vb :: st) := by
  subst hp
  exact fun H locs ls hW hS hl => lv_dup_x1 cx.1.1 cx.1.2.1 d hva hvb (k H locs ls hW hS hl)
theorem j_dup2 (cx : Cx p s m args c cc nL own Ts Z) {va vb : Value} (d : decode cc pc = .ok (.dup2, 1)) (hva : va.category = 1) (hvb : vb.category = 1) (hp : pc + 1 = pc') (k : J p l e R s m args below meth c nL Z cells slots Q al sh S pc' lv (va :: vb :: va :: vb :: st)) : J p l e R s m args below meth c nL Z cells slots Q al sh S pc lv (va :: vb :: st) := by
  subst hp
  exact fun H locs ls hW hS hl => lv_dup2_11 cx.1.1 cx.1.2.1 d hva hvb (k H locs ls hW hS hl)
theorem j_if_eq (cx : Cx p s m args c cc nL own Ts Z) {x : Int32} {off : Int} {tgt : Nat} (d : decode cc pc = .ok (.ifCond .eq off, 3)) (ht : (pc : Int) + off = (tgt : Int)) (hp : pc + 3 = pc') (kt : x = 0 → J p l e R s m args below meth c nL Z cells slots Q al sh S tgt lv st) (kf : ¬ x = 0 → J p l e R s m args below meth c nL Z cells slots Q al sh S pc' lv st) : J p l e R s m args below meth c nL Z cells slots Q al sh S pc lv (.int x :: st) := by
  subst hp
  exact fun H locs ls hW hS hl => lv_if_eq cx.1.1 cx.1.2.1 d ht (fun h => kt h H locs ls hW hS hl) (fun h => kf h H locs ls hW hS hl)
theorem j_icmp_eq (cx : Cx p s m args c cc nL own Ts Z) {x y : Int32} {off : Int} {tgt : Nat} (d : decode cc pc = .ok (.if_icmp .eq off, 3)) (ht : (pc : Int) + off = (tgt : Int)) (hp : pc + 3 = pc') (kt : x = y → J p l e R s m args below meth c nL Z cells slots Q al sh S tgt lv st) (kf : ¬ x = y → J p l e R s m args below meth c nL Z cells slots Q al sh S pc' lv st) : J p l e R s m args below meth c nL Z cells slots Q al sh S pc lv (.int y :: .int x :: st) := by
  subst hp
  exact fun H locs ls hW hS hl => lv_icmp_eq cx.1.1 cx.1.2.1 d ht (fun h => kt h H locs ls hW hS hl) (fun h => kf h H locs ls hW hS hl)
theorem j_if_ne (cx : Cx p s m args c cc nL own Ts Z) {x : Int32} {off : Int} {tgt : Nat} (d : decode cc pc = .ok (.ifCond .ne off, 3)) (ht : (pc : Int) + off = (tgt : Int)) (hp : pc + 3 = pc') (kt : ¬ x = 0 → J p l e R s m args below meth c nL Z cells slots Q al sh S tgt lv st) (kf : x = 0 → J p l e R s m args below meth c nL Z cells slots Q al sh S pc' lv st) : J p l e R s m args below meth c nL Z cells slots Q al sh S pc lv (.int x :: st) := by
  subst hp
  exact fun H locs ls hW hS hl => lv_if_ne cx.1.1 cx.1.2.1 d ht (fun h => kt h H locs ls hW hS hl) (fun h => kf h H locs ls hW hS hl)
theorem j_icmp_ne (cx : Cx p s m args c cc nL own Ts Z) {x y : Int32} {off : Int} {tgt : Nat} (d : decode cc pc = .ok (.if_icmp .ne off, 3)) (ht : (pc : Int) + off = (tgt : Int)) (hp : pc + 3 = pc') (kt : ¬ x = y → J p l e R s m args below meth c nL Z cells slots Q al sh S tgt lv st) (kf : x = y → J p l e R s m args below meth c nL Z cells slots Q al sh S pc' lv st) : J p l e R s m args below meth c nL Z cells slots Q al sh S pc lv (.int y :: .int x :: st) := by
  subst hp
  exact fun H locs ls hW hS hl => lv_icmp_ne cx.1.1 cx.1.2.1 d ht (fun h => kt h H locs ls hW hS hl) (fun h => kf h H locs ls hW hS hl)
theorem j_if_lt (cx : Cx p s m args c cc nL own Ts Z) {x : Int32} {off : Int} {tgt : Nat} (d : decode cc pc = .ok (.ifCond .lt off, 3)) (ht : (pc : Int) + off = (tgt : Int)) (hp : pc + 3 = pc') (kt : x < 0 → J p l e R s m args below meth c nL Z cells slots Q al sh S tgt lv st) (kf : ¬ x < 0 → J p l e R s m args below meth c nL Z cells slots Q al sh S pc' lv st) : J p l e R s m args below meth c nL Z cells slots Q al sh S pc lv (.int x :: st) := by
  subst hp
  exact fun H locs ls hW hS hl => lv_if_lt cx.1.1 cx.1.2.1 d ht (fun h => kt h H locs ls hW hS hl) (fun h => kf h H locs ls hW hS hl)
theorem j_icmp_lt (cx : Cx p s m args c cc nL own Ts Z) {x y : Int32} {off : Int} {tgt : Nat} (d : decode cc pc = .ok (.if_icmp .lt off, 3)) (ht : (pc : Int) + off = (tgt : Int)) (hp : pc + 3 = pc') (kt : x < y → J p l e R s m args below meth c nL Z cells slots Q al sh S tgt lv st) (kf : ¬ x < y → J p l e R s m args below meth c nL Z cells slots Q al sh S pc' lv st) : J p l e R s m args below meth c nL Z cells slots Q al sh S pc lv (.int y :: .int x :: st) := by
  subst hp
  exact fun H locs ls hW hS hl => lv_icmp_lt cx.1.1 cx.1.2.1 d ht (fun h => kt h H locs ls hW hS hl) (fun h => kf h H locs ls hW hS hl)
theorem j_if_ge (cx : Cx p s m args c cc nL own Ts Z) {x : Int32} {off : Int} {tgt : Nat} (d : decode cc pc = .ok (.ifCond .ge off, 3)) (ht : (pc : Int) + off = (tgt : Int)) (hp : pc + 3 = pc') (kt : 0 ≤ x → J p l e R s m args below meth c nL Z cells slots Q al sh S tgt lv st) (kf : ¬ 0 ≤ x → J p l e R s m args below meth c nL Z cells slots Q al sh S pc' lv st) : J p l e R s m args below meth c nL Z cells slots Q al sh S pc lv (.int x :: st) := by
  subst hp
  exact fun H locs ls hW hS hl => lv_if_ge cx.1.1 cx.1.2.1 d ht (fun h => kt h H locs ls hW hS hl) (fun h => kf h H locs ls hW hS hl)
theorem j_icmp_ge (cx : Cx p s m args c cc nL own Ts Z) {x y : Int32} {off : Int} {tgt : Nat} (d : decode cc pc = .ok (.if_icmp .ge off, 3)) (ht : (pc : Int) + off = (tgt : Int)) (hp : pc + 3 = pc') (kt : y ≤ x → J p l e R s m args below meth c nL Z cells slots Q al sh S tgt lv st) (kf : ¬ y ≤ x → J p l e R s m args below meth c nL Z cells slots Q al sh S pc' lv st) : J p l e R s m args below meth c nL Z cells slots Q al sh S pc lv (.int y :: .int x :: st) := by
  subst hp
  exact fun H locs ls hW hS hl => lv_icmp_ge cx.1.1 cx.1.2.1 d ht (fun h => kt h H locs ls hW hS hl) (fun h => kf h H locs ls hW hS hl)
theorem j_if_gt (cx : Cx p s m args c cc nL own Ts Z) {x : Int32} {off : Int} {tgt : Nat} (d : decode cc pc = .ok (.ifCond .gt off, 3)) (ht : (pc : Int) + off = (tgt : Int)) (hp : pc + 3 = pc') (kt : 0 < x → J p l e R s m args below meth c nL Z cells slots Q al sh S tgt lv st) (kf : ¬ 0 < x → J p l e R s m args below meth c nL Z cells slots Q al sh S pc' lv st) : J p l e R s m args below meth c nL Z cells slots Q al sh S pc lv (.int x :: st) := by
  subst hp
  exact fun H locs ls hW hS hl => lv_if_gt cx.1.1 cx.1.2.1 d ht (fun h => kt h H locs ls hW hS hl) (fun h => kf h H locs ls hW hS hl)
theorem j_icmp_gt (cx : Cx p s m args c cc nL own Ts Z) {x y : Int32} {off : Int} {tgt : Nat} (d : decode cc pc = .ok (.if_icmp .gt off, 3)) (ht : (pc : Int) + off = (tgt : Int)) (hp : pc + 3 = pc') (kt : y < x → J p l e R s m args below meth c nL Z cells slots Q al sh S tgt lv st) (kf : ¬ y < x → J p l e R s m args below meth c nL Z cells slots Q al sh S pc' lv st) : J p l e R s m args below meth c nL Z cells slots Q al sh S pc lv (.int y :: .int x :: st) := by
  subst hp
  exact fun H locs ls hW hS hl => lv_icmp_gt cx.1.1 cx.1.2.1 d ht (fun h => kt h H locs ls hW hS hl) (fun h => kf h H locs ls hW hS hl)
theorem j_if_le (cx : Cx p s m args c cc nL own Ts Z) {x : Int32} {off : Int} {tgt : Nat} (d : decode cc pc = .ok (.ifCond .le off, 3)) (ht : (pc : Int) + off = (tgt : Int)) (hp : pc + 3 = pc') (kt : x ≤ 0 → J p l e R s m args below meth c nL Z cells slots Q al sh S tgt lv st) (kf : ¬ x ≤ 0 → J p l e R s m args below meth c nL Z cells slots Q al sh S pc' lv st) : J p l e R s m args below meth c nL Z cells slots Q al sh S pc lv (.int x :: st) := by
  subst hp
  exact fun H locs ls hW hS hl => lv_if_le cx.1.1 cx.1.2.1 d ht (fun h => kt h H locs ls hW hS hl) (fun h => kf h H locs ls hW hS hl)
theorem j_icmp_le (cx : Cx p s m args c cc nL own Ts Z) {x y : Int32} {off : Int} {tgt : Nat} (d : decode cc pc = .ok (.if_icmp .le off, 3)) (ht : (pc : Int) + off = (tgt : Int)) (hp : pc + 3 = pc') (kt : x ≤ y → J p l e R s m args below meth c nL Z cells slots Q al sh S tgt lv st) (kf : ¬ x ≤ y → J p l e R s m args below meth c nL Z cells slots Q al sh S pc' lv st) : J p l e R s m args below meth c nL Z cells slots Q al sh S pc lv (.int y :: .int x :: st) := by
  subst hp
  exact fun H locs ls hW hS hl => lv_icmp_le cx.1.1 cx.1.2.1 d ht (fun h => kt h H locs ls hW hS hl) (fun h => kf h H locs ls hW hS hl)
theorem j_goto (cx : Cx p s m args c cc nL own Ts Z) {off : Int} {tgt : Nat} (d : decode cc pc = .ok (.goto off, 3)) (ht : (pc : Int) + off = (tgt : Int)) (k : J p l e R s m args below meth c nL Z cells slots Q al sh S tgt lv st) : J p l e R s m args below meth c nL Z cells slots Q al sh S pc lv st := fun H locs ls hW hS hl => lv_goto cx.1.1 cx.1.2.1 d ht (k H locs ls hW hS hl)
theorem j_lcmp (cx : Cx p s m args c cc nL own Ts Z) {x y : Int64} (d : decode cc pc = .ok (.lcmp, 1)) (hp : pc + 1 = pc') (k : J p l e R s m args below meth c nL Z cells slots Q al sh S pc' lv (.int (lg_cmp x y) :: st)) : J p l e R s m args below meth c nL Z cells slots Q al sh S pc lv (.long y :: .long x :: st) := by
  subst hp
  exact fun H locs ls hW hS hl => W.lcmp cx.1.1 cx.1.2.1 d (k H locs ls hW hS hl)
theorem j_get (cx : Cx p s m args c cc nL own Ts Z) {a b ci fk idx : Nat} {tg : yTg} {C : String} {T : u_T} {N : Nat} (hs : sh a b = some (.inl (ci, tg))) (hc : vwCl[ci]? = some (C, T, N)) (hin : ∀ w ∈ u_ws C T N, w ∈ Ts) {ref : String} (hfk : fk < N) (hlink : Cond.fieldLink own idx ref (T fk).2.1 (T fk).2.2.1 ∈ Ts) (hsame : ∀ x, s.fieldFound? (T fk).1 (T fk).2.1 (T fk).2.2.1 = some x → s.fieldFound? ref (T fk).2.1 (T fk).2.2.1 = some x) {v : Value} (hv : yV al S a b tg fk = v) {q : Nat} (hq : q = al a b) (d : decode cc pc = .ok (.getfield idx, 3)) (hp : pc + 3 = pc') (k : J p l e R s m args below meth c nL Z cells slots Q al sh S pc' lv (v :: st)) : J p l e R s m args below meth c nL Z cells slots Q al sh S pc lv (.ref q :: st) := by
  subst hp hq hv
  intro H locs ls hW hS hl
  obtain ⟨r, h1, cell, q1, q2, q3, q4⟩ := (hW.2.1 a b _ hs).2
  have hr : r = (C, T, N) := Option.some.inj (h1.symm.trans hc)
  subst hr
  obtain ⟨hSl, hfc, kC, hkC, hkind⟩ := cx.2.1.1 ci _ hc
  obtain ⟨cf, kf, fi, f, hi, hsl⟩ := hSl fk hfk
  refine W.getf cx.1.1 cx.1.2.1 cx.1.2.2.2.1 (cx.1.2.2.2.2 _ hlink) (hsame _ hi) (u_facts hfc hkC (u_lays cx.1.2.2.2.2 hin hfk) hi).1 q1 (by rw [q3]; exact fun h => by cases h) (v := yV al S a b tg fk) ?_ rfl rfl d (k H locs ls hW hS hl)
  rw [hsl, q4 fk hfk]
theorem yAt_seti {G : va_G} {a b ci fk : Nat} {tg : yTg} {C : String} {T : u_T} {N : Nat} {H' : Heap} {x : Int32} {cell : Cell} (hc : vwCl[ci]? = some (C, T, N)) (htg : tg fk = none) (q2 : cell.cls = G.1 ci) (q3 : cell.vm = .none) (q4 : ∀ k, k < N → cell.slots[G.2 ci k]? = some (yV al S a b tg k)) (hap : ∀ a b, a < N → b < N → a ≠ b → G.2 ci a ≠ G.2 ci b) (hfk : fk < N) (e1 : H'[al a b]? = some (cell.setSlot (G.2 ci fk) (.int x))) : yAt G al (sup S a b fk x) a b (.inl (ci, tg)) H' := by
  refine ⟨_, hc, t_OB.to (V := updV (yV al S a b tg) fk (.int x)) ⟨_, e1, q2, q3, t_set q4 hap hfk _⟩ (fun j _ => ?_)⟩
  by_cases e : j = fk
  · subst e
    rw [yV_i htg, sup_self]
    simp [updV]
  · have e2 : updV (yV al S a b tg) fk (.int x) j = yV al S a b tg j := by simp [updV, e]
    rw [e2]
    show yV al S a b tg j = yV al (sup S a b fk x) a b tg j
    cases hj : tg j with
    | none => rw [yV_i hj, yV_i hj, sup_ne _ _ (fun z => e z.2.2)]
    | some r => unfold yV; rw [hj]
theorem yAt_setr {G : va_G} {a b ci fk : Nat} {tg : yTg} {C : String} {T : u_T} {N : Nat} {H' : Heap} {kk : Nat × Nat} {cell : Cell} (hc : vwCl[ci]? = some (C, T, N)) (q2 : cell.cls = G.1 ci) (q3 : cell.vm = .none) (q4 : ∀ k, k < N → cell.slots[G.2 ci k]? = some (yV al S a b tg k)) (hap : ∀ a b, a < N → b < N → a ≠ b → G.2 ci a ≠ G.2 ci b) (hfk : fk < N) (e1 : H'[al a b]? = some (cell.setSlot (G.2 ci fk) (.ref (al kk.1 kk.2)))) : yAt G al S a b (.inl (ci, tgp tg fk (some kk))) H' := by
  refine ⟨_, hc, t_OB.to (V := updV (yV al S a b tg) fk (.ref (al kk.1 kk.2))) ⟨_, e1, q2, q3, t_set q4 hap hfk _⟩ (fun j _ => ?_)⟩
  by_cases e : j = fk
  · subst e
    rw [yV_r (show tgp tg j (some kk) j = some (some kk) by simp [tgp])]
    simp [updV]
  · have e2 : updV (yV al S a b tg) fk (.ref (al kk.1 kk.2)) j = yV al S a b tg j := by simp [updV, e]
    rw [e2]
    show yV al S a b tg j = yV al S a b (tgp tg fk (some kk)) j
    have e3 : tgp tg fk (some kk) j = tg j := by simp [tgp, e]
    unfold yV
    rw [e3]
theorem j_puti (cx : Cx p s m args c cc nL own Ts Z) {a b ci fk idx : Nat} {tg : yTg} {C : String} {T : u_T} {N : Nat} (hs : sh a b = some (.inl (ci, tg))) (hc : vwCl[ci]? = some (C, T, N)) (hin : ∀ w ∈ u_ws C T N, w ∈ Ts) {ref : String} (hfk : fk < N) (hlink : Cond.fieldLink own idx ref (T fk).2.1 (T fk).2.2.1 ∈ Ts) (hsame : ∀ x, s.fieldFound? (T fk).1 (T fk).2.1 (T fk).2.2.1 = some x → s.fieldFound? ref (T fk).2.1 (T fk).2.2.1 = some x) (ty0 : Nat → FieldType) (hty : ∀ k, k < N → parseFieldDescriptor (T k).2.2.1 = some (ty0 k)) (hnm : ∀ a, a < N → ∀ b, b < N → a ≠ b → (T a).2.1 ≠ (T b).2.1) (hfin : (T fk).2.2.2 = false) {ty : FieldType} (hd : parseFieldDescriptor (T fk).2.2.1 = some ty) {x : Int32} (htg : tg fk = none) (hnr : narrow ty (.int x) = .int x) (hfit : fits ty (.int x) = true) {q : Nat} (hq : q = al a b) (d : decode cc pc = .ok (.putfield idx, 3)) (hp : pc + 3 = pc') (k : J p l e R s m args below meth c nL Z cells slots Q al sh (sup S a b fk x) pc' lv st) : J p l e R s m args below meth c nL Z cells slots Q al sh S pc lv (.int x :: .ref q :: st) := by
  subst hp hq
  intro H locs ls hW hS hl
  obtain ⟨r, h1, cell, q1, q2, q3, q4⟩ := (hW.2.1 a b _ hs).2
  have hr : r = (C, T, N) := Option.some.inj (h1.symm.trans hc)
  subst hr
  obtain ⟨hSl, hfc, kC, hkC, hkind⟩ := cx.2.1.1 ci _ hc
  obtain ⟨cf, kf, fi, f, hi, hsl⟩ := hSl fk hfk
  have hap := va_apart (own := own) cx.1.2.2.2.2 hin ty0 hty hnm cx.2.1 hc
  have hlay := cx.1.2.2.2.2 _ (hin _ (u_in_lay hfk))
  unfold u_lay at hlay
  rw [if_neg (by rw [hfin]; decide)] at hlay
  have hst := (u_facts hfc hkC (u_lays cx.1.2.2.2.2 hin hfk) hi).1
  have h6 := u_store hfc hkC hkind hlay hi hd hnr hfit
  refine W.putK cx.1.1 cx.1.2.1 (f := f) ⟨cx.1.2.2.2.1, cx.1.2.2.2.2 _ hlink, ⟨_, _, _, hsame _ hi⟩, hst⟩ (by rw [q2]; exact h6) q1 q3 (by rw [hsl]; exact k2_hasslot (q4 fk hfk)) rfl rfl d fun H' e1 e2 e3 => ?_
  rw [hsl] at e1 ⊢
  have hn : yW Z.1 Z.2.2.1 al (shp sh a b (.inl (ci, tg))) (sup S a b fk x) H' := hW.put hs e2 e3 (fun c d j h => sup_off S x h) (yAt_seti hc htg q2 q3 q4 hap hfk e1) (fun ci' tg' j k' e hj => by cases e; exact hW.2.2.2 a b _ _ j k' hs hj)
  rw [shp_id _ hs] at hn
  exact k H' _ ls hn (hS.put e2 e3 (hW.2.1 a b _ hs).1) hl
theorem j_putr (cx : Cx p s m args c cc nL own Ts Z) {a b ci fk idx : Nat} {tg : yTg} {C : String} {T : u_T} {N : Nat} (hs : sh a b = some (.inl (ci, tg))) (hc : vwCl[ci]? = some (C, T, N)) (hin : ∀ w ∈ u_ws C T N, w ∈ Ts) {ref : String} (hfk : fk < N) (hlink : Cond.fieldLink own idx ref (T fk).2.1 (T fk).2.2.1 ∈ Ts) (hsame : ∀ x, s.fieldFound? (T fk).1 (T fk).2.1 (T fk).2.2.1 = some x → s.fieldFound? ref (T fk).2.1 (T fk).2.2.1 = some x) (ty0 : Nat → FieldType) (hty : ∀ k, k < N → parseFieldDescriptor (T k).2.2.1 = some (ty0 k)) (hnm : ∀ a, a < N → ∀ b, b < N → a ≠ b → (T a).2.1 ≠ (T b).2.1) (hfin : (T fk).2.2.2 = false) {ty : FieldType} (hd : parseFieldDescriptor (T fk).2.2.1 = some ty) {kk : Nat × Nat} {q2 : Nat} (hq2 : q2 = al kk.1 kk.2) (hkk : sh kk.1 kk.2 ≠ none ∨ kk.1 = 99) (hnr : narrow ty (.ref q2) = .ref q2) (hfit : fits ty (.ref q2) = true) {q : Nat} (hq : q = al a b) (d : decode cc pc = .ok (.putfield idx, 3)) (hp : pc + 3 = pc') (k : J p l e R s m args below meth c nL Z cells slots Q al (shp sh a b (.inl (ci, tgp tg fk (some kk)))) S pc' lv st) : J p l e R s m args below meth c nL Z cells slots Q al sh S pc lv (.ref q2 :: .ref q :: st) := by
  subst hp hq hq2
  intro H locs ls hW hS hl
  obtain ⟨r, h1, cell, q1, q2, q3, q4⟩ := (hW.2.1 a b _ hs).2
  have hr : r = (C, T, N) := Option.some.inj (h1.symm.trans hc)
  subst hr
  obtain ⟨hSl, hfc, kC, hkC, hkind⟩ := cx.2.1.1 ci _ hc
  obtain ⟨cf, kf, fi, f, hi, hsl⟩ := hSl fk hfk
  have hap := va_apart (own := own) cx.1.2.2.2.2 hin ty0 hty hnm cx.2.1 hc
  have hlay := cx.1.2.2.2.2 _ (hin _ (u_in_lay hfk))
  unfold u_lay at hlay
  rw [if_neg (by rw [hfin]; decide)] at hlay
  have hst := (u_facts hfc hkC (u_lays cx.1.2.2.2.2 hin hfk) hi).1
  have h6 := u_store hfc hkC hkind hlay hi hd hnr hfit
  refine W.putK cx.1.1 cx.1.2.1 (f := f) ⟨cx.1.2.2.2.1, cx.1.2.2.2.2 _ hlink, ⟨_, _, _, hsame _ hi⟩, hst⟩ (by rw [q2]; exact h6) q1 q3 (by rw [hsl]; exact k2_hasslot (q4 fk hfk)) rfl rfl d fun H' e1 e2 e3 => ?_
  rw [hsl] at e1 ⊢
  have hn : yW Z.1 Z.2.2.1 al (shp sh a b (.inl (ci, tgp tg fk (some kk)))) S H' := hW.put hs e2 e3 (fun c d j h => rfl) (yAt_setr hc q2 q3 q4 hap hfk e1) (fun ci' tg' j k' e hj => by
    cases e
    by_cases ej : j = fk
    · subst ej
      have e9 : tgp tg j (some kk) j = some (some kk) := by simp [tgp]
      rw [e9] at hj
      cases hj
      exact hkk
    · have e9 : tgp tg fk (some kk) j = tg j := by simp [tgp, ej]
      rw [e9] at hj
      exact hW.2.2.2 a b _ _ j k' hs hj)
  exact k H' _ ls hn (hS.put e2 e3 (hW.2.1 a b _ hs).1) hl
theorem j_putiF (cx : Cx p s m args c cc nL own Ts Z) {a b ci fk idx : Nat} {tg : yTg} {C : String} {T : u_T} {N : Nat} (hs : sh a b = some (.inl (ci, tg))) (hc : vwCl[ci]? = some (C, T, N)) (hin : ∀ w ∈ u_ws C T N, w ∈ Ts) {ref : String} (hfk : fk < N) (hlink : Cond.fieldLink own idx ref (T fk).2.1 (T fk).2.2.1 ∈ Ts) (hsame : ∀ x, s.fieldFound? (T fk).1 (T fk).2.1 (T fk).2.2.1 = some x → s.fieldFound? ref (T fk).2.1 (T fk).2.2.1 = some x) (ty0 : Nat → FieldType) (hty : ∀ k, k < N → parseFieldDescriptor (T k).2.2.1 = some (ty0 k)) (hnm : ∀ a, a < N → ∀ b, b < N → a ≠ b → (T a).2.1 ≠ (T b).2.1) (hfin : (T fk).2.2.2 = true) (hini : meth.name = "<init>") (hdecl : (T fk).1 = own) {ty : FieldType} (hd : parseFieldDescriptor (T fk).2.2.1 = some ty) {x : Int32} (htg : tg fk = none) (hnr : narrow ty (.int x) = .int x) (hfit : fits ty (.int x) = true) {q : Nat} (hq : q = al a b) (d : decode cc pc = .ok (.putfield idx, 3)) (hp : pc + 3 = pc') (k : J p l e R s m args below meth c nL Z cells slots Q al sh (sup S a b fk x) pc' lv st) : J p l e R s m args below meth c nL Z cells slots Q al sh S pc lv (.int x :: .ref q :: st) := by
  subst hp hq
  intro H locs ls hW hS hl
  obtain ⟨r, h1, cell, q1, q2, q3, q4⟩ := (hW.2.1 a b _ hs).2
  have hr : r = (C, T, N) := Option.some.inj (h1.symm.trans hc)
  subst hr
  obtain ⟨hSl, hfc, kC, hkC, hkind⟩ := cx.2.1.1 ci _ hc
  obtain ⟨cf, kf, fi, f, hi, hsl⟩ := hSl fk hfk
  have hap := va_apart (own := own) cx.1.2.2.2.2 hin ty0 hty hnm cx.2.1 hc
  have hlay := cx.1.2.2.2.2 _ (hin _ (u_in_lay hfk))
  unfold u_lay at hlay
  rw [if_pos hfin] at hlay
  have hst := (u_facts hfc hkC (u_lays cx.1.2.2.2.2 hin hfk) hi).1
  have hcf : m.cls = cf := by
    obtain ⟨_, _, c', _, _, _, -, -, hf', -, -, -, hown2, -⟩ := Cond.laysFinal_spec hlay
    have e1 : c' = cf := by have := hi.symm.trans hf'; simp at this; exact this.1.symm
    rw [hdecl] at hown2
    rw [← e1]; exact Option.some.inj (cx.1.2.2.2.1.symm.trans hown2)
  have h6 := u_fits hfc hkC hkind (Or.inr hlay) hi hd hnr hfit
  refine W.putFinK cx.1.1 cx.1.2.1 cx.1.2.2.2.1 (cx.1.2.2.2.2 _ hlink) (f := f) (hsame _ hi) hst hcf hini (by rw [q2]; exact h6) q1 q3 (by rw [hsl]; exact k2_hasslot (q4 fk hfk)) rfl rfl d fun H' e1 e2 e3 => ?_
  rw [hsl] at e1 ⊢
  have hn : yW Z.1 Z.2.2.1 al (shp sh a b (.inl (ci, tg))) (sup S a b fk x) H' := hW.put hs e2 e3 (fun c d j h => sup_off S x h) (yAt_seti hc htg q2 q3 q4 hap hfk e1) (fun ci' tg' j k' e hj => by cases e; exact hW.2.2.2 a b _ _ j k' hs hj)
  rw [shp_id _ hs] at hn
  exact k H' _ ls hn (hS.put e2 e3 (hW.2.1 a b _ hs).1) hl
theorem j_putrF (cx : Cx p s m args c cc nL own Ts Z) {a b ci fk idx : Nat} {tg : yTg} {C : String} {T : u_T} {N : Nat} (hs : sh a b = some (.inl (ci, tg))) (hc : vwCl[ci]? = some (C, T, N)) (hin : ∀ w ∈ u_ws C T N, w ∈ Ts) {ref : String} (hfk : fk < N) (hlink : Cond.fieldLink own idx ref (T fk).2.1 (T fk).2.2.1 ∈ Ts) (hsame : ∀ x, s.fieldFound? (T fk).1 (T fk).2.1 (T fk).2.2.1 = some x → s.fieldFound? ref (T fk).2.1 (T fk).2.2.1 = some x) (ty0 : Nat → FieldType) (hty : ∀ k, k < N → parseFieldDescriptor (T k).2.2.1 = some (ty0 k)) (hnm : ∀ a, a < N → ∀ b, b < N → a ≠ b → (T a).2.1 ≠ (T b).2.1) (hfin : (T fk).2.2.2 = true) (hini : meth.name = "<init>") (hdecl : (T fk).1 = own) {ty : FieldType} (hd : parseFieldDescriptor (T fk).2.2.1 = some ty) {kk : Nat × Nat} {q2 : Nat} (hq2 : q2 = al kk.1 kk.2) (hkk : sh kk.1 kk.2 ≠ none ∨ kk.1 = 99) (hnr : narrow ty (.ref q2) = .ref q2) (hfit : fits ty (.ref q2) = true) {q : Nat} (hq : q = al a b) (d : decode cc pc = .ok (.putfield idx, 3)) (hp : pc + 3 = pc') (k : J p l e R s m args below meth c nL Z cells slots Q al (shp sh a b (.inl (ci, tgp tg fk (some kk)))) S pc' lv st) : J p l e R s m args below meth c nL Z cells slots Q al sh S pc lv (.ref q2 :: .ref q :: st) := by
  subst hp hq hq2
  intro H locs ls hW hS hl
  obtain ⟨r, h1, cell, q1, q2, q3, q4⟩ := (hW.2.1 a b _ hs).2
  have hr : r = (C, T, N) := Option.some.inj (h1.symm.trans hc)
  subst hr
  obtain ⟨hSl, hfc, kC, hkC, hkind⟩ := cx.2.1.1 ci _ hc
  obtain ⟨cf, kf, fi, f, hi, hsl⟩ := hSl fk hfk
  have hap := va_apart (own := own) cx.1.2.2.2.2 hin ty0 hty hnm cx.2.1 hc
  have hlay := cx.1.2.2.2.2 _ (hin _ (u_in_lay hfk))
  unfold u_lay at hlay
  rw [if_pos hfin] at hlay
  have hst := (u_facts hfc hkC (u_lays cx.1.2.2.2.2 hin hfk) hi).1
  have hcf : m.cls = cf := by
    obtain ⟨_, _, c', _, _, _, -, -, hf', -, -, -, hown2, -⟩ := Cond.laysFinal_spec hlay
    have e1 : c' = cf := by have := hi.symm.trans hf'; simp at this; exact this.1.symm
    rw [hdecl] at hown2
    rw [← e1]; exact Option.some.inj (cx.1.2.2.2.1.symm.trans hown2)
  have h6 := u_fits hfc hkC hkind (Or.inr hlay) hi hd hnr hfit
  refine W.putFinK cx.1.1 cx.1.2.1 cx.1.2.2.2.1 (cx.1.2.2.2.2 _ hlink) (f := f) (hsame _ hi) hst hcf hini (by rw [q2]; exact h6) q1 q3 (by rw [hsl]; exact k2_hasslot (q4 fk hfk)) rfl rfl d fun H' e1 e2 e3 => ?_
  rw [hsl] at e1 ⊢
  have hn : yW Z.1 Z.2.2.1 al (shp sh a b (.inl (ci, tgp tg fk (some kk)))) S H' := hW.put hs e2 e3 (fun c d j h => rfl) (yAt_setr hc q2 q3 q4 hap hfk e1) (fun ci' tg' j k' e hj => by
    cases e
    by_cases ej : j = fk
    · subst ej
      have e9 : tgp tg j (some kk) j = some (some kk) := by simp [tgp]
      rw [e9] at hj
      cases hj
      exact hkk
    · have e9 : tgp tg fk (some kk) j = tg j := by simp [tgp, ej]
      rw [e9] at hj
      exact hW.2.2.2 a b _ _ j k' hs hj)
  exact k H' _ ls hn (hS.put e2 e3 (hW.2.1 a b _ hs).1) hl
theorem j_iald (cx : Cx p s m args c cc nL own Ts Z) {a b n : Nat} {cA : ClassId} (hs : sh a b = some (.inr (.inl (cA, n)))) (hcA : cA = Z.2.1 0) {i : Int32} (hi : vp_in i n) {v : Int32} (hv : S a b i.toNatClampNeg = v) {q : Nat} (hq : q = al a b) (d : decode cc pc = .ok (.iaload, 1)) (hp : pc + 1 = pc') (k : J p l e R s m args below meth c nL Z cells slots Q al sh S pc' lv (.int v :: st)) : J p l e R s m args below meth c nL Z cells slots Q al sh S pc lv (.int i :: .ref q :: st) := by
  subst hp hq hv
  intro H locs ls hW hS hl
  have hlt : i.toNatClampNeg < n := Nat.not_le.mp fun q => hi (Or.inr q)
  have hcell : H[al a b]? = some (vp_cell cA (n, .inl (S a b))) := (hW.2.1 a b _ hs).2
  have hT := (cx.2.1.2 0 (Z.2.1 0, .int) rfl).1
  rw [← hcA] at hT
  exact W.iald (v := .int (S a b i.toNatClampNeg)) cx.1.1 cx.1.2.1 hcell (hT n (fun j => .int (S a b j))) (fun q => by cases q) (by show ¬ (i < 0 ∨ (arrV _ _ _).slots.size ≤ _); rw [arrV_size]; exact hi) (by show (arrV _ _ _).slots[_]? = _; rw [arrV_read _ _ hlt]) rfl rfl d (k H locs ls hW hS hl)
theorem j_cald (cx : Cx p s m args c cc nL own Ts Z) {a b n : Nat} {cA : ClassId} (hs : sh a b = some (.inr (.inl (cA, n)))) (hcA : cA = Z.2.1 1) {i : Int32} (hi : vp_in i n) {v : Int32} (hv : S a b i.toNatClampNeg = v) {q : Nat} (hq : q = al a b) (d : decode cc pc = .ok (.caload, 1)) (hp : pc + 1 = pc') (k : J p l e R s m args below meth c nL Z cells slots Q al sh S pc' lv (.int v :: st)) : J p l e R s m args below meth c nL Z cells slots Q al sh S pc lv (.int i :: .ref q :: st) := by
  subst hp hq hv
  intro H locs ls hW hS hl
  have hlt : i.toNatClampNeg < n := Nat.not_le.mp fun q => hi (Or.inr q)
  have hcell : H[al a b]? = some (vp_cell cA (n, .inl (S a b))) := (hW.2.1 a b _ hs).2
  have hT := (cx.2.1.2 1 (Z.2.1 1, .char) rfl).1
  rw [← hcA] at hT
  exact W.cald (v := .int (S a b i.toNatClampNeg)) cx.1.1 cx.1.2.1 hcell (hT n (fun j => .int (S a b j))) (fun q => by cases q) (by show ¬ (i < 0 ∨ (arrV _ _ _).slots.size ≤ _); rw [arrV_size]; exact hi) (by show (arrV _ _ _).slots[_]? = _; rw [arrV_read _ _ hlt]) rfl rfl d (k H locs ls hW hS hl)
theorem j_iast (cx : Cx p s m args c cc nL own Ts Z) {a b n : Nat} {cA : ClassId} (hs : sh a b = some (.inr (.inl (cA, n)))) (hcA : cA = Z.2.1 0) {i x : Int32} (hi : vp_in i n) {jn : Nat} (hj : i.toNatClampNeg = jn) {q : Nat} (hq : q = al a b) (d : decode cc pc = .ok (.iastore, 1)) (hp : pc + 1 = pc') (k : J p l e R s m args below meth c nL Z cells slots Q al sh (sup S a b jn x) pc' lv st) : J p l e R s m args below meth c nL Z cells slots Q al sh S pc lv (.int x :: .int i :: .ref q :: st) := by
  subst hp hq hj
  intro H locs ls hW hS hl
  have hcell : H[al a b]? = some (vp_cell cA (n, .inl (S a b))) := (hW.2.1 a b _ hs).2
  have hT := (cx.2.1.2 0 (Z.2.1 0, .int) rfl).1
  rw [← hcA] at hT
  refine W.iast cx.1.1 cx.1.2.1 hcell (hT n (fun j => .int (S a b j))) (fun q => by cases q) (by show ¬ (i < 0 ∨ (arrV _ _ _).slots.size ≤ _); rw [arrV_size]; exact hi) rfl rfl d fun H1 e z oq => ?_
  have hat : yAt Z.1 al (sup S a b i.toNatClampNeg x) a b (.inr (.inl (cA, n))) H1 := by
    show H1[al a b]? = some (vp_cell _ (_, .inl _))
    rw [e]
    rw [vp_cell_i, vp_cell_i, arrV_store]
    congr 2
    funext q
    by_cases hq : q = i.toNatClampNeg
    · subst hq
      simp [updV, sup]
    · simp [updV, sup, hq]
  have hn : yW Z.1 Z.2.2.1 al (shp sh a b (.inr (.inl (cA, n)))) (sup S a b i.toNatClampNeg x) H1 := hW.put hs z oq (fun c d j h => sup_off S x h) hat (fun _ _ _ _ e => by cases e)
  rw [shp_id _ hs] at hn
  exact k H1 _ ls hn (hS.put z oq (hW.2.1 a b _ hs).1) hl
theorem j_cast (cx : Cx p s m args c cc nL own Ts Z) {a b n : Nat} {cA : ClassId} (hs : sh a b = some (.inr (.inl (cA, n)))) (hcA : cA = Z.2.1 1) {i x : Int32} (hi : vp_in i n) (hx : narrow .char (.int x) = .int x) {jn : Nat} (hj : i.toNatClampNeg = jn) {q : Nat} (hq : q = al a b) (d : decode cc pc = .ok (.castore, 1)) (hp : pc + 1 = pc') (k : J p l e R s m args below meth c nL Z cells slots Q al sh (sup S a b jn x) pc' lv st) : J p l e R s m args below meth c nL Z cells slots Q al sh S pc lv (.int x :: .int i :: .ref q :: st) := by
  subst hp hq hj
  intro H locs ls hW hS hl
  have hcell : H[al a b]? = some (vp_cell cA (n, .inl (S a b))) := (hW.2.1 a b _ hs).2
  have hT := (cx.2.1.2 1 (Z.2.1 1, .char) rfl).1
  rw [← hcA] at hT
  refine W.cast cx.1.1 cx.1.2.1 hcell (hT n (fun j => .int (S a b j))) (fun q => by cases q) (by show ¬ (i < 0 ∨ (arrV _ _ _).slots.size ≤ _); rw [arrV_size]; exact hi) rfl rfl d fun H1 e z oq => ?_
  have hat : yAt Z.1 al (sup S a b i.toNatClampNeg x) a b (.inr (.inl (cA, n))) H1 := by
    show H1[al a b]? = some (vp_cell _ (_, .inl _))
    rw [e]
    rw [vp_cell_i, vp_cell_i, arrV_store]
    congr 2
    funext q
    by_cases hq : q = i.toNatClampNeg
    · subst hq
      simp only [updV, sup, and_self, if_true]; exact hx
    · simp [updV, sup, hq]
  have hn : yW Z.1 Z.2.2.1 al (shp sh a b (.inr (.inl (cA, n)))) (sup S a b i.toNatClampNeg x) H1 := hW.put hs z oq (fun c d j h => sup_off S x h) hat (fun _ _ _ _ e => by cases e)
  rw [shp_id _ hs] at hn
  exact k H1 _ ls hn (hS.put z oq (hW.2.1 a b _ hs).1) hl
theorem j_lald (cx : Cx p s m args c cc nL own Ts Z) {a b n : Nat} {cA : ClassId} {f : Nat → Int64} (hs : sh a b = some (.inr (.inr (cA, (n, .inr (.inl f)))))) (hcA : cA = Z.2.1 2) {i : Int32} (hi : vp_in i n) {q : Nat} (hq : q = al a b) (d : decode cc pc = .ok (.laload, 1)) (hp : pc + 1 = pc') (k : J p l e R s m args below meth c nL Z cells slots Q al sh S pc' lv (.long (f i.toNatClampNeg) :: st)) : J p l e R s m args below meth c nL Z cells slots Q al sh S pc lv (.int i :: .ref q :: st) := by
  subst hp hq
  intro H locs ls hW hS hl
  have hlt : i.toNatClampNeg < n := Nat.not_le.mp fun q => hi (Or.inr q)
  have hcell : H[al a b]? = some (vp_cell cA (n, .inr (.inl f))) := (hW.2.1 a b _ hs).2
  have hT := (cx.2.1.2 2 (Z.2.1 2, .long) rfl).1
  rw [← hcA] at hT
  exact W.lald (v := .long (f i.toNatClampNeg)) cx.1.1 cx.1.2.1 hcell (hT n (fun j => .long (f j))) (fun q => by cases q) (by show ¬ (i < 0 ∨ (arrV _ _ _).slots.size ≤ _); rw [arrV_size]; exact hi) (by show (arrV _ _ _).slots[_]? = _; rw [arrV_read _ _ hlt]) rfl rfl d (k H locs ls hW hS hl)
theorem j_dald (cx : Cx p s m args c cc nL own Ts Z) {a b n : Nat} {cA : ClassId} {f : Nat → UInt64} (hs : sh a b = some (.inr (.inr (cA, (n, .inr (.inr (.inr (.inl f)))))))) (hcA : cA = Z.2.1 3) {i : Int32} (hi : vp_in i n) {q : Nat} (hq : q = al a b) (d : decode cc pc = .ok (.daload, 1)) (hp : pc + 1 = pc') (k : J p l e R s m args below meth c nL Z cells slots Q al sh S pc' lv (.double (f i.toNatClampNeg) :: st)) : J p l e R s m args below meth c nL Z cells slots Q al sh S pc lv (.int i :: .ref q :: st) := by
  subst hp hq
  intro H locs ls hW hS hl
  have hlt : i.toNatClampNeg < n := Nat.not_le.mp fun q => hi (Or.inr q)
  have hcell : H[al a b]? = some (vp_cell cA (n, .inr (.inr (.inr (.inl f))))) := (hW.2.1 a b _ hs).2
  have hT := (cx.2.1.2 3 (Z.2.1 3, .double) rfl).1
  rw [← hcA] at hT
  exact W.dald (v := .double (f i.toNatClampNeg)) cx.1.1 cx.1.2.1 hcell (hT n (fun j => .double (f j))) (fun q => by cases q) (by show ¬ (i < 0 ∨ (arrV _ _ _).slots.size ≤ _); rw [arrV_size]; exact hi) (by show (arrV _ _ _).slots[_]? = _; rw [arrV_read _ _ hlt]) rfl rfl d (k H locs ls hW hS hl)
theorem j_aald (cx : Cx p s m args c cc nL own Ts Z) {a b n : Nat} {cA : ClassId} {f : Nat → Option Nat} {ti : Nat} {ty : FieldType} (hs : sh a b = some (.inr (.inr (cA, (n, .inr (.inr (.inr (.inr f)))))))) (hti : (yT Z.2.1)[ti]? = some (cA, ty)) (hty : ty.isReference = true) {i : Int32} (hi : vp_in i n) {r : Nat} (hr : f i.toNatClampNeg = some r) {q : Nat} (hq : q = al a b) (d : decode cc pc = .ok (.aaload, 1)) (hp : pc + 1 = pc') (k : J p l e R s m args below meth c nL Z cells slots Q al sh S pc' lv (.ref r :: st)) : J p l e R s m args below meth c nL Z cells slots Q al sh S pc lv (.int i :: .ref q :: st) := by
  subst hp hq
  intro H locs ls hW hS hl
  have hlt : i.toNatClampNeg < n := Nat.not_le.mp fun q => hi (Or.inr q)
  have hcell : H[al a b]? = some (vp_cell cA (n, .inr (.inr (.inr (.inr f))))) := (hW.2.1 a b _ hs).2
  exact W.aald (v := .ref r) (ty := ty) cx.1.1 cx.1.2.1 hcell ((cx.2.1.2 ti _ hti).1 n (fun j => va_rf (f j))) hty (fun q => by cases q) (by show ¬ (i < 0 ∨ (arrV _ _ _).slots.size ≤ _); rw [arrV_size]; exact hi) (by show (arrV _ _ _).slots[_]? = _; rw [arrV_read _ _ hlt, hr]; rfl) rfl rfl d (k H locs ls hW hS hl)
theorem j_last (cx : Cx p s m args c cc nL own Ts Z) {a b n : Nat} {cA : ClassId} {f : Nat → Int64} (hs : sh a b = some (.inr (.inr (cA, (n, .inr (.inl f)))))) (hcA : cA = Z.2.1 2) {i : Int32} {x : Int64} (hi : vp_in i n) {jn : Nat} (hj : i.toNatClampNeg = jn) {q : Nat} (hq : q = al a b) (d : decode cc pc = .ok (.lastore, 1)) (hp : pc + 1 = pc') (k : J p l e R s m args below meth c nL Z cells slots Q al (shp sh a b (.inr (.inr (cA, (n, .inr (.inl (vp_updL f jn x))))))) S pc' lv st) : J p l e R s m args below meth c nL Z cells slots Q al sh S pc lv (.long x :: .int i :: .ref q :: st) := by
  subst hp hq hj
  intro H locs ls hW hS hl
  have hcell : H[al a b]? = some (vp_cell cA (n, .inr (.inl f))) := (hW.2.1 a b _ hs).2
  have hT := (cx.2.1.2 2 (Z.2.1 2, .long) rfl).1
  rw [← hcA] at hT
  refine W.last cx.1.1 cx.1.2.1 hcell (hT n (fun j => .long (f j))) (fun q => by cases q) (by show ¬ (i < 0 ∨ (arrV _ _ _).slots.size ≤ _); rw [arrV_size]; exact hi) rfl rfl d fun H1 e z oq => ?_
  have hat : yAt Z.1 al S a b (.inr (.inr (cA, (n, .inr (.inl (vp_updL f i.toNatClampNeg x)))))) H1 := by
    show H1[al a b]? = some (vp_cell _ _)
    rw [e]
    rw [vp_cell_l, vp_cell_l, arrV_store]
    congr 2
    funext q
    by_cases hq : q = i.toNatClampNeg
    · subst hq
      simp [updV, vp_updL, vf_upd]
    · simp [updV, vp_updL, vf_upd, hq]
  exact k H1 _ ls (hW.put hs z oq (fun c d j h => rfl) hat (fun _ _ _ _ e => by cases e)) (hS.put z oq (hW.2.1 a b _ hs).1) hl
theorem j_dast (cx : Cx p s m args c cc nL own Ts Z) {a b n : Nat} {cA : ClassId} {f : Nat → UInt64} (hs : sh a b = some (.inr (.inr (cA, (n, .inr (.inr (.inr (.inl f)))))))) (hcA : cA = Z.2.1 3) {i : Int32} {x : UInt64} (hi : vp_in i n) {jn : Nat} (hj : i.toNatClampNeg = jn) {q : Nat} (hq : q = al a b) (d : decode cc pc = .ok (.dastore, 1)) (hp : pc + 1 = pc') (k : J p l e R s m args below meth c nL Z cells slots Q al (shp sh a b (.inr (.inr (cA, (n, .inr (.inr (.inr (.inl (vf_upd f jn x))))))))) S pc' lv st) : J p l e R s m args below meth c nL Z cells slots Q al sh S pc lv (.double x :: .int i :: .ref q :: st) := by
  subst hp hq hj
  intro H locs ls hW hS hl
  have hcell : H[al a b]? = some (vp_cell cA (n, .inr (.inr (.inr (.inl f))))) := (hW.2.1 a b _ hs).2
  have hT := (cx.2.1.2 3 (Z.2.1 3, .double) rfl).1
  rw [← hcA] at hT
  refine W.dast cx.1.1 cx.1.2.1 hcell (hT n (fun j => .double (f j))) (fun q => by cases q) (by show ¬ (i < 0 ∨ (arrV _ _ _).slots.size ≤ _); rw [arrV_size]; exact hi) rfl rfl d fun H1 e z oq => ?_
  have hat : yAt Z.1 al S a b (.inr (.inr (cA, (n, .inr (.inr (.inr (.inl (vf_upd f i.toNatClampNeg x)))))))) H1 := by
    show H1[al a b]? = some (vp_cell _ _)
    rw [e]
    rw [vp_cell_d, vp_cell_d, arrV_store]
    congr 2
    funext q
    by_cases hq : q = i.toNatClampNeg
    · subst hq
      simp [updV, vp_updL, vf_upd]
    · simp [updV, vp_updL, vf_upd, hq]
  exact k H1 _ ls (hW.put hs z oq (fun c d j h => rfl) hat (fun _ _ _ _ e => by cases e)) (hS.put z oq (hW.2.1 a b _ hs).1) hl
theorem j_alen (cx : Cx p s m args c cc nL own Ts Z) {a b : Nat} {cA : ClassId} {n : Nat} {f : Nat → Option Nat} {ti : Nat} {ty : FieldType} (hs : sh a b = some (.inr (.inr (cA, (n, .inr (.inr (.inr (.inr f)))))))) (hti : (yT Z.2.1)[ti]? = some (cA, ty)) {q : Nat} (hq : q = al a b) (d : decode cc pc = .ok (.arraylength, 1)) (hp : pc + 1 = pc') (k : J p l e R s m args below meth c nL Z cells slots Q al sh S pc' lv (.int (nI n) :: st)) : J p l e R s m args below meth c nL Z cells slots Q al sh S pc lv (.ref q :: st) := by
  subst hp hq
  intro H locs ls hW hS hl
  have hcell : H[al a b]? = some (vp_cell cA (n, .inr (.inr (.inr (.inr f))))) := (hW.2.1 a b _ hs).2
  exact W.alen (n := nI n) cx.1.1 cx.1.2.1 hcell ((cx.2.1.2 ti _ hti).1 n (fun j => va_rf (f j))) (by rw [vp_cell_q, arrV_size] <;> rfl) rfl rfl d (k H locs ls hW hS hl)
/-- checkcast of an object of the world to its own class -/
theorem j_castS (cx : Cx p s m args c cc nL own Ts Z) {a b ci idx : Nat} {tg : yTg} {C : String} {T : u_T} {N : Nat} (hs : sh a b = some (.inl (ci, tg))) (hc : vwCl[ci]? = some (C, T, N)) (hlink : Cond.classLink own idx C ∈ Ts) {q : Nat} (hq : q = al a b) (d : decode cc pc = .ok (.checkcast idx, 3)) (hp : pc + 3 = pc') (k : J p l e R s m args below meth c nL Z cells slots Q al sh S pc' lv (.ref q :: st)) : J p l e R s m args below meth c nL Z cells slots Q al sh S pc lv (.ref q :: st) := by
  subst hp hq
  exact fun H locs ls hW hS hl => va_castS cx.1.1 cx.1.2.1 cx.1.2.2.2.1 (cx.1.2.2.2.2 _ hlink) (cx.2.1.1 ci _ hc).2 (hW.recv cx hs hc) d (k H locs ls hW hS hl)
theorem j_objInit (cx : Cx p s m args c cc nL own Ts Z) {idx : Nat} (hlink : Cond.methodLink own idx Lib.objectInit ∈ Ts) (hin : Cond.instanceMethod Lib.objectInit ∈ Ts) (hcode : Cond.code Lib.objectInit ⟨#[0xb1]⟩ 1 none ∈ Ts) {q : Nat} (d : decode cc pc = .ok (.invokespecial idx, 3)) (hfr : 1 ≤ R.frames) (hlo : (st.map fun v => v.category).sum + 12 ≤ R.locals) (hp : pc + 3 = pc') (k : J p l e R s m args below meth c nL Z cells slots Q al sh S pc' lv st) : J p l e R s m args below meth c nL Z cells slots Q al sh S pc lv (.ref q :: st) := by
  subst hp
  exact fun H locs ls hW hS hl => W.objInit cx.1.1 cx.1.2.1 cx.1.2.2.2.1 (cx.1.2.2.2.2 _ hlink) (cx.1.2.2.2.2 _ hin) (cx.1.2.2.2.2 _ hcode) rfl (by rw [cx.1.2.2.1]; exact hl.1) rfl d hfr (by show 2 * 0 + _ + _ ≤ _; omega) (k H locs ls hW hS hl)
/-- a new object: its address q at a key that was free -/
theorem j_new (cx : Cx p s m args c cc nL own Ts Z) {ci idx : Nat} {C : String} {T : u_T} {N : Nat} (a b : Nat) (hs : sh a b = none) (ha : a ≠ 99) (hc : vwCl[ci]? = some (C, T, N)) (hin : ∀ w ∈ u_ws C T N, w ∈ Ts) (ty0 : Nat → FieldType) (hty : ∀ k, k < N → parseFieldDescriptor (T k).2.2.1 = some (ty0 k)) (hcl : Cond.classLink own idx C ∈ Ts) (hinst : Cond.instantiable C N ∈ Ts) (hini : Cond.initialized C ∈ Ts) {tg : yTg} (htg : ∀ j, j < N → tg j = (if (ty0 j).isReference then some none else none)) (htn : ∀ j k, tg j ≠ some (some k)) (hdf : ∀ j, j < N → defaultValue (ty0 j) = if (ty0 j).isReference then .null else .int 0)
    (hcells : cells + 1 ≤ R.cells) (hslots : slots + N ≤ R.slots) (d : decode cc pc = .ok (.new idx, 3)) (hp : pc + 3 = pc') (k : ∀ q : Nat, J p l e R s m args below meth c nL Z (cells + 1) (slots + N) Q (alp al a b q) (shp sh a b (.inl (ci, tg))) (szero S a b) pc' lv (.ref q :: st)) : J p l e R s m args below meth c nL Z cells slots Q al sh S pc lv st := by
  subst hp
  intro H locs ls hW hS hl
  have hKn := cx.2.1.1 ci _ hc
  refine W.newcK cx.1.1 cx.1.2.1 cx.1.2.2.2.1 (cx.1.2.2.2.2 _ hcl) (cx.1.2.2.2.2 _ hinst) (cx.1.2.2.2.2 _ hini) rfl d hcells hslots hKn.2.1 rfl fun H1 kC hkC e1 z1 o1 => ?_
  have hn : yAt Z.1 (alp al a b H.size) (szero S a b) a b (.inl (ci, tg)) H1 := by
    refine ⟨_, hc, ?_⟩
    rw [alp_self]
    refine (u_born ty0 cx.1.2.2.2.2 hin hKn hkC e1 hty).to (fun j hj => ?_)
    show defaultValue (ty0 j) = yV (alp al a b H.size) (szero S a b) a b tg j
    rw [hdf j hj]
    by_cases e : (ty0 j).isReference = true
    · rw [if_pos e, yV_n (by rw [htg j hj, if_pos e])]
    · rw [if_neg e, yV_i (by rw [htg j hj, if_neg e])]
      simp [szero]
  exact k H.size H1 locs ls (hW.new hs ha z1 o1 (fun c d j h => by simp only [szero, if_neg h]) hn (fun ci' tg' j k' e => by cases e; exact htn j k')) ⟨Nat.le_trans hS.1 (by omega), fun x h1 h2 => (o1 x (Nat.lt_of_lt_of_le h1 hS.1)).trans (hS.2.1 x h1 h2), hS.2.2⟩ hl
theorem j_newi (cx : Cx p s m args c cc nL own Ts Z) (a b : Nat) (hs : sh a b = none) (ha : a ≠ 99) (harr : Cond.arrayClass (newarray.typeOf .int) ∈ Ts) {n : Int32} {N : Nat} (hn : ¬ n < 0) (hN : n.toNatClampNeg = N) (hb : N ≤ 10000) (hcells : cells + 1 ≤ R.cells) (hslots : slots + N ≤ R.slots) (d : decode cc pc = .ok (.newarray .int, 2)) (hp : pc + 2 = pc') (k : ∀ q : Nat, J p l e R s m args below meth c nL Z (cells + 1) (slots + N) Q (alp al a b q) (shp sh a b (.inr (.inl (Z.2.1 0, N)))) (szero S a b) pc' lv (.ref q :: st)) : J p l e R s m args below meth c nL Z cells slots Q al sh S pc lv (.int n :: st) := by
  subst hp
  intro H locs ls hW hS hl
  refine va_newaK cx.1.1 cx.1.2.1 (cx.1.2.2.2.2 _ harr) rfl d rfl hn hN (by show N * _ ≤ _; have h9 : componentBytes (newarray.typeOf .int) ≤ 8 := by decide
                                                                            exact Nat.le_trans (Nat.mul_le_mul hb h9) (by decide)) hcells hslots rfl fun H1 cA e1 z1 o1 hAr hNm => ?_
  have hcA : cA = Z.2.1 0 := by
    have h9 : s.vm.findClass ("[" ++ (FieldType.int).toString) = some (Z.2.1 0) := (cx.2.1.2 0 (Z.2.1 0, .int) rfl).2
    exact Option.some.inj (hNm.symm.trans h9)
  subst hcA
  have hat : yAt Z.1 (alp al a b H.size) (szero S a b) a b (.inr (.inl (Z.2.1 0, N))) H1 := by
    show H1[alp al a b H.size a b]? = some (vp_cell _ _)
    rw [alp_self, vp_cell_i, e1]
    congr 2
    funext j
    simp [szero, defaultValue, newarray.typeOf]
  exact k H.size H1 locs ls (hW.new hs ha z1 o1 (fun c d j h => by simp only [szero, if_neg h]) hat (fun _ _ _ _ e => by cases e)) ⟨Nat.le_trans hS.1 (by omega), fun x h1 h2 => (o1 x (Nat.lt_of_lt_of_le h1 hS.1)).trans (hS.2.1 x h1 h2), hS.2.2⟩ hl
theorem j_newc (cx : Cx p s m args c cc nL own Ts Z) (a b : Nat) (hs : sh a b = none) (ha : a ≠ 99) (harr : Cond.arrayClass (newarray.typeOf .char) ∈ Ts) {n : Int32} {N : Nat} (hn : ¬ n < 0) (hN : n.toNatClampNeg = N) (hb : N ≤ 10000) (hcells : cells + 1 ≤ R.cells) (hslots : slots + N ≤ R.slots) (d : decode cc pc = .ok (.newarray .char, 2)) (hp : pc + 2 = pc') (k : ∀ q : Nat, J p l e R s m args below meth c nL Z (cells + 1) (slots + N) Q (alp al a b q) (shp sh a b (.inr (.inl (Z.2.1 1, N)))) (szero S a b) pc' lv (.ref q :: st)) : J p l e R s m args below meth c nL Z cells slots Q al sh S pc lv (.int n :: st) := by
  subst hp
  intro H locs ls hW hS hl
  refine va_newaK cx.1.1 cx.1.2.1 (cx.1.2.2.2.2 _ harr) rfl d rfl hn hN (by show N * _ ≤ _; have h9 : componentBytes (newarray.typeOf .char) ≤ 8 := by decide
                                                                            exact Nat.le_trans (Nat.mul_le_mul hb h9) (by decide)) hcells hslots rfl fun H1 cA e1 z1 o1 hAr hNm => ?_
  have hcA : cA = Z.2.1 1 := by
    have h9 : s.vm.findClass ("[" ++ (FieldType.char).toString) = some (Z.2.1 1) := (cx.2.1.2 1 (Z.2.1 1, .char) rfl).2
    exact Option.some.inj (hNm.symm.trans h9)
  subst hcA
  have hat : yAt Z.1 (alp al a b H.size) (szero S a b) a b (.inr (.inl (Z.2.1 1, N))) H1 := by
    show H1[alp al a b H.size a b]? = some (vp_cell _ _)
    rw [alp_self, vp_cell_i, e1]
    congr 2
    funext j
    simp [szero, defaultValue, newarray.typeOf]
  exact k H.size H1 locs ls (hW.new hs ha z1 o1 (fun c d j h => by simp only [szero, if_neg h]) hat (fun _ _ _ _ e => by cases e)) ⟨Nat.le_trans hS.1 (by omega), fun x h1 h2 => (o1 x (Nat.lt_of_lt_of_le h1 hS.1)).trans (hS.2.1 x h1 h2), hS.2.2⟩ hl
section THROW
variable {mc ms : Nat} {post : yPost} {px : String → Prop}
theorem y_hat (cx : Cx p s m args c cc nL own Ts Z) {L : List Cond} (h1 : ∀ w ∈ L.filter goodWord, w ∈ Ts) (h2 : ∀ w ∈ L.filter (fun w => !goodWord w), (∃ q ∈ yCast, w = .castable q.1 q.2) ∨ ∃ q ∈ yDecl, w = .declares q) : ∀ w ∈ L, w.before args s = true := by
  intro w hw
  by_cases hg : goodWord w = true
  · exact cx.1.2.2.2.2 w (h1 w (List.mem_filter.mpr ⟨hw, hg⟩))
  · rcases h2 w (List.mem_filter.mpr ⟨hw, by simp [hg]⟩) with ⟨q, hq, rfl⟩ | ⟨q, hq, rfl⟩
    · exact va_Nw.use (A := args) rfl (cx.2.2.2.2.2.2.2.2.2.1.1 q hq)
    · exact va_any rfl (cx.2.2.2.2.2.2.2.2.2.1.2.1 q hq)
theorem j_throwS (cx : Cx p s m args c cc nL own Ts Z) (hl0 : l.stackTraces = false) (hlk : meth.locks = false) (htb : ∀ x ∈ c.exceptionTable.toList, False) {cls text : String} {names : List String} {ik is ic : Nat} (hown : own = RX2) (hmem : (is, text) ∈ yStrs) (hcls : Bundle.fit cls = true) (hnames : ∀ n ∈ names, Bundle.fit n = true) (hk : Cond.classLink own ik cls ∈ Ts) (hini : Cond.initialized cls ∈ Ts) (h1 : ∀ w ∈ (vx_atS own ic cls names).filter goodWord, w ∈ Ts)
    (h2 : ∀ w ∈ (vx_atS own ic cls names).filter (fun w => !goodWord w), (∃ q ∈ yCast, w = .castable q.1 q.2) ∨ ∃ q ∈ yDecl, w = .declares q) (hgood : ∀ w ∈ Cond.classLink own ik cls :: Cond.initialized cls :: vx_atS own ic cls names, vx_ot w = true)
    (d0 : decode cc pc = .ok (.new ik, 3)) (d3 : decode cc (pc + 3) = .ok (.dup, 1)) (d4 : decode cc (pc + 4) = .ok (.ldc is, 2)) (d6 : decode cc (pc + 6) = .ok (.invokespecial ic, 3)) (d9 : decode cc (pc + 9) = .ok (.athrow, 1))
    (hRf : names.length + 3 < R.frames) (hRl : (st.map fun v => v.category).sum + (13 * (names.length + 1) + 43) ≤ R.locals) (hRc : cells + 1 ≤ R.cells) (hRs : slots + 6 ≤ R.slots) (hc : cells + 1 ≤ mc) (hs : slots + 6 ≤ ms) (hp : px cls) :
    J p l e R s m args below meth c nL Z cells slots (vx_MQ below (Qn Z post) (Qx Z px al sh S) args s mc ms (yF Z)) al sh S pc lv st := by
  subst hown
  intro H locs ls hW hS hl
  obtain ⟨sa, hsa⟩ := cx.2.2.2.2.2.1 _ hmem
  refine vx_throwS cx.1.1 cx.1.2.1 hl0 cx.1.2.2.2.1 hcls hnames (cx.1.2.2.2.2 _ hk) (cx.1.2.2.2.2 _ hini) hsa (y_hat cx h1 h2) hgood cx.2.2.2.1 cx.2.2.2.2.1 hS (hl.1.trans cx.1.2.2.1.symm) d0 d3 d4 d6 d9 (fun x hx => (htb x hx).elim) hRf hRl hRc hRs hlk (fun t ht hz hq => ⟨hp, hW.kept hz hq, ?_⟩) hS.2.2 hc hs
  exact ⟨Nat.le_trans hS.1 hz, fun q g1 g2 => (hq q (Nat.lt_of_lt_of_le g1 hS.1)).trans (hS.2.1 q g1 g2)⟩
theorem j_throwSW (cx : Cx p s m args c cc nL own Ts Z) (hl0 : l.stackTraces = false) (hlk : meth.locks = false) (htb : ∀ x ∈ c.exceptionTable.toList, False) {cls text : String} {names : List String} {ik is ic : Nat} (hown : own = RX2) (hmem : (is, text) ∈ yStrs) (hcls : Bundle.fit cls = true) (hnames : ∀ n ∈ names, Bundle.fit n = true) (hk : Cond.classLink own ik cls ∈ Ts) (hini : Cond.initialized cls ∈ Ts) (h1 : ∀ w ∈ (vx_atS own ic cls names).filter goodWord, w ∈ Ts)
    (h2 : ∀ w ∈ (vx_atS own ic cls names).filter (fun w => !goodWord w), (∃ q ∈ yCast, w = .castable q.1 q.2) ∨ ∃ q ∈ yDecl, w = .declares q) (hgood : ∀ w ∈ Cond.classLink own ik cls :: Cond.initialized cls :: vx_atS own ic cls names, vx_ot w = true)
    (d0 : decode cc pc = .ok (.new ik, 3)) (d3 : decode cc (pc + 3) = .ok (.dup, 1)) (d4 : decode cc (pc + 4) = .ok (.ldc_w is, 3)) (d6 : decode cc (pc + 7) = .ok (.invokespecial ic, 3)) (d9 : decode cc (pc + 10) = .ok (.athrow, 1))
    (hRf : names.length + 3 < R.frames) (hRl : (st.map fun v => v.category).sum + (13 * (names.length + 1) + 43) ≤ R.locals) (hRc : cells + 1 ≤ R.cells) (hRs : slots + 6 ≤ R.slots) (hc : cells + 1 ≤ mc) (hs : slots + 6 ≤ ms) (hp : px cls) :
    J p l e R s m args below meth c nL Z cells slots (vx_MQ below (Qn Z post) (Qx Z px al sh S) args s mc ms (yF Z)) al sh S pc lv st := by
  subst hown
  intro H locs ls hW hS hl
  obtain ⟨sa, hsa⟩ := cx.2.2.2.2.2.1 _ hmem
  refine vx_throwSW cx.1.1 cx.1.2.1 hl0 cx.1.2.2.2.1 hcls hnames (cx.1.2.2.2.2 _ hk) (cx.1.2.2.2.2 _ hini) hsa (y_hat cx h1 h2) hgood cx.2.2.2.1 cx.2.2.2.2.1 hS (hl.1.trans cx.1.2.2.1.symm) d0 d3 d4 d6 d9 (fun x hx => (htb x hx).elim) hRf hRl hRc hRs hlk (fun t ht hz hq => ⟨hp, hW.kept hz hq, ?_⟩) hS.2.2 hc hs
  exact ⟨Nat.le_trans hS.1 hz, fun q g1 g2 => (hq q (Nat.lt_of_lt_of_le g1 hS.1)).trans (hS.2.1 q g1 g2)⟩
end THROW
end JROWS
/-! a method's contract out of the walk of its body -/
section STARTS
variable {l : Launch} {y : MethodName} {ws ws' : List Cond} {rm : Room} {mc ms : Nat} {Z : yL} {av : List Value} {al : yAl} {sh : ySh} {S : yS} {post : yPost} {px : String → Prop} {bytes : ByteArray} {maxL : Nat} {ret : Option FieldType} {lv : List (Nat × Value)} {hh : List (Nat × Nat × Nat × Nat)}
theorem J.start {p : Program} {e : Env} {s : State} {m : MethodId} {below : List Frame} {meth : Method} {c : Code} {Q : State → Prop} (hlen : (lg_sl av).length ≤ maxL) (hlv : lv_args 0 av = lv) (hP : yP Z al sh S s) (k : J p l e rm s m av.toArray below meth c maxL Z 0 0 Q al sh S 0 lv []) : W p l e rm s m av.toArray below meth c s.heap [] 0 0 Q (entryFrame m av.toArray maxL) := by
  have hl := lv_entry av (n := maxL) hlen
  rw [lg_entry_eq]
  rw [hlv] at hl
  exact k _ _ _ hP.1 va_S.rf hl
theorem Ct.of (hy : plainName y.cls = true) (hw : ws = Cond.code y bytes maxL ret :: ws') (hlen : (lg_sl av).length ≤ maxL) (hlv : lv_args 0 av = lv)
    (body : ∀ p e s m below meth c, Cx p s m av.toArray c bytes maxL y.cls ws Z → meth.locks = false → meth.sig.returnType = ret → meth.name = y.name → J p l e rm s m av.toArray below meth c maxL Z 0 0 (MQ below (Qn Z post) av.toArray s mc ms (yF Z)) al sh S 0 lv []) : Ct l y ws rm mc ms Z av al sh S post := by
  refine Met.ofW (cc := bytes) (maxL := maxL) (ret := ret) hy hw ?_
  intro p e s m args below meth c s₁ B hml hv
  obtain ⟨rfl, hP⟩ := hv
  exact J.start hlen hlv hP (body p e s m below meth c ⟨⟨B.exec, B.bytes, hml, findClass_of_methodNamed B.named, atoms_spec (ws := ws) B.pre⟩, hP.2.1, hP.1.1, hP.2.2⟩ B.notSynchronized B.returns (name_of_methodNamed B.named B.method).1)
theorem Cq.of (hy : plainName y.cls = true) (hw : ws = Cond.code y bytes maxL ret :: ws') (hlen : (lg_sl av).length ≤ maxL) (hlv : lv_args 0 av = lv)
    (body : ∀ p e s m below meth c, Cx p s m av.toArray c bytes maxL y.cls ws Z → meth.locks = false → meth.sig.returnType = ret → (∀ x ∈ c.exceptionTable.toList, False) → J p l e rm s m av.toArray below meth c maxL Z 0 0 (vx_MQ below (Qn Z post) (Qx Z px al sh S) av.toArray s mc ms (yF Z)) al sh S 0 lv []) : Cq l y ws rm mc ms Z av al sh S post px := by
  refine vx_ofW (cc := bytes) (maxL := maxL) (ret := ret) hy hw ?_
  intro p e s m args below meth c s₁ B hml ht hv
  obtain ⟨rfl, hP⟩ := hv
  exact J.start hlen hlv hP (body p e s m below meth c ⟨⟨B.exec, B.bytes, hml, findClass_of_methodNamed B.named, atoms_spec (ws := ws) B.pre⟩, hP.2.1, hP.1.1, hP.2.2⟩ B.notSynchronized B.returns ht)
end STARTS
end
