section
-- ===== PART A: goes FIRST, ahead of the names: the tables' words, and 'selects' of the private methods out of them =====
/-- a private method of a class that the tables say can be made, by its rows of tables_1 -/
def lw_okq (q : MethodName × Nat) : Prop := (q.1.cls ≠ "java/lang/invoke/MethodHandle" ∧ q.1.cls ≠ "java/lang/invoke/VarHandle") ∧ Cond.instantiable q.1.cls q.2 ∈ tables_1 ∧ Cond.privateMethod q.1 ∈ tables_1 ∧ Cond.instanceMethod q.1 ∈ tables_1
theorem lw_p0 : lw_okq (⟨"StarConsole$Show", "starsSeen", "(LStarConsole$Stars;)I"⟩, 9) := ⟨⟨by decide +kernel, by decide +kernel⟩, List.mem_of_getElem? (i := 74) (by decide +kernel), List.mem_of_getElem? (i := 221) (by decide +kernel), List.mem_of_getElem? (i := 222) (by decide +kernel)⟩
theorem lw_p1 : lw_okq (⟨"StarConsole$Show", "starSeen", "(LStarConsole$Stars;I)Z"⟩, 9) := ⟨⟨by decide +kernel, by decide +kernel⟩, List.mem_of_getElem? (i := 74) (by decide +kernel), List.mem_of_getElem? (i := 225) (by decide +kernel), List.mem_of_getElem? (i := 226) (by decide +kernel)⟩
theorem lw_p2 : lw_okq (⟨"StarConsole$Show", "outshines", "(II)Z"⟩, 9) := ⟨⟨by decide +kernel, by decide +kernel⟩, List.mem_of_getElem? (i := 74) (by decide +kernel), List.mem_of_getElem? (i := 237) (by decide +kernel), List.mem_of_getElem? (i := 238) (by decide +kernel)⟩
theorem lw_p3 : lw_okq (⟨"StarConsole$Show", "cometsSeen", "()I"⟩, 9) := ⟨⟨by decide +kernel, by decide +kernel⟩, List.mem_of_getElem? (i := 74) (by decide +kernel), List.mem_of_getElem? (i := 242) (by decide +kernel), List.mem_of_getElem? (i := 243) (by decide +kernel)⟩
theorem lw_p4 : lw_okq (⟨"StarConsole$Show", "cometSeen", "(I)Z"⟩, 9) := ⟨⟨by decide +kernel, by decide +kernel⟩, List.mem_of_getElem? (i := 74) (by decide +kernel), List.mem_of_getElem? (i := 246) (by decide +kernel), List.mem_of_getElem? (i := 247) (by decide +kernel)⟩
theorem lw_p5 : lw_okq (⟨"StarConsole", "joinedDimmers", "(J)J"⟩, 4) := ⟨⟨by decide +kernel, by decide +kernel⟩, List.mem_of_getElem? (i := 17) (by decide +kernel), List.mem_of_getElem? (i := 258) (by decide +kernel), List.mem_of_getElem? (i := 259) (by decide +kernel)⟩
theorem lw_p6 : lw_okq (⟨"StarConsole", "joinedStars", "(J)J"⟩, 4) := ⟨⟨by decide +kernel, by decide +kernel⟩, List.mem_of_getElem? (i := 17) (by decide +kernel), List.mem_of_getElem? (i := 270) (by decide +kernel), List.mem_of_getElem? (i := 271) (by decide +kernel)⟩
theorem lw_p7 : lw_okq (⟨"StarConsole", "joinedComets", "(J)J"⟩, 4) := ⟨⟨by decide +kernel, by decide +kernel⟩, List.mem_of_getElem? (i := 17) (by decide +kernel), List.mem_of_getElem? (i := 278) (by decide +kernel), List.mem_of_getElem? (i := 279) (by decide +kernel)⟩
theorem lw_p8 : lw_okq (⟨"StarConsole", "joinedCues", "(J)J"⟩, 4) := ⟨⟨by decide +kernel, by decide +kernel⟩, List.mem_of_getElem? (i := 17) (by decide +kernel), List.mem_of_getElem? (i := 286) (by decide +kernel), List.mem_of_getElem? (i := 287) (by decide +kernel)⟩
theorem lw_p9 : lw_okq (⟨"java/lang/Throwable", "fillInStackTrace", "(I)Ljava/lang/Throwable;"⟩, 6) := ⟨⟨by decide +kernel, by decide +kernel⟩, List.mem_of_getElem? (i := 344) (by decide +kernel), List.mem_of_getElem? (i := 342) (by decide +kernel), List.mem_of_getElem? (i := 343) (by decide +kernel)⟩
theorem lw_p10 : lw_okq (⟨"StarConsole$Dimmers", "darkenWithoutLife", "(I)V"⟩, 6) := ⟨⟨by decide +kernel, by decide +kernel⟩, List.mem_of_getElem? (i := 80) (by decide +kernel), List.mem_of_getElem? (i := 425) (by decide +kernel), List.mem_of_getElem? (i := 426) (by decide +kernel)⟩
theorem lw_p11 : lw_okq (⟨"StarConsole", "suits", "(III)Z"⟩, 4) := ⟨⟨by decide +kernel, by decide +kernel⟩, List.mem_of_getElem? (i := 17) (by decide +kernel), List.mem_of_getElem? (i := 452) (by decide +kernel), List.mem_of_getElem? (i := 453) (by decide +kernel)⟩
theorem lw_p12 : lw_okq (⟨"StarConsole$Show", "runCues", "(LStarConsole$Cues;)I"⟩, 9) := ⟨⟨by decide +kernel, by decide +kernel⟩, List.mem_of_getElem? (i := 74) (by decide +kernel), List.mem_of_getElem? (i := 498) (by decide +kernel), List.mem_of_getElem? (i := 499) (by decide +kernel)⟩
theorem lw_p13 : lw_okq (⟨"StarConsole$Show", "obey", "(III)V"⟩, 9) := ⟨⟨by decide +kernel, by decide +kernel⟩, List.mem_of_getElem? (i := 74) (by decide +kernel), List.mem_of_getElem? (i := 502) (by decide +kernel), List.mem_of_getElem? (i := 503) (by decide +kernel)⟩
theorem lw_p14 : lw_okq (⟨"StarConsole$Show", "speakOn", "()V"⟩, 9) := ⟨⟨by decide +kernel, by decide +kernel⟩, List.mem_of_getElem? (i := 74) (by decide +kernel), List.mem_of_getElem? (i := 529) (by decide +kernel), List.mem_of_getElem? (i := 530) (by decide +kernel)⟩
theorem lw_p15 : lw_okq (⟨"StarConsoleModel", "fail", "(I)I"⟩, 9) := ⟨⟨by decide +kernel, by decide +kernel⟩, List.mem_of_getElem? (i := 624) (by decide +kernel), List.mem_of_getElem? (i := 669) (by decide +kernel), List.mem_of_getElem? (i := 670) (by decide +kernel)⟩
def lw_privs_1 : List (MethodName × Nat) := [(⟨"StarConsole$Show", "starsSeen", "(LStarConsole$Stars;)I"⟩, 9), (⟨"StarConsole$Show", "starSeen", "(LStarConsole$Stars;I)Z"⟩, 9), (⟨"StarConsole$Show", "outshines", "(II)Z"⟩, 9), (⟨"StarConsole$Show", "cometsSeen", "()I"⟩, 9), (⟨"StarConsole$Show", "cometSeen", "(I)Z"⟩, 9), (⟨"StarConsole", "joinedDimmers", "(J)J"⟩, 4), (⟨"StarConsole", "joinedStars", "(J)J"⟩, 4), (⟨"StarConsole", "joinedComets", "(J)J"⟩, 4), (⟨"StarConsole", "joinedCues", "(J)J"⟩, 4), (⟨"java/lang/Throwable", "fillInStackTrace", "(I)Ljava/lang/Throwable;"⟩, 6), (⟨"StarConsole$Dimmers", "darkenWithoutLife", "(I)V"⟩, 6), (⟨"StarConsole", "suits", "(III)Z"⟩, 4), (⟨"StarConsole$Show", "runCues", "(LStarConsole$Cues;)I"⟩, 9), (⟨"StarConsole$Show", "obey", "(III)V"⟩, 9), (⟨"StarConsole$Show", "speakOn", "()V"⟩, 9), (⟨"StarConsoleModel", "fail", "(I)I"⟩, 9)]
theorem lw_r1 : ∀ q ∈ lw_privs_1, lw_okq q := List.forall_mem_cons.mpr ⟨lw_p0, List.forall_mem_cons.mpr ⟨lw_p1, List.forall_mem_cons.mpr ⟨lw_p2, List.forall_mem_cons.mpr ⟨lw_p3, List.forall_mem_cons.mpr ⟨lw_p4, List.forall_mem_cons.mpr ⟨lw_p5, List.forall_mem_cons.mpr ⟨lw_p6, List.forall_mem_cons.mpr ⟨lw_p7, List.forall_mem_cons.mpr ⟨lw_p8, List.forall_mem_cons.mpr ⟨lw_p9, List.forall_mem_cons.mpr ⟨lw_p10, List.forall_mem_cons.mpr ⟨lw_p11, List.forall_mem_cons.mpr ⟨lw_p12, List.forall_mem_cons.mpr ⟨lw_p13, List.forall_mem_cons.mpr ⟨lw_p14, List.forall_mem_cons.mpr ⟨lw_p15, fun _ h => absurd h List.not_mem_nil⟩⟩⟩⟩⟩⟩⟩⟩⟩⟩⟩⟩⟩⟩⟩⟩
theorem lw_p16 : lw_okq (⟨"StarConsoleModel", "isDimmer", "(I)Z"⟩, 9) := ⟨⟨by decide +kernel, by decide +kernel⟩, List.mem_of_getElem? (i := 624) (by decide +kernel), List.mem_of_getElem? (i := 680) (by decide +kernel), List.mem_of_getElem? (i := 681) (by decide +kernel)⟩
theorem lw_p17 : lw_okq (⟨"StarConsoleModel", "la", "(II)I"⟩, 9) := ⟨⟨by decide +kernel, by decide +kernel⟩, List.mem_of_getElem? (i := 624) (by decide +kernel), List.mem_of_getElem? (i := 684) (by decide +kernel), List.mem_of_getElem? (i := 685) (by decide +kernel)⟩
theorem lw_p18 : lw_okq (⟨"StarConsoleModel", "put", "(III)V"⟩, 9) := ⟨⟨by decide +kernel, by decide +kernel⟩, List.mem_of_getElem? (i := 624) (by decide +kernel), List.mem_of_getElem? (i := 688) (by decide +kernel), List.mem_of_getElem? (i := 689) (by decide +kernel)⟩
theorem lw_p19 : lw_okq (⟨"StarConsoleModel", "isCue", "(III)Z"⟩, 9) := ⟨⟨by decide +kernel, by decide +kernel⟩, List.mem_of_getElem? (i := 624) (by decide +kernel), List.mem_of_getElem? (i := 700) (by decide +kernel), List.mem_of_getElem? (i := 701) (by decide +kernel)⟩
theorem lw_p20 : lw_okq (⟨"StarConsoleModel", "ticksOn", "(I)I"⟩, 9) := ⟨⟨by decide +kernel, by decide +kernel⟩, List.mem_of_getElem? (i := 624) (by decide +kernel), List.mem_of_getElem? (i := 720) (by decide +kernel), List.mem_of_getElem? (i := 721) (by decide +kernel)⟩
theorem lw_p21 : lw_okq (⟨"StarConsoleModel", "tickOn", "()I"⟩, 9) := ⟨⟨by decide +kernel, by decide +kernel⟩, List.mem_of_getElem? (i := 624) (by decide +kernel), List.mem_of_getElem? (i := 724) (by decide +kernel), List.mem_of_getElem? (i := 725) (by decide +kernel)⟩
theorem lw_p22 : lw_okq (⟨"StarConsoleModel", "carryOut", "(I)V"⟩, 9) := ⟨⟨by decide +kernel, by decide +kernel⟩, List.mem_of_getElem? (i := 624) (by decide +kernel), List.mem_of_getElem? (i := 728) (by decide +kernel), List.mem_of_getElem? (i := 729) (by decide +kernel)⟩
theorem lw_p23 : lw_okq (⟨"StarConsoleModel", "glow", "(I)V"⟩, 9) := ⟨⟨by decide +kernel, by decide +kernel⟩, List.mem_of_getElem? (i := 624) (by decide +kernel), List.mem_of_getElem? (i := 732) (by decide +kernel), List.mem_of_getElem? (i := 733) (by decide +kernel)⟩
theorem lw_p24 : lw_okq (⟨"StarConsoleModel", "glareOf", "(I)I"⟩, 9) := ⟨⟨by decide +kernel, by decide +kernel⟩, List.mem_of_getElem? (i := 624) (by decide +kernel), List.mem_of_getElem? (i := 749) (by decide +kernel), List.mem_of_getElem? (i := 750) (by decide +kernel)⟩
theorem lw_p25 : lw_okq (⟨"StarConsoleModel", "starTold", "(II)I"⟩, 9) := ⟨⟨by decide +kernel, by decide +kernel⟩, List.mem_of_getElem? (i := 624) (by decide +kernel), List.mem_of_getElem? (i := 757) (by decide +kernel), List.mem_of_getElem? (i := 758) (by decide +kernel)⟩
theorem lw_p26 : lw_okq (⟨"StarConsoleModel", "stands", "(I)I"⟩, 9) := ⟨⟨by decide +kernel, by decide +kernel⟩, List.mem_of_getElem? (i := 624) (by decide +kernel), List.mem_of_getElem? (i := 761) (by decide +kernel), List.mem_of_getElem? (i := 762) (by decide +kernel)⟩
theorem lw_p27 : lw_okq (⟨"StarConsoleModel", "isSeen", "(II)Z"⟩, 9) := ⟨⟨by decide +kernel, by decide +kernel⟩, List.mem_of_getElem? (i := 624) (by decide +kernel), List.mem_of_getElem? (i := 765) (by decide +kernel), List.mem_of_getElem? (i := 766) (by decide +kernel)⟩
theorem lw_p28 : lw_okq (⟨"StarConsoleModel", "cometTold", "(II)I"⟩, 9) := ⟨⟨by decide +kernel, by decide +kernel⟩, List.mem_of_getElem? (i := 624) (by decide +kernel), List.mem_of_getElem? (i := 773) (by decide +kernel), List.mem_of_getElem? (i := 774) (by decide +kernel)⟩
theorem lw_p29 : lw_okq (⟨"StarConsoleModel", "counted", "(I)I"⟩, 9) := ⟨⟨by decide +kernel, by decide +kernel⟩, List.mem_of_getElem? (i := 624) (by decide +kernel), List.mem_of_getElem? (i := 781) (by decide +kernel), List.mem_of_getElem? (i := 782) (by decide +kernel)⟩
theorem lw_p30 : lw_okq (⟨"StarConsoleModel", "kept", "()[[I"⟩, 9) := ⟨⟨by decide +kernel, by decide +kernel⟩, List.mem_of_getElem? (i := 624) (by decide +kernel), List.mem_of_getElem? (i := 797) (by decide +kernel), List.mem_of_getElem? (i := 798) (by decide +kernel)⟩
theorem lw_p31 : lw_okq (⟨"StarConsoleModel", "bringBack", "([[I)V"⟩, 9) := ⟨⟨by decide +kernel, by decide +kernel⟩, List.mem_of_getElem? (i := 624) (by decide +kernel), List.mem_of_getElem? (i := 809) (by decide +kernel), List.mem_of_getElem? (i := 810) (by decide +kernel)⟩
def lw_privs_2 : List (MethodName × Nat) := [(⟨"StarConsoleModel", "isDimmer", "(I)Z"⟩, 9), (⟨"StarConsoleModel", "la", "(II)I"⟩, 9), (⟨"StarConsoleModel", "put", "(III)V"⟩, 9), (⟨"StarConsoleModel", "isCue", "(III)Z"⟩, 9), (⟨"StarConsoleModel", "ticksOn", "(I)I"⟩, 9), (⟨"StarConsoleModel", "tickOn", "()I"⟩, 9), (⟨"StarConsoleModel", "carryOut", "(I)V"⟩, 9), (⟨"StarConsoleModel", "glow", "(I)V"⟩, 9), (⟨"StarConsoleModel", "glareOf", "(I)I"⟩, 9), (⟨"StarConsoleModel", "starTold", "(II)I"⟩, 9), (⟨"StarConsoleModel", "stands", "(I)I"⟩, 9), (⟨"StarConsoleModel", "isSeen", "(II)Z"⟩, 9), (⟨"StarConsoleModel", "cometTold", "(II)I"⟩, 9), (⟨"StarConsoleModel", "counted", "(I)I"⟩, 9), (⟨"StarConsoleModel", "kept", "()[[I"⟩, 9), (⟨"StarConsoleModel", "bringBack", "([[I)V"⟩, 9)]
theorem lw_r2 : ∀ q ∈ lw_privs_2, lw_okq q := List.forall_mem_cons.mpr ⟨lw_p16, List.forall_mem_cons.mpr ⟨lw_p17, List.forall_mem_cons.mpr ⟨lw_p18, List.forall_mem_cons.mpr ⟨lw_p19, List.forall_mem_cons.mpr ⟨lw_p20, List.forall_mem_cons.mpr ⟨lw_p21, List.forall_mem_cons.mpr ⟨lw_p22, List.forall_mem_cons.mpr ⟨lw_p23, List.forall_mem_cons.mpr ⟨lw_p24, List.forall_mem_cons.mpr ⟨lw_p25, List.forall_mem_cons.mpr ⟨lw_p26, List.forall_mem_cons.mpr ⟨lw_p27, List.forall_mem_cons.mpr ⟨lw_p28, List.forall_mem_cons.mpr ⟨lw_p29, List.forall_mem_cons.mpr ⟨lw_p30, List.forall_mem_cons.mpr ⟨lw_p31, fun _ h => absurd h List.not_mem_nil⟩⟩⟩⟩⟩⟩⟩⟩⟩⟩⟩⟩⟩⟩⟩⟩
def lw_privs : List (MethodName × Nat) := lw_privs_1 ++ (lw_privs_2)
def lw_tbl : List Cond := k2_sels lw_privs ++ tables_1
theorem lw_privs_ok : ∀ q ∈ lw_privs, lw_okq q := by
  show ∀ q ∈ lw_privs_1 ++ (lw_privs_2), lw_okq q
  exact List.forall_mem_append.mpr ⟨lw_r1, lw_r2⟩
/-- the streams that the claim lets the run draw from -/
abbrev lw_cs : List Choice := [Jvm.Choice.named "NaN.bits"]
theorem lw_bits : nanBits ∈ lw_cs := by first | decide | exact List.mem_cons_self | simp [lw_cs, nanBits]
end
section
/-! ===== BEGIN words of one list among another's, by their places ===== -/
theorem goodIn_r {big : List Cond} (ws : List Cond) (ps : List Nat) (hp : ws = ps.filterMap (fun i => big[i]?)) (h : ws.all goodWord = true) : GoodIn big ws := by
  intro w hw
  have h1 := List.all_eq_true.mp h w hw
  rw [hp] at hw
  obtain ⟨i, -, hi⟩ := List.mem_filterMap.mp hw
  have hm : w ∈ big := by first | exact List.mem_of_getElem? hi | exact List.getElem?_mem hi
  exact ⟨hm, good_of_word h1⟩
theorem goodIn_app {big a b : List Cond} (ha : GoodIn big a) (hb : GoodIn big b) : GoodIn big (a ++ b) := fun w h => (List.mem_append.mp h).elim (ha w) (hb w)
theorem goodIn_ca {big a b : List Cond} {c : Cond} (ha : GoodIn big (c :: a)) (hb : GoodIn big b) : GoodIn big (c :: (a ++ b)) := fun w h => (List.mem_cons.mp h).elim (fun e => ha w (List.mem_cons.mpr (Or.inl e))) (fun h => (List.mem_append.mp h).elim (fun h => ha w (List.mem_cons.mpr (Or.inr h))) (hb w))
theorem goodIn_sub {big ws : List Cond} (hm : ∀ w ∈ ws, w ∈ big) (h : ws.all goodWord = true) : GoodIn big ws := fun w hw => ⟨hm w hw, good_of_word (List.all_eq_true.mp h w hw)⟩
/-! ===== END ===== -/

/-! ===== BEGIN exceptions that leave a method, and their catching by the caller (launches without stack traces) ===== -/
section VXA
/-! The laws vx_back, vx_callV, vx_callS, vx_callSW, vx_throw0, vx_throwS follow proofs of the library, with one case more: JvmDerived/Free/Laws.lean (Back.of_free), Shelf42/LK1.lean (callV, callS), Shelf/KitTraced.lean (throwNew0V, throwNewS). -/
/-- where a method has thrown q: the class by its name, the cell, what was written, the world -/
def vx_T (XC : String → State → State → Prop) (st : State) (q : Addr) (t : State) (mc ms : Nat) (free : Addr → Prop) : Prop :=
  ∃ (E : String) (ce : Cell) (L : List Loc), XC E st t ∧ t.heap[q]? = some ce ∧ ce.vm = .none ∧ st.vm.findClass E = some ce.cls ∧ st.WarmedH t.vm ∧ st.sameButNew ({ t with vm := st.vm } : State) L mc ms ∧ ∀ z ∈ L, free z.base
def vx_Q (Qc : Array Value → State → Outcome → State → Prop) (XC : String → State → State → Prop) (mc ms : Nat) (free : Addr → Prop) : Array Value → State → Outcome → State → Prop := fun a st o t =>
  (Qc a st o t ∧ ∃ L, FrameEnd st o t L mc ms ∧ ∀ q ∈ L, free q.base) ∨ ∃ q, o = .threw q ∧ vx_T XC st q t mc ms free
/-- a callee that returns or throws -/
def vx_Met (l : Launch) (y : MethodName) (ws : List Cond) (rm : Room) (Pc : Array Value → State → Prop) (Qc : Array Value → State → Outcome → State → Prop) (XC : String → State → State → Prop) (mc ms : Nat) (free : Addr → Prop) : Prop :=
  MetFree l y (headSpec ws rm) Pc (fun _ _ _ _ _ => True) (vx_Q Qc XC mc ms free)
def vx_Post (XC : String → State → State → Prop) (mc ms : Nat) (free : Addr → Prop) : Pt → Array Value → Addr → Pt → Prop := fun A a q B =>
  ∃ (g : JFrame) (mk : MethodId) (t : State) (L : List Loc) (E : String) (ce : Cell), B.U.heap = t.heap ∧ B.U.vm = t.vm ∧ XC E (A.U.calling g mk a) t ∧ t.heap[q]? = some ce ∧ ce.vm = .none ∧ A.U.vm.findClass E = some ce.cls ∧ B.locs = A.locs ++ L ∧ (∀ z ∈ L, free z.base) ∧ B.cells = A.cells + mc ∧ B.slots = A.slots + ms
def vx_Back (l : Launch) (R : Room) (p : Program) (e : Env) (below : List Frame) (s : State) (sargs : Array Value) (y : MethodName) (len W9 : Nat)
    (Pre : Pt → Array Value → Prop) (Post : Pt → Array Value → Option Value → Pt → Prop) (PostX : Pt → Array Value → Addr → Pt → Prop) : Prop :=
  ∀ (m : MethodId) (meth : Method) (c : Code) (A : Pt) (g : JFrame) (ig : Instr) (mk : MethodId) (a : Array Value),
    Stand p l e R s m sargs below meth c A.U A.locs A.cells A.slots → g.method = m → g.locals.size = c.maxLocals → decode c.code g.pc = .ok (ig, len) →
    2 * g.monitorRoom + (g.stack.map fun v => v.category).sum ≤ W9 → A.U.methodNamed? y = some mk → Pre A a →
    (∃ (v : Option Value) (B : Pt), Stand p l e R s m sargs below meth c B.U B.locs B.cells B.slots ∧ Post A a v B ∧
      Steps p.tables e below (doInvoke e (A.U.setTop g) [] mk a).1 (B.U.setTop { g with pc := g.pc + len, stack := v.toList ++ g.stack })) ∨
    (∃ (q : Addr) (B : Pt), Stand p l e R s m sargs below meth c B.U B.locs B.cells B.slots ∧ PostX A a q B ∧
      Steps p.tables e below (doInvoke e (A.U.setTop g) [] mk a).1 ((B.U.setTop g).pushFrame (.throwing q)))
section Payer
variable {l : Launch} {R : Room} {p : Program} {e : Env} {below : List Frame} {s : State} {sargs : Array Value} {y : MethodName} {len W9 : Nat}
theorem vx_back {ws : List Cond} {rm : Room} {Pc : Array Value → State → Prop} {Qc : Array Value → State → Outcome → State → Prop} {XC : String → State → State → Prop} {mc ms : Nat} {free : Addr → Prop} {bytes : ByteArray} {maxL : Nat} {ret : Option FieldType}
    (hM : vx_Met l y ws rm Pc Qc XC mc ms free) (hblind : FrameBlind Pc) (hrc : rm.cells = mc) (hrs : rm.slots = ms)
    (hframes : rm.frames + 1 ≤ R.frames) (hlocals : W9 + (maxL + 11) + rm.locals ≤ R.locals)
    (hws : ∀ w ∈ ws, ∀ a' U, s.WarmedH U.vm → w.before a' U = true) (hcode : Cond.code y bytes maxL ret ∈ ws) (hinit : ∀ a' U, s.WarmedH U.vm → (Cond.initialized y.cls).before a' U = true) :
    vx_Back l R p e below s sargs y len W9 (PreOf R mc ms Pc) (PostOf Qc mc ms free) (vx_Post XC mc ms free) := by
  intro m meth c A g ig mk a X hg hsize hdg hW hn hp
  have h1 : (headSpec ws rm).pre.before a A.U = true := atoms_intro fun w hw => hws w hw _ _ X.warmed
  have h2 : (Cond.code y bytes maxL ret).before a A.U = true := hws _ hcode _ _ X.warmed
  have h3 : (Cond.initialized y.cls).before a A.U = true := hinit _ _ X.warmed
  have h4 : A.cells + (headSpec ws rm).room.cells ≤ R.cells := by rw [show (headSpec ws rm).room.cells = mc from hrc]; exact hp.1
  have h5 : A.slots + (headSpec ws rm).room.slots ≤ R.slots := by rw [show (headSpec ws rm).room.slots = ms from hrs]; exact hp.2.1
  have hPc : Pc a (A.U.calling g mk a) := hblind _ _ _ _ hp.2.2
  obtain ⟨U, Ls, c0, s0⟩ := A
  dsimp only [Pt.U, Pt.locs, Pt.cells, Pt.slots] at h1 h2 h3 h4 h5 X hn hPc ⊢
  obtain ⟨methY, cY, hmY, hcY, -, hlY, -, -, -, -⟩ := Cond.code_spec hn h2
  obtain ⟨kY, hkY, -⟩ := className_of_methodNamed hn
  have hinitY : kY.init = .initialized := Cond.initialized_spec (findClass_of_methodNamed hn) hkY h3
  have h : At U g.method c below := by rw [hg]; exact X.here
  have hlocals9 : W9 + (maxL + 11) + (headSpec ws rm).room.locals ≤ R.locals := hlocals
  have happ : (headSpec ws rm).appliesLoose y e.platform (U.calling g mk a) = true :=
    Spec.appliesLoose_calling (g := g) h hdg hn hkY hinitY
      (X.room_calling (g := g) (R' := (headSpec ws rm).room) hsize hmY hcY hframes (by rw [hlY]; omega) h4 h5) h1
  obtain ⟨mid, hmid⟩ := h.above
  have hfr : (U.setTop g).frames = (.java g :: mid) ++ below := by rw [State.frames_setTop' g h.top, hmid]; rfl
  obtain ⟨o, s₂, hsteps, -, hend, hq⟩ := Steps.callFree hM p X.admits X.cas X.clock (acts := []) hfr happ hPc trivial
  have hq' : vx_Q Qc XC mc ms free a (U.calling g mk a) o s₂ := hq
  rw [State.frames_setTop' g h.top] at hend
  obtain ⟨g₀, hg0⟩ := Option.isSome_iff_exists.mp h.top
  obtain ⟨r, hr⟩ := State.topJava?_eq_some.mp hg0
  have hr' : (({ U with heap := s₂.heap, slotsUsed := s₂.slotsUsed } : State).setVm s₂.vm).frames = .java g₀ :: r := hr
  rcases hq' with ⟨hqc, L, hfe, hL⟩ | ⟨q, rfl, E, ce, L, hx, hce, hcv, hcl, hW₂, hsm, hL⟩
  · obtain ⟨⟨v, rfl⟩, hW₂, e2, q2, q3, q4, q5, q6⟩ := id hfe
    have e3 : s₂ = ({ (U.calling g mk a).setFrames s₂.frames with heap := s₂.heap, slotsUsed := s₂.slotsUsed } : State).setVm s₂.vm := by
      have : s₂ = ({ s₂ with vm := (U.calling g mk a).vm } : State).setVm s₂.vm := rfl
      rw [e2] at this
      exact this
    obtain ⟨c₂, i₂, len₂, hc₂, hd₂, hf₂⟩ := hend
    have hW' : U.WarmedH s₂.vm := hW₂
    have hcc : c₂ = c := by
      have h1 : s₂.code? g.method = U.code? g.method := by
        rw [State.code?_eq, State.code?_eq, hW'.alike.method?]
      exact Option.some.inj (hc₂.symm.trans (h1.trans h.code))
    subst hcc
    have hlen : len₂ = len := by rw [hdg] at hd₂; cases hd₂; rfl
    subst hlen
    have hs₂ : s₂ = (({ U with heap := s₂.heap, slotsUsed := s₂.slotsUsed } : State).setVm s₂.vm).setTop { g with pc := g.pc + len₂, stack := v.toList ++ g.stack } := by
      refine e3.trans ?_
      rw [hf₂, State.calling_eq h.top, State.setFrames_setFrames, State.setTop_of_frames _ hr', hr]
      rfl
    have hsame : U.sameButNew ({ U with heap := s₂.heap, slotsUsed := s₂.slotsUsed } : State) L mc ms := by
      refine ⟨?_, q2, q3, q4, q5, q6⟩
      obtain ⟨t, ht, -⟩ := State.frames_cons hr
      show ({ U with heap := s₂.heap, slotsUsed := s₂.slotsUsed } : State) = { U.setFrames U.frames with heap := s₂.heap, slotsUsed := s₂.slotsUsed }
      rw [State.setFrames_self ht]
    subst hg
    refine Or.inl ⟨v, ⟨(({ U with heap := s₂.heap, slotsUsed := s₂.slotsUsed } : State).setVm s₂.vm), Ls ++ L, c0 + mc, s0 + ms⟩,
      ⟨X.admits, X.cas, X.clock, X.frames, X.room, X.hears, X.method, X.code, (X.here.setHeapUsed s₂.heap s₂.slotsUsed).setVm hW'.alike, X.tail, State.WarmedH.trans X.warmed hW', X.limits, X.bytes, X.same.trans (hsame.setVm s.vm)⟩,
      ⟨g, mk, s₂, L, rfl, rfl, hqc, rfl, hL, rfl, rfl⟩, ?_⟩
    show Steps p.tables e below _ ((({ U with heap := s₂.heap, slotsUsed := s₂.slotsUsed } : State).setVm s₂.vm).setTop { g with pc := g.pc + len₂, stack := v.toList ++ g.stack })
    rw [← hs₂]
    exact hsteps
  · obtain ⟨e2, q2, q3, q4, q5, q6⟩ := id hsm
    have e3 : s₂ = ({ (U.calling g mk a).setFrames s₂.frames with heap := s₂.heap, slotsUsed := s₂.slotsUsed } : State).setVm s₂.vm := by
      have : s₂ = ({ s₂ with vm := (U.calling g mk a).vm } : State).setVm s₂.vm := rfl
      rw [e2] at this
      exact this
    have hf₂ : s₂.frames = .throwing q :: .java g :: U.frames.tail := hend
    have hW' : U.WarmedH s₂.vm := hW₂
    have hs₂ : s₂ = ((({ U with heap := s₂.heap, slotsUsed := s₂.slotsUsed } : State).setVm s₂.vm).setTop g).pushFrame (.throwing q) := by
      refine e3.trans ?_
      rw [hf₂, State.calling_eq h.top, State.setFrames_setFrames, State.pushFrame, State.frames_setTop _ hr', State.setTop_of_frames _ hr', State.setFrames_setFrames, hr]
      rfl
    have hsame : U.sameButNew ({ U with heap := s₂.heap, slotsUsed := s₂.slotsUsed } : State) L mc ms := by
      refine ⟨?_, q2, q3, q4, q5, q6⟩
      obtain ⟨t, ht, -⟩ := State.frames_cons hr
      show ({ U with heap := s₂.heap, slotsUsed := s₂.slotsUsed } : State) = { U.setFrames U.frames with heap := s₂.heap, slotsUsed := s₂.slotsUsed }
      rw [State.setFrames_self ht]
    subst hg
    refine Or.inr ⟨q, ⟨(({ U with heap := s₂.heap, slotsUsed := s₂.slotsUsed } : State).setVm s₂.vm), Ls ++ L, c0 + mc, s0 + ms⟩,
      ⟨X.admits, X.cas, X.clock, X.frames, X.room, X.hears, X.method, X.code, (X.here.setHeapUsed s₂.heap s₂.slotsUsed).setVm hW'.alike, X.tail, State.WarmedH.trans X.warmed hW', X.limits, X.bytes, X.same.trans (hsame.setVm s.vm)⟩,
      ⟨g, mk, s₂, L, E, ce, rfl, rfl, hx, hce, hcv, hcl, rfl, hL, rfl, rfl⟩, ?_⟩
    show Steps p.tables e below _ (((({ U with heap := s₂.heap, slotsUsed := s₂.slotsUsed } : State).setVm s₂.vm).setTop g).pushFrame (.throwing q))
    rw [← hs₂]
    exact hsteps
end Payer
section Calls
variable {p : Program} {l : Launch} {e : Env} {R : Room} {s : State} {m : MethodId} {args : Array Value} {below : List Frame} {meth : Method} {c : Code} {T : State} {locs : List Loc} {cells slots : Nat}
theorem vx_callV (X : Stand p l e R s m args below meth c T locs cells slots) (hexec : p.tables.exec = Jvm.exec) {own C : String} {index : Nat} {y : MethodName} {bytes : ByteArray} {maxL : Nat} {ret : Option FieldType}
    (hown : s.vm.findClass own = some m.cls) (hlink : (Cond.methodLink own index y).before args s = true) (hinst : (Cond.instanceMethod y).before args s = true) (hsel : (Cond.selects C y y).before args s = true)
    (hcode : (Cond.code y bytes maxL ret).before args s = true) (hy : y.cls ≠ "java/lang/invoke/MethodHandle" ∧ y.cls ≠ "java/lang/invoke/VarHandle")
    {W9 : Nat} {Pre : Pt → Array Value → Prop} {Post : Pt → Array Value → Option Value → Pt → Prop} {PostX : Pt → Array Value → Addr → Pt → Prop} (hK : vx_Back l R p e below s args y 3 W9 Pre Post PostX)
    {b : Addr} {cellB : Cell} (hcell : T.heap[b]? = some cellB) (hobj : cellB.vm.isStatics = false) (hcls : s.vm.findClass C = some cellB.cls)
    {g : JFrame} (hg : g.method = m) (hsize : g.locals.size = c.maxLocals) {argsL rest : List Value} (hlen : ∀ sig, parseMethodDescriptor y.desc = some sig → argsL.length = sig.parameters.length)
    (hstack : g.stack = argsL.reverse ++ .ref b :: rest) (hW : 2 * g.monitorRoom + (rest.map fun v => v.category).sum ≤ W9) (hdg : decode c.code g.pc = .ok (.invokevirtual index, 3))
    (hpre : ∀ vm₁, s.WarmedH vm₁ → Pre ⟨T.setVm vm₁, locs, cells, slots⟩ (Value.ref b :: argsL).toArray) :
    (∃ (v : Option Value) (vm₁ : Vm) (B : Pt), s.WarmedH vm₁ ∧ Stand p l e R s m args below meth c B.U B.locs B.cells B.slots ∧ Post ⟨T.setVm vm₁, locs, cells, slots⟩ (Value.ref b :: argsL).toArray v B ∧
      ∀ target, Steps p.tables e below (B.U.setTop { g with pc := g.pc + 3, stack := v.toList ++ rest }) target → Steps p.tables e below (T.setTop g) target) ∨
    (∃ (q : Addr) (vm₁ : Vm) (B : Pt), s.WarmedH vm₁ ∧ Stand p l e R s m args below meth c B.U B.locs B.cells B.slots ∧ PostX ⟨T.setVm vm₁, locs, cells, slots⟩ (Value.ref b :: argsL).toArray q B ∧
      Steps p.tables e below (T.setTop g) ((B.U.setTop { g with stack := rest }).pushFrame (.throwing q))) := by
  obtain ⟨mk, methM, hnamed, hmethM, hstM, habM⟩ := Cond.instanceMethod_spec hinst
  obtain ⟨methM', cM, hmethM', -, -, -, -, -, -, hsigM⟩ := Cond.code_spec hnamed hcode
  cases hmethM.symm.trans hmethM'
  obtain ⟨c2, r2, m2, q1, q2, q3, q4, kP, hkP, hkPi⟩ := Cond.selects_spec hsel
  cases hcls.symm.trans q1
  cases (State.methodFound?_of_named hnamed hy).symm.trans q2
  cases hnamed.symm.trans q3
  have hselP : selectMethod e.platform s.vm cellB.cls mk = .method mk := by rw [Launch.admits_selectMethod X.admits]; exact q4
  obtain ⟨vm₁, X₁, hstep₁⟩ := X.invokevirtual hexec hown hlink hnamed hmethM hstM hkP hkPi hy (a := b) (cell := cellB) hcell
    (fun z h => by rw [h] at hobj; cases hobj) hselP hmethM habM hkP hkPi (g := g) hg (argsL := argsL) (rest := rest) (hlen _ hsigM) hstack hdg
  rcases hK m meth c ⟨T.setVm vm₁, locs, cells, slots⟩ { g with stack := rest } (.invokevirtual index) mk (Value.ref b :: argsL).toArray X₁ hg hsize hdg hW (X₁.named hnamed) (hpre vm₁ X₁.warmed) with ⟨v, B, X', hpost, hsteps⟩ | ⟨q, B, X', hpost, hsteps⟩
  · exact Or.inl ⟨v, vm₁, B, X₁.warmed, X', hpost, fun target h => hstep₁ _ fun acts => by rw [doInvoke_state]; exact hsteps.trans h⟩
  · exact Or.inr ⟨q, vm₁, B, X₁.warmed, X', hpost, hstep₁ _ fun acts => by rw [doInvoke_state]; exact hsteps⟩
theorem vx_callS (X : Stand p l e R s m args below meth c T locs cells slots) (hexec : p.tables.exec = Jvm.exec) {own : String} {index : Nat} {y : MethodName} {bytes : ByteArray} {maxL : Nat} {ret : Option FieldType}
    (hown : s.vm.findClass own = some m.cls) (hlink : (Cond.methodLink own index y).before args s = true) (hstat : (Cond.static y).before args s = true) (hinit : (Cond.initialized y.cls).before args s = true)
    (hcode : (Cond.code y bytes maxL ret).before args s = true) (hy : y.cls ≠ "java/lang/invoke/MethodHandle" ∧ y.cls ≠ "java/lang/invoke/VarHandle")
    {W9 : Nat} {Pre : Pt → Array Value → Prop} {Post : Pt → Array Value → Option Value → Pt → Prop} {PostX : Pt → Array Value → Addr → Pt → Prop} (hK : vx_Back l R p e below s args y 3 W9 Pre Post PostX)
    {g : JFrame} (hg : g.method = m) (hsize : g.locals.size = c.maxLocals) {argsL rest : List Value} (hlen : ∀ sig, parseMethodDescriptor y.desc = some sig → argsL.length = sig.parameters.length)
    (hstack : g.stack = argsL.reverse ++ rest) (hW : 2 * g.monitorRoom + (rest.map fun v => v.category).sum ≤ W9) (hdg : decode c.code g.pc = .ok (.invokestatic index, 3))
    (hpre : ∀ vm₁, s.WarmedH vm₁ → Pre ⟨T.setVm vm₁, locs, cells, slots⟩ argsL.toArray) :
    (∃ (v : Option Value) (vm₁ : Vm) (B : Pt), s.WarmedH vm₁ ∧ Stand p l e R s m args below meth c B.U B.locs B.cells B.slots ∧ Post ⟨T.setVm vm₁, locs, cells, slots⟩ argsL.toArray v B ∧
      ∀ target, Steps p.tables e below (B.U.setTop { g with pc := g.pc + 3, stack := v.toList ++ rest }) target → Steps p.tables e below (T.setTop g) target) ∨
    (∃ (q : Addr) (vm₁ : Vm) (B : Pt), s.WarmedH vm₁ ∧ Stand p l e R s m args below meth c B.U B.locs B.cells B.slots ∧ PostX ⟨T.setVm vm₁, locs, cells, slots⟩ argsL.toArray q B ∧
      Steps p.tables e below (T.setTop g) ((B.U.setTop { g with stack := rest }).pushFrame (.throwing q))) := by
  obtain ⟨mk, hnamed⟩ := Cond.code_named hcode
  obtain ⟨methM, cM, hmethM, -, -, -, -, -, -, hsigM⟩ := Cond.code_spec hnamed hcode
  have hstatic : methM.isStatic = true := Cond.static_spec hnamed hmethM hstat
  obtain ⟨kP, hkP, -⟩ := className_of_methodNamed hnamed
  have hinitP : kP.init = .initialized := Cond.initialized_spec (findClass_of_methodNamed hnamed) hkP hinit
  obtain ⟨vm₁, X₁, hstep₁⟩ := X.invokestatic hexec hown hlink hnamed hmethM hstatic hkP hinitP hy (g := g) hg (argsL := argsL) (rest := rest) (hlen _ hsigM) hstack hdg
  rcases hK m meth c ⟨T.setVm vm₁, locs, cells, slots⟩ { g with stack := rest } (.invokestatic index) mk argsL.toArray X₁ hg hsize hdg hW (X₁.named hnamed) (hpre vm₁ X₁.warmed) with ⟨v, B, X', hpost, hsteps⟩ | ⟨q, B, X', hpost, hsteps⟩
  · exact Or.inl ⟨v, vm₁, B, X₁.warmed, X', hpost, fun target h => hstep₁ _ fun acts => by rw [doInvoke_state]; exact hsteps.trans h⟩
  · exact Or.inr ⟨q, vm₁, B, X₁.warmed, X', hpost, hstep₁ _ fun acts => by rw [doInvoke_state]; exact hsteps⟩
end Calls
theorem vx_cls {s : State} {T : State} {vm₁ : Vm} {E : String} {k : ClassId} (hW : s.WarmedH vm₁) (h : (T.setVm vm₁).vm.findClass E = some k) : s.vm.findClass E = some k := by
  have h1 : vm₁.findClass E = some k := h
  rw [hW.alike.findClass] at h1
  exact h1
/-- the method's frame g, with q thrown over it -/
def vx_W (p : Program) (l : Launch) (e : Env) (R : Room) (s : State) (m : MethodId) (args : Array Value) (below : List Frame) (meth : Method) (c : Code) (H : Heap) (locs : List Loc) (cells slots : Nat) (Q : State → Prop) (g : JFrame) (q : Addr) : Prop :=
  ∀ T : State, T.heap = H → Stand p l e R s m args below meth c T locs cells slots → ∃ t, Steps p.tables e below ((T.setTop g).pushFrame (.throwing q)) t ∧ Q t
def vx_Run (p : Program) (l : Launch) (e : Env) (R : Room) (s : State) (m : MethodId) (args : Array Value) (below : List Frame) (meth : Method) (c : Code) (H : Heap) (locs : List Loc) (cells slots mc ms : Nat) (g : JFrame) (rest : List Value) (Qa : State → Outcome → State → Prop) (XC : String → State → State → Prop) (free : Addr → Prop) : Prop :=
  ∀ T : State, T.heap = H → Stand p l e R s m args below meth c T locs cells slots →
    (∃ (v : Option Value) (st₀ t T' : State) (L : List Loc), st₀.heap = H ∧ Stand p l e R s m args below meth c T' (locs ++ L) (cells + mc) (slots + ms) ∧ (∀ q ∈ L, free q.base) ∧ T'.heap = t.heap ∧ T'.vm = t.vm ∧ Qa st₀ (.returned v) t ∧
      Goes p e below T g T' { g with pc := g.pc + 3, stack := v.toList ++ rest }) ∨
    (∃ (q : Addr) (st₀ t T' : State) (L : List Loc) (E : String) (ce : Cell), st₀.heap = H ∧ Stand p l e R s m args below meth c T' (locs ++ L) (cells + mc) (slots + ms) ∧ (∀ z ∈ L, free z.base) ∧ T'.heap = t.heap ∧ T'.vm = t.vm ∧ XC E st₀ t ∧ t.heap[q]? = some ce ∧ ce.vm = .none ∧ s.vm.findClass E = some ce.cls ∧
      Steps p.tables e below (T.setTop g) ((T'.setTop { g with stack := rest }).pushFrame (.throwing q)))
def vx_X {S : Type} (px : S → Prop) (B : String → S → State → Prop) (A : Nat → Prop) : String → State → State → Prop := fun E st t => ∃ u : S, px u ∧ B E u t ∧ va_F A st t
section Runs
variable {p : Program} {l : Launch} {e : Env} {R : Room} {s : State} {m : MethodId} {args : Array Value} {below : List Frame} {meth : Method} {c : Code} {H : Heap} {locs : List Loc} {cells slots : Nat}
variable {y : MethodName} {bytes cc : ByteArray} {maxL nL mc ms n index : Nat} {ret : Option FieldType} {ws : List Cond} {rm : Room} {Pc : Array Value → State → Prop} {Qc : Array Value → State → Outcome → State → Prop} {XC : String → State → State → Prop} {free : Addr → Prop} {Ts : List Cond} {own C : String} {b : Addr} {As rest : List Value} {g : JFrame}
theorem vx_callBack (cb : CallB R s args own index y bytes maxL ret ws rm mc ms n) (hM : vx_Met l y ws rm Pc Qc XC mc ms free) (hbl : FrameBlind Pc) : vx_Back l R p e below s args y 3 8 (PreOf R mc ms Pc) (PostOf Qc mc ms free) (vx_Post XC mc ms free) := by
  obtain ⟨hrc, hrs, hfr, hlo, hws, hcw, -, hini, -⟩ := cb
  exact vx_back (bytes := bytes) (maxL := maxL) (ret := ret) hM hbl hrc hrs hfr hlo hws hcw (fun a' U hW => word_at hW (Or.inl (by first | rfl | simp [Cond.onTables, Cond.keeps, Cond.steady])) hini)
theorem vx_runV (S : CallFix p m c cc nL s args Ts own) (hM : vx_Met l y ws rm Pc Qc XC mc ms free) (cw : CallW R s args own C index y bytes maxL ret ws rm mc ms n) (hp : PreV s H C b Pc As)
    (hg : g.method = m) (hn : As.length = n) (hsize : g.locals.size = nL) (hstack : g.stack = As.reverse ++ .ref b :: rest) (hW : 2 * g.monitorRoom + (rest.map fun v => v.category).sum ≤ 8) (hdg : decode cc g.pc = .ok (.invokevirtual index, 3)) (hf : cells + mc ≤ R.cells ∧ slots + ms ≤ R.slots) :
    vx_Run p l e R s m args below meth c H locs cells slots mc ms g rest (Qc (Value.ref b :: As).toArray) XC free := by
  have hK : vx_Back l R p e below s args y 3 8 (PreOf R mc ms Pc) (PostOf Qc mc ms free) (vx_Post XC mc ms free) := vx_callBack cw.1 hM hp.1
  obtain ⟨⟨-, -, -, -, -, -, hcode, -, hy, hlen, hl⟩, hin, hse⟩ := cw
  obtain ⟨hx, hb, hml, ho, -⟩ := S
  obtain ⟨-, ⟨cellB, hcB, hoB, hclB⟩, hPc⟩ := hp
  intro T hT X
  rcases vx_callV X hx (C := C) (bytes := bytes) (maxL := maxL) (ret := ret) ho hl hin hse hcode hy hK (by rw [hT]; exact hcB) hoB hclB hg (hsize.trans hml.symm) (argsL := As) (rest := rest) (fun sig h => hn.trans (hlen sig h)) hstack hW (by rw [hb]; exact hdg)
    (fun vm₁ hW₁ => ⟨hf.1, hf.2, hPc (T.setVm vm₁) hT hW₁⟩) with ⟨v, vm₁, ⟨U', l2, c2, s2⟩, hW₁, X', ⟨g', mk, t, L, e1, e2, hq, h1, hL, h2, h3⟩, st⟩ | ⟨q, vm₁, ⟨U', l2, c2, s2⟩, hW₁, X', ⟨g', mk, t, L, E, ce, e1, e2, hq, hce, hcv, hcl, h1, hL, h2, h3⟩, st⟩
  · dsimp only [Pt.U, Pt.locs, Pt.cells, Pt.slots] at X' e1 e2 h1 h2 h3 st
    subst h1; subst h2; subst h3
    exact Or.inl ⟨v, (T.setVm vm₁).calling g' mk (Value.ref b :: As).toArray, t, U', L, hT, X', hL, e1, e2, hq, st⟩
  · dsimp only [Pt.U, Pt.locs, Pt.cells, Pt.slots] at X' e1 e2 h1 h2 h3 st hcl
    subst h1; subst h2; subst h3
    exact Or.inr ⟨q, (T.setVm vm₁).calling g' mk (Value.ref b :: As).toArray, t, U', L, E, ce, hT, X', hL, e1, e2, hq, hce, hcv, vx_cls hW₁ hcl, st⟩
theorem vx_runS (S : CallFix p m c cc nL s args Ts own) (hM : vx_Met l y ws rm Pc Qc XC mc ms free) (cw : CallB R s args own index y bytes maxL ret ws rm mc ms n ∧ (Cond.static y).before args s = true) (hp : PreS s H Pc As)
    (hg : g.method = m) (hn : As.length = n) (hsize : g.locals.size = nL) (hstack : g.stack = As.reverse ++ rest) (hW : 2 * g.monitorRoom + (rest.map fun v => v.category).sum ≤ 8) (hdg : decode cc g.pc = .ok (.invokestatic index, 3)) (hf : cells + mc ≤ R.cells ∧ slots + ms ≤ R.slots) :
    vx_Run p l e R s m args below meth c H locs cells slots mc ms g rest (Qc As.toArray) XC free := by
  have hK : vx_Back l R p e below s args y 3 8 (PreOf R mc ms Pc) (PostOf Qc mc ms free) (vx_Post XC mc ms free) := vx_callBack cw.1 hM hp.1
  obtain ⟨⟨-, -, -, -, -, -, hcode, hini, hy, hlen, hl⟩, hstt⟩ := cw
  obtain ⟨hx, hb, hml, ho, -⟩ := S
  intro T hT X
  rcases vx_callS X hx (bytes := bytes) (maxL := maxL) (ret := ret) ho hl hstt hini hcode hy hK hg (hsize.trans hml.symm) (argsL := As) (rest := rest) (fun sig h => hn.trans (hlen sig h)) hstack hW (by rw [hb]; exact hdg)
    (fun vm₁ hW₁ => ⟨hf.1, hf.2, hp.2 (T.setVm vm₁) hT hW₁⟩) with ⟨v, vm₁, ⟨U', l2, c2, s2⟩, hW₁, X', ⟨g', mk, t, L, e1, e2, hq, h1, hL, h2, h3⟩, st⟩ | ⟨q, vm₁, ⟨U', l2, c2, s2⟩, hW₁, X', ⟨g', mk, t, L, E, ce, e1, e2, hq, hce, hcv, hcl, h1, hL, h2, h3⟩, st⟩
  · dsimp only [Pt.U, Pt.locs, Pt.cells, Pt.slots] at X' e1 e2 h1 h2 h3 st
    subst h1; subst h2; subst h3
    exact Or.inl ⟨v, (T.setVm vm₁).calling g' mk As.toArray, t, U', L, hT, X', hL, e1, e2, hq, st⟩
  · dsimp only [Pt.U, Pt.locs, Pt.cells, Pt.slots] at X' e1 e2 h1 h2 h3 st hcl
    subst h1; subst h2; subst h3
    exact Or.inr ⟨q, (T.setVm vm₁).calling g' mk As.toArray, t, U', L, E, ce, hT, X', hL, e1, e2, hq, hce, hcv, vx_cls hW₁ hcl, st⟩
end Runs
section Rows
variable {p : Program} {l : Launch} {e : Env} {R : Room} {s : State} {m : MethodId} {args : Array Value} {below : List Frame} {meth : Method} {c : Code} {H : Heap} {locs : List Loc} {cells slots : Nat} {Q : State → Prop}
variable {mc ms : Nat} {free : Addr → Prop} {A0 A1 : Nat → Prop} {H0 : Heap} {a : Array Value} {pc : Nat} {ls : Array Slot} {st0 rest : List Value}
theorem vx_keep {st₀ t T' : State} {L : List Loc} (h0 : st₀.heap = H) (e1 : T'.heap = t.heap) (hS : va_S A0 H0 H locs) (hA : ∀ q, q < H.size → A1 q → A0 q) (hf : ∀ q, free q → A0 q) (hL : ∀ q ∈ L, free q.base) (hF : va_F A1 st₀ t) :
    H.size ≤ T'.heap.size ∧ (∀ q : Nat, q < H.size → ¬ A1 q → T'.heap[q]? = H[q]?) ∧ va_S A0 H0 T'.heap (locs ++ L) := by
  obtain ⟨hz, hk⟩ := hF
  rw [h0] at hz hk
  exact ⟨by rw [e1]; exact hz, fun q h1 h2 => by rw [e1]; exact hk q h1 h2,
    ⟨Nat.le_trans hS.1 (by rw [e1]; exact hz), fun q h1 h2 => by rw [e1, hk q (Nat.lt_of_lt_of_le h1 hS.1) (fun z => h2 (hA q (Nat.lt_of_lt_of_le h1 hS.1) z))]; exact hS.2.1 q h1 h2, fun q hq => by
      rcases List.mem_append.mp hq with h | h
      · exact hS.2.2 q h
      · exact hf _ (hL q h)⟩⟩
theorem vx_calli {S SX : Type} {post : Int32 → S → Prop} {px : SX → Prop} {B : S → State → Prop} {BX : String → SX → State → Prop} {AX : Nat → Prop} (hr : vx_Run p l e R s m args below meth c H locs cells slots mc ms (F0 m pc ls st0) rest (va_Qi post B A1 a) (vx_X px BX AX) free) (hS : va_S A0 H0 H locs) (hA : ∀ q, q < H.size → A1 q → A0 q) (hf : ∀ q, free q → A0 q) (hAX : ∀ q, q < H.size → AX q → A0 q)
    (kx : ∀ (E : String) (ce : Cell) (q9 : Addr) (u : SX) (t : State) (H1 : Heap) (locs1 : List Loc), t.heap = H1 → s.vm.Alike t.vm → px u → BX E u t → H.size ≤ H1.size → (∀ q : Nat, q < H.size → ¬ AX q → H1[q]? = H[q]?) → va_S A0 H0 H1 locs1 → H1[q9]? = some ce → ce.vm = .none → s.vm.findClass E = some ce.cls → vx_W p l e R s m args below meth c H1 locs1 (cells + mc) (slots + ms) Q (F0 m pc ls rest) q9)
    (kk : ∀ (r : Int32) (u : S) (t : State) (H1 : Heap) (locs1 : List Loc), t.heap = H1 → s.vm.Alike t.vm → post r u → B u t → H.size ≤ H1.size → (∀ q : Nat, q < H.size → ¬ A1 q → H1[q]? = H[q]?) → va_S A0 H0 H1 locs1 → W p l e R s m args below meth c H1 locs1 (cells + mc) (slots + ms) Q (F0 m (pc + 3) ls (.int r :: rest))) : W p l e R s m args below meth c H locs cells slots Q (F0 m pc ls st0) := by
  intro T hT X
  rcases hr T hT X with ⟨v, st₀, t, T', L, h0, X', hL, e1, e2, ⟨⟨r, u, hv, hp, hb⟩, hF⟩, st⟩ | ⟨q, st₀, t, T', L, E, ce, h0, X', hL, e1, e2, ⟨u, hp, hb, hF⟩, hce, hcv, hcl, st⟩
  · cases hv
    obtain ⟨k1, k2, k3⟩ := vx_keep h0 e1 hS hA hf hL hF
    obtain ⟨t2, a1, b1⟩ := kk r u t T'.heap (locs ++ L) e1.symm (by rw [← e2]; exact X'.warmed.alike) hp hb k1 k2 k3 T' rfl X'
    exact ⟨t2, st t2 a1, b1⟩
  · obtain ⟨k1, k2, k3⟩ := vx_keep h0 e1 hS hAX hf hL hF
    obtain ⟨t2, a1, b1⟩ := kx E ce q u t T'.heap (locs ++ L) e1.symm (by rw [← e2]; exact X'.warmed.alike) hp hb k1 k2 k3 (by rw [e1]; exact hce) hcv hcl T' rfl X'
    exact ⟨t2, st.trans a1, b1⟩
theorem vx_calll {S SX : Type} {post : Int64 → S → Prop} {px : SX → Prop} {B : S → State → Prop} {BX : String → SX → State → Prop} {AX : Nat → Prop} (hr : vx_Run p l e R s m args below meth c H locs cells slots mc ms (F0 m pc ls st0) rest (va_Ql post B A1 a) (vx_X px BX AX) free) (hS : va_S A0 H0 H locs) (hA : ∀ q, q < H.size → A1 q → A0 q) (hf : ∀ q, free q → A0 q) (hAX : ∀ q, q < H.size → AX q → A0 q)
    (kx : ∀ (E : String) (ce : Cell) (q9 : Addr) (u : SX) (t : State) (H1 : Heap) (locs1 : List Loc), t.heap = H1 → s.vm.Alike t.vm → px u → BX E u t → H.size ≤ H1.size → (∀ q : Nat, q < H.size → ¬ AX q → H1[q]? = H[q]?) → va_S A0 H0 H1 locs1 → H1[q9]? = some ce → ce.vm = .none → s.vm.findClass E = some ce.cls → vx_W p l e R s m args below meth c H1 locs1 (cells + mc) (slots + ms) Q (F0 m pc ls rest) q9)
    (kk : ∀ (r : Int64) (u : S) (t : State) (H1 : Heap) (locs1 : List Loc), t.heap = H1 → s.vm.Alike t.vm → post r u → B u t → H.size ≤ H1.size → (∀ q : Nat, q < H.size → ¬ A1 q → H1[q]? = H[q]?) → va_S A0 H0 H1 locs1 → W p l e R s m args below meth c H1 locs1 (cells + mc) (slots + ms) Q (F0 m (pc + 3) ls (.long r :: rest))) : W p l e R s m args below meth c H locs cells slots Q (F0 m pc ls st0) := by
  intro T hT X
  rcases hr T hT X with ⟨v, st₀, t, T', L, h0, X', hL, e1, e2, ⟨⟨r, u, hv, hp, hb⟩, hF⟩, st⟩ | ⟨q, st₀, t, T', L, E, ce, h0, X', hL, e1, e2, ⟨u, hp, hb, hF⟩, hce, hcv, hcl, st⟩
  · cases hv
    obtain ⟨k1, k2, k3⟩ := vx_keep h0 e1 hS hA hf hL hF
    obtain ⟨t2, a1, b1⟩ := kk r u t T'.heap (locs ++ L) e1.symm (by rw [← e2]; exact X'.warmed.alike) hp hb k1 k2 k3 T' rfl X'
    exact ⟨t2, st t2 a1, b1⟩
  · obtain ⟨k1, k2, k3⟩ := vx_keep h0 e1 hS hAX hf hL hF
    obtain ⟨t2, a1, b1⟩ := kx E ce q u t T'.heap (locs ++ L) e1.symm (by rw [← e2]; exact X'.warmed.alike) hp hb k1 k2 k3 (by rw [e1]; exact hce) hcv hcl T' rfl X'
    exact ⟨t2, st.trans a1, b1⟩
theorem vx_callf {S SX : Type} {post : UInt32 → S → Prop} {px : SX → Prop} {B : S → State → Prop} {BX : String → SX → State → Prop} {AX : Nat → Prop} (hr : vx_Run p l e R s m args below meth c H locs cells slots mc ms (F0 m pc ls st0) rest (va_Qf post B A1 a) (vx_X px BX AX) free) (hS : va_S A0 H0 H locs) (hA : ∀ q, q < H.size → A1 q → A0 q) (hf : ∀ q, free q → A0 q) (hAX : ∀ q, q < H.size → AX q → A0 q)
    (kx : ∀ (E : String) (ce : Cell) (q9 : Addr) (u : SX) (t : State) (H1 : Heap) (locs1 : List Loc), t.heap = H1 → s.vm.Alike t.vm → px u → BX E u t → H.size ≤ H1.size → (∀ q : Nat, q < H.size → ¬ AX q → H1[q]? = H[q]?) → va_S A0 H0 H1 locs1 → H1[q9]? = some ce → ce.vm = .none → s.vm.findClass E = some ce.cls → vx_W p l e R s m args below meth c H1 locs1 (cells + mc) (slots + ms) Q (F0 m pc ls rest) q9)
    (kk : ∀ (r : UInt32) (u : S) (t : State) (H1 : Heap) (locs1 : List Loc), t.heap = H1 → s.vm.Alike t.vm → post r u → B u t → H.size ≤ H1.size → (∀ q : Nat, q < H.size → ¬ A1 q → H1[q]? = H[q]?) → va_S A0 H0 H1 locs1 → W p l e R s m args below meth c H1 locs1 (cells + mc) (slots + ms) Q (F0 m (pc + 3) ls (.float r :: rest))) : W p l e R s m args below meth c H locs cells slots Q (F0 m pc ls st0) := by
  intro T hT X
  rcases hr T hT X with ⟨v, st₀, t, T', L, h0, X', hL, e1, e2, ⟨⟨r, u, hv, hp, hb⟩, hF⟩, st⟩ | ⟨q, st₀, t, T', L, E, ce, h0, X', hL, e1, e2, ⟨u, hp, hb, hF⟩, hce, hcv, hcl, st⟩
  · cases hv
    obtain ⟨k1, k2, k3⟩ := vx_keep h0 e1 hS hA hf hL hF
    obtain ⟨t2, a1, b1⟩ := kk r u t T'.heap (locs ++ L) e1.symm (by rw [← e2]; exact X'.warmed.alike) hp hb k1 k2 k3 T' rfl X'
    exact ⟨t2, st t2 a1, b1⟩
  · obtain ⟨k1, k2, k3⟩ := vx_keep h0 e1 hS hAX hf hL hF
    obtain ⟨t2, a1, b1⟩ := kx E ce q u t T'.heap (locs ++ L) e1.symm (by rw [← e2]; exact X'.warmed.alike) hp hb k1 k2 k3 (by rw [e1]; exact hce) hcv hcl T' rfl X'
    exact ⟨t2, st.trans a1, b1⟩
theorem vx_calld {S SX : Type} {post : UInt64 → S → Prop} {px : SX → Prop} {B : S → State → Prop} {BX : String → SX → State → Prop} {AX : Nat → Prop} (hr : vx_Run p l e R s m args below meth c H locs cells slots mc ms (F0 m pc ls st0) rest (va_Qd post B A1 a) (vx_X px BX AX) free) (hS : va_S A0 H0 H locs) (hA : ∀ q, q < H.size → A1 q → A0 q) (hf : ∀ q, free q → A0 q) (hAX : ∀ q, q < H.size → AX q → A0 q)
    (kx : ∀ (E : String) (ce : Cell) (q9 : Addr) (u : SX) (t : State) (H1 : Heap) (locs1 : List Loc), t.heap = H1 → s.vm.Alike t.vm → px u → BX E u t → H.size ≤ H1.size → (∀ q : Nat, q < H.size → ¬ AX q → H1[q]? = H[q]?) → va_S A0 H0 H1 locs1 → H1[q9]? = some ce → ce.vm = .none → s.vm.findClass E = some ce.cls → vx_W p l e R s m args below meth c H1 locs1 (cells + mc) (slots + ms) Q (F0 m pc ls rest) q9)
    (kk : ∀ (r : UInt64) (u : S) (t : State) (H1 : Heap) (locs1 : List Loc), t.heap = H1 → s.vm.Alike t.vm → post r u → B u t → H.size ≤ H1.size → (∀ q : Nat, q < H.size → ¬ A1 q → H1[q]? = H[q]?) → va_S A0 H0 H1 locs1 → W p l e R s m args below meth c H1 locs1 (cells + mc) (slots + ms) Q (F0 m (pc + 3) ls (.double r :: rest))) : W p l e R s m args below meth c H locs cells slots Q (F0 m pc ls st0) := by
  intro T hT X
  rcases hr T hT X with ⟨v, st₀, t, T', L, h0, X', hL, e1, e2, ⟨⟨r, u, hv, hp, hb⟩, hF⟩, st⟩ | ⟨q, st₀, t, T', L, E, ce, h0, X', hL, e1, e2, ⟨u, hp, hb, hF⟩, hce, hcv, hcl, st⟩
  · cases hv
    obtain ⟨k1, k2, k3⟩ := vx_keep h0 e1 hS hA hf hL hF
    obtain ⟨t2, a1, b1⟩ := kk r u t T'.heap (locs ++ L) e1.symm (by rw [← e2]; exact X'.warmed.alike) hp hb k1 k2 k3 T' rfl X'
    exact ⟨t2, st t2 a1, b1⟩
  · obtain ⟨k1, k2, k3⟩ := vx_keep h0 e1 hS hAX hf hL hF
    obtain ⟨t2, a1, b1⟩ := kx E ce q u t T'.heap (locs ++ L) e1.symm (by rw [← e2]; exact X'.warmed.alike) hp hb k1 k2 k3 (by rw [e1]; exact hce) hcv hcl T' rfl X'
    exact ⟨t2, st.trans a1, b1⟩
theorem vx_callv {S SX : Type} {post : S → Prop} {px : SX → Prop} {B : S → State → Prop} {BX : String → SX → State → Prop} {AX : Nat → Prop} (hr : vx_Run p l e R s m args below meth c H locs cells slots mc ms (F0 m pc ls st0) rest (va_Qv post B A1 a) (vx_X px BX AX) free) (hS : va_S A0 H0 H locs) (hA : ∀ q, q < H.size → A1 q → A0 q) (hf : ∀ q, free q → A0 q) (hAX : ∀ q, q < H.size → AX q → A0 q)
    (kx : ∀ (E : String) (ce : Cell) (q9 : Addr) (u : SX) (t : State) (H1 : Heap) (locs1 : List Loc), t.heap = H1 → s.vm.Alike t.vm → px u → BX E u t → H.size ≤ H1.size → (∀ q : Nat, q < H.size → ¬ AX q → H1[q]? = H[q]?) → va_S A0 H0 H1 locs1 → H1[q9]? = some ce → ce.vm = .none → s.vm.findClass E = some ce.cls → vx_W p l e R s m args below meth c H1 locs1 (cells + mc) (slots + ms) Q (F0 m pc ls rest) q9)
    (kk : ∀ (u : S) (t : State) (H1 : Heap) (locs1 : List Loc), t.heap = H1 → s.vm.Alike t.vm → post u → B u t → H.size ≤ H1.size → (∀ q : Nat, q < H.size → ¬ A1 q → H1[q]? = H[q]?) → va_S A0 H0 H1 locs1 → W p l e R s m args below meth c H1 locs1 (cells + mc) (slots + ms) Q (F0 m (pc + 3) ls (rest))) : W p l e R s m args below meth c H locs cells slots Q (F0 m pc ls st0) := by
  intro T hT X
  rcases hr T hT X with ⟨v, st₀, t, T', L, h0, X', hL, e1, e2, ⟨⟨u, hv, hp, hb⟩, hF⟩, st⟩ | ⟨q, st₀, t, T', L, E, ce, h0, X', hL, e1, e2, ⟨u, hp, hb, hF⟩, hce, hcv, hcl, st⟩
  · cases hv
    obtain ⟨k1, k2, k3⟩ := vx_keep h0 e1 hS hA hf hL hF
    obtain ⟨t2, a1, b1⟩ := kk u t T'.heap (locs ++ L) e1.symm (by rw [← e2]; exact X'.warmed.alike) hp hb k1 k2 k3 T' rfl X'
    exact ⟨t2, st t2 a1, b1⟩
  · obtain ⟨k1, k2, k3⟩ := vx_keep h0 e1 hS hAX hf hL hF
    obtain ⟨t2, a1, b1⟩ := kx E ce q u t T'.heap (locs ++ L) e1.symm (by rw [← e2]; exact X'.warmed.alike) hp hb k1 k2 k3 (by rw [e1]; exact hce) hcv hcl T' rfl X'
    exact ⟨t2, st.trans a1, b1⟩
/-- caught by the row x of this method's table; the rows ahead don't take it -/
theorem vx_catch {own name : String} {E : String} {ce : Cell} {q : Addr} (hown : s.vm.findClass own = some m.cls) (pre : List ExceptionTableEntry) (x : ExceptionTableEntry) (suf : List ExceptionTableEntry) (hsplit : c.exceptionTable.toList = pre ++ x :: suf)
    (hpass : ∀ z ∈ pre, covers z pc = false ∨ (z.catchType ≠ 0 ∧ ∃ nm : String, (Cond.classLink own z.catchType nm).before args s = true ∧ va_Nc E nm s)) (hx : covers x pc = true) (h0 : x.catchType ≠ 0)
    (hlink : (Cond.classLink own x.catchType name).before args s = true) (hcast : (Cond.castable E name).before args s = true) (hcell : H[q]? = some ce) (hv : ce.vm = .none) (hcl : s.vm.findClass E = some ce.cls)
    (kk : W p l e R s m args below meth c H locs cells slots Q (F0 m x.handlerPc ls [.ref q])) : vx_W p l e R s m args below meth c H locs cells slots Q (F0 m pc ls rest) q := by
  intro T hT X
  have hpl : e.platform.magicAccessors = ({} : Platform).magicAccessors := by rw [X.admits.platform]
  obtain ⟨c3, c4, hc3, hc4, hasg⟩ := Cond.castable_spec hcast
  cases Option.some.inj (hc3.symm.trans hcl)
  obtain ⟨c5, hc5, hcl5⟩ := Cond.classLink_spec hown hlink e.platform hpl
  cases Option.some.inj (hc4.symm.trans hc5)
  obtain ⟨vm', X', st⟩ := X.thenCaughtThrough q (g := F0 m pc ls rest) rfl (Steps.refl _) (by rw [hT]; exact hcell) (by rw [hv]; rfl) (by obtain ⟨k9, h9, -⟩ := Vm.findClass_spec hcl; exact ⟨k9, h9⟩) pre x suf hsplit
    (fun z hz => by
      rcases hpass z hz with h | ⟨hz0, nm, hl1, hn1⟩
      · exact Or.inl h
      · obtain ⟨c6, hc6, hcl6⟩ := Cond.classLink_spec hown hl1 e.platform hpl
        obtain ⟨a8, b8, h1, h2, h3⟩ := hn1
        cases Option.some.inj (h1.symm.trans hcl)
        cases Option.some.inj (h2.symm.trans hc6)
        exact Or.inr ⟨hz0, _, hcl6, h3⟩) hx (Or.inr ⟨h0, c4, hcl5, hasg⟩)
  obtain ⟨t, a1, b1⟩ := kk (T.setVm vm') hT X'
  exact ⟨t, st.trans a1, b1⟩
end Rows
section Ends
variable {p : Program} {l : Launch} {e : Env} {R : Room} {s : State} {m : MethodId} {args : Array Value} {below : List Frame} {meth : Method} {c : Code} {H : Heap} {locs : List Loc} {cells slots : Nat} {Q : State → Prop}
variable {mc ms : Nat} {free : Addr → Prop} {A0 A1 : Nat → Prop} {H0 : Heap} {a : Array Value} {ls : Array Slot} {st0 rest : List Value}
variable {Qc : Array Value → State → Outcome → State → Prop} {XC : String → State → State → Prop}
/-- what a body that may throw owes at its end -/
def vx_MQ (below : List Frame) (Qc : Array Value → State → Outcome → State → Prop) (XC : String → State → State → Prop) (a : Array Value) (s : State) (mc ms : Nat) (free : Addr → Prop) : State → Prop := fun t =>
  ∃ o, t.status = .running ∧ Ended t below o ∧ vx_Q Qc XC mc ms free a s o t
theorem vx_ret {g : JFrame} {mc ms : Nat} (k : W p l e R s m args below meth c H locs cells slots (MQ below Qc args s mc ms free) g) : W p l e R s m args below meth c H locs cells slots (vx_MQ below Qc XC args s mc ms free) g := by
  intro T hT X
  obtain ⟨t, a1, o, b1, b2, b3, b4⟩ := k T hT X
  exact ⟨t, a1, o, b1, b2, Or.inl ⟨b3, b4⟩⟩
/-- not caught here: it goes on to the caller -/
theorem vx_widen {g : JFrame} {q : Addr} {k n : Nat} (h1 : cells ≤ k) (h2 : slots ≤ n) (kk : vx_W p l e R s m args below meth c H locs k n Q g q) : vx_W p l e R s m args below meth c H locs cells slots Q g q := fun T hT X => kk T hT (stand_widen X h1 h2)
theorem vx_out {pc : Nat} {E : String} {ce : Cell} {q : Addr} {mc ms : Nat} (hout : ∀ x ∈ c.exceptionTable.toList, covers x pc = false) (hlocks : meth.locks = false) (hcell : H[q]? = some ce) (hv : ce.vm = .none) (hcl : s.vm.findClass E = some ce.cls)
    (hx : ∀ t : State, t.heap = H → s.vm.Alike t.vm → XC E s t) (hf : ∀ z ∈ locs, free z.base) (hc : cells ≤ mc) (hs : slots ≤ ms) :
    vx_W p l e R s m args below meth c H locs cells slots (vx_MQ below Qc XC args s mc ms free) (F0 m pc ls rest) q := by
  intro T hT X
  obtain ⟨st1, hrun, hend, hW, hsm⟩ := X.leaveThrown q (g := F0 m pc ls rest) rfl rfl rfl hout hlocks
  have hcell9 : (T.setFrames (.throwing q :: below)).heap[q]? = some ce := by
    show T.heap[q]? = some ce
    rw [hT]; exact hcell
  exact ⟨_, st1, .threw q, hrun, hend, Or.inr ⟨q, rfl, E, ce, locs, hx _ hT hW.alike, hcell9, hv, hcl, hW, hsm.mono hc hs, hf⟩⟩
theorem vx_frame {U : State} {k n : Nat} (h : s.sameButNew ({ U with vm := s.vm } : State) locs k n) : s.heap.size ≤ U.heap.size ∧ ∀ q : Nat, q < s.heap.size → (∀ z ∈ locs, z.base ≠ q) → U.heap[q]? = s.heap[q]? := by
  obtain ⟨-, h2, -, -, -, h6⟩ := h
  refine ⟨h2, fun q hq hz => ?_⟩
  obtain ⟨c9, e1, e2, e3, e4⟩ := h6 q _ (Array.getElem?_eq_getElem hq)
  have hs : c9.slots = (s.heap[q]).slots := Array.ext_getElem? fun i => e4 i fun hm => hz _ hm rfl
  have h9 : c9 = s.heap[q] := by
    rw [hs] at e2
    exact e2
  have e5 : U.heap[q]? = some c9 := e1
  rw [e5, h9, Array.getElem?_eq_getElem hq]
/-- the words of a throw but the four that speak of the heap -/
def vx_no (w : Cond) : Bool := decide (w ≠ .isRef (.static Bundle.tN "UNASSIGNED_STACK" Bundle.steD)) && decide (w ≠ .isRef (.static Bundle.tN "SUPPRESSED_SENTINEL" Bundle.listD)) && decide (w ≠ .laysStatic Bundle.tN "UNASSIGNED_STACK" Bundle.steD) && decide (w ≠ .laysStatic Bundle.tN "SUPPRESSED_SENTINEL" Bundle.listD)
def vx_at0 (own : String) (ic : Nat) (X : String) (names : List String) : List Cond := (Bundle.ownAtoms0 own ic X names).filter vx_no
def vx_atS (own : String) (ic : Nat) (X : String) (names : List String) : List Cond := (Bundle.ownAtoms own ic X names).filter vx_no
/-- a word that the tables alone decide, or a good one -/
def vx_ot (w : Cond) : Bool := w.onTables || goodWord w
theorem vx_ot_at {args a' : Array Value} {s U : State} {w : Cond} (hW : s.WarmedH U.vm) (hvm : s.vm = U.vm) (hg : vx_ot w = true) (h : w.before args s = true) : w.before a' U = true := by
  simp only [vx_ot, Bool.or_eq_true] at hg
  rcases hg with hg | hg
  · exact va_tabs hg hvm h
  · exact word_at hW (good_of_word hg) h
/-- a list's words: the good ones out of the method's own list, the others by premises of their own -/
theorem vx_hat {args : Array Value} {s : State} {L B : List Cond} (h1 : ∀ w ∈ L.filter goodWord, w.before args s = true) (h2 : ∀ w ∈ L.filter (fun w => !goodWord w), w ∈ B) (h3 : ∀ w ∈ B, w.before args s = true) : ∀ w ∈ L, w.before args s = true := by
  intro w hw
  by_cases g : goodWord w = true
  · exact h1 w (List.mem_filter.mpr ⟨hw, g⟩)
  · refine h3 w (h2 w (List.mem_filter.mpr ⟨hw, ?_⟩))
    show (!goodWord w) = true
    cases hgw : goodWord w
    · rfl
    · exact absurd hgw g
theorem vx_c {args : Array Value} {s : State} {w : Cond} {B : List Cond} (h : w.before args s = true) (t : ∀ w ∈ B, w.before args s = true) : ∀ w' ∈ w :: B, w'.before args s = true := fun w' h' => (List.mem_cons.mp h').elim (fun e => by rw [e]; exact h) (t w')
theorem vx_n {args : Array Value} {s : State} : ∀ w ∈ ([] : List Cond), w.before args s = true := fun _ h => nomatch h
theorem vx_own {args : Array Value} {s : State} {L : List Cond} (h1 : ∀ w ∈ L.filter vx_no, w.before args s = true)
    (hU : (Cond.isRef (.static Bundle.tN "UNASSIGNED_STACK" Bundle.steD)).before args s = true) (hN : (Cond.isRef (.static Bundle.tN "SUPPRESSED_SENTINEL" Bundle.listD)).before args s = true)
    (lU : (Cond.laysStatic Bundle.tN "UNASSIGNED_STACK" Bundle.steD).before args s = true) (lN : (Cond.laysStatic Bundle.tN "SUPPRESSED_SENTINEL" Bundle.listD).before args s = true) : ∀ w ∈ L, w.before args s = true := by
  intro w hw
  by_cases e1 : w = .isRef (.static Bundle.tN "UNASSIGNED_STACK" Bundle.steD)
  · rw [e1]; exact hU
  · by_cases e2 : w = .isRef (.static Bundle.tN "SUPPRESSED_SENTINEL" Bundle.listD)
    · rw [e2]; exact hN
    · by_cases e3 : w = .laysStatic Bundle.tN "UNASSIGNED_STACK" Bundle.steD
      · rw [e3]; exact lU
      · by_cases e4 : w = .laysStatic Bundle.tN "SUPPRESSED_SENTINEL" Bundle.listD
        · rw [e4]; exact lN
        · exact h1 w (List.mem_filter.mpr ⟨hw, by unfold vx_no; rw [decide_eq_true e1, decide_eq_true e2, decide_eq_true e3, decide_eq_true e4]; rfl⟩)
/-- where a static field lies, its class's statics cell in H -/
def vx_L (C n d : String) (A : Nat → Prop) (U : State) (H : Heap) : Prop := ∃ (c : ClassId) (k : Class) (i : Nat) (f : Field) (a : Nat) (cell : Cell), U.vm.findClass C = some c ∧ U.fieldFound? C n d = some (c, k, i, f) ∧ f.isStatic = true ∧ k.statics = some a ∧ H[a]? = some cell ∧ cell.vm.isStatics = true ∧ cell.cls = c ∧ f.slot < cell.slots.size ∧ k.staticTypes[f.slot]? = some f.type ∧ ¬ A a
theorem vx_L.moved {C n d : String} {A : Nat → Prop} {u U : State} {H : Heap} (hvm : u.vm.Alike U.vm) (h : vx_L C n d A u H) : vx_L C n d A U H := by
  obtain ⟨c, k, i, f, a, cell, h1, h2, h3, h4, h5, h6, h7, h8, h9, h10⟩ := h
  obtain ⟨k', hi', he⟩ := State.fieldFound?_setVm hvm h2
  exact ⟨c, k', i, f, a, cell, by rw [hvm.findClass]; exact h1, hi', h3, by rw [he]; exact h4, h5, h6, h7, h8, by rw [he]; exact h9, h10⟩
theorem vx_L.kept {C n d : String} {A : Nat → Prop} {U : State} {H H1 : Heap} (h : vx_L C n d A U H) (hq : ∀ a : Nat, a < H.size → ¬ A a → H1[a]? = H[a]?) : vx_L C n d A U H1 := by
  obtain ⟨c, k, i, f, a, cell, h1, h2, h3, h4, h5, h6, h7, h8, h9, h10⟩ := h
  exact ⟨c, k, i, f, a, cell, h1, h2, h3, h4, by rw [hq a (Array.getElem?_eq_some_iff.mp h5).1 h10]; exact h5, h6, h7, h8, h9, h10⟩
theorem vx_L.narrow {C n d : String} {A B : Nat → Prop} {U : State} {H : Heap} (h : vx_L C n d A U H) (hAB : ∀ q, B q → A q) : vx_L C n d B U H := by
  obtain ⟨c, k, i, f, a, cell, h1, h2, h3, h4, h5, h6, h7, h8, h9, h10⟩ := h
  exact ⟨c, k, i, f, a, cell, h1, h2, h3, h4, h5, h6, h7, h8, h9, fun z => h10 (hAB _ z)⟩
theorem vx_L.word {C n d : String} {A : Nat → Prop} {s : State} {args : Array Value} (h : vx_L C n d A s s.heap) : (Cond.laysStatic C n d).before args s = true := by
  obtain ⟨c, k, i, f, a, cell, h1, h2, h3, h4, h5, h6, h7, h8, h9, -⟩ := h
  show (Cond.laysStatic C n d).holds args s none s [] = true
  exact Cond.laysStatic_of h1 h2 h3 h4 h5 h6 h7 h8 h9
/-- .. and what it holds: null or some reference -/
def vx_Zq (C n d : String) (A : Nat → Prop) (U : State) (H : Heap) : Prop := va_Zq C n d A U H ∧ vx_L C n d A U H
theorem vx_Zq.moved {C n d : String} {A : Nat → Prop} {u U : State} {H : Heap} (hvm : u.vm.Alike U.vm) (h : vx_Zq C n d A u H) : vx_Zq C n d A U H := ⟨va_Zq.moved hvm h.1, vx_L.moved hvm h.2⟩
theorem vx_Zq.kept {C n d : String} {A : Nat → Prop} {U : State} {H H1 : Heap} (h : vx_Zq C n d A U H) (hq : ∀ a : Nat, a < H.size → ¬ A a → H1[a]? = H[a]?) : vx_Zq C n d A U H1 := ⟨va_Zq.kept h.1 hq, vx_L.kept h.2 hq⟩
theorem vx_Zq.narrow {C n d : String} {A B : Nat → Prop} {U : State} {H : Heap} (h : vx_Zq C n d A U H) (hAB : ∀ q, B q → A q) : vx_Zq C n d B U H := ⟨va_Zq.narrow h.1 hAB, vx_L.narrow h.2 hAB⟩
theorem vx_Zqof {args : Array Value} {s : State} {C n d : String} {A : Nat → Prop} (hl : (Cond.laysStatic C n d).before args s = true) (hini : (Cond.initialized C).before args s = true) (h : (Cond.isRef (.static C n d)).before args s = true) (hA : ∀ a : Nat, a < s.heap.size → ¬ A a) : vx_Zq C n d A s s.heap := by
  refine ⟨va_Zqof hl hini h hA, ?_⟩
  obtain ⟨c, k, i, f, a, cell, h1, h2, h3, h4, h5, h6, h7, h8, h9⟩ := Cond.laysStatic_spec hl
  exact ⟨c, k, i, f, a, cell, h1, h2, h3, h4, h5, h6, h7, h8, h9, hA a (Array.getElem?_eq_some_iff.mp h5).1⟩
theorem vx_isRef {C n d : String} {v : Value} {A : Nat → Prop} {s : State} {args : Array Value} (h : va_Z C n d v A s s.heap) (hv : v.isRef = true) : (Cond.isRef (.static C n d)).before args s = true := by
  obtain ⟨cf, kf, fi, f, a, cell, h1, h2, h3, h4, h5, h6, h7, -⟩ := h
  have he : (Term.static C n d).eval args s none [] s = some v := by
    simp [Term.eval, State.fieldNamed?, h1, h2, h4, h5, h6, h7]
  simp only [Cond.before, Cond.holds, Cond.value, he]
  cases v <;> simp_all [Value.isRef]
theorem vx_isRefq {C n d : String} {A : Nat → Prop} {s : State} {args : Array Value} (h : va_Zq C n d A s s.heap) : (Cond.isRef (.static C n d)).before args s = true := by
  rcases h with h | ⟨t, h⟩
  · exact vx_isRef h rfl
  · exact vx_isRef h rfl
/-- the same frame, seen from here: as if the method were called anew in this heap -/
theorem vx_rebase {T : State} (X : Stand p l e R s m args below meth c T locs cells slots) {R' : Room} (hf : R'.frames ≤ R.frames) (hl : R'.locals ≤ R.locals) (hc : cells + R'.cells ≤ R.cells) (hs : slots + R'.slots ≤ R.slots) :
    Stand p l e R' ((T.setVm s.vm).setFrames (.invoking m args :: below)) m args below meth c T [] 0 0 := by
  have htop : (T.setVm s.vm).topJava?.isSome := X.here.top
  have hF : ((T.setVm s.vm).setFrames (.invoking m args :: below)).frames = .invoking m args :: below := State.frames_setFrames _ (State.cur_lt_of_top htop)
  obtain ⟨g₀, hg0⟩ := Option.isSome_iff_exists.mp htop
  obtain ⟨r, hr⟩ := State.topJava?_eq_some.mp hg0
  have hl9 : e.platform.stackLimits (T.setVm s.vm).me = e.platform.stackLimits s.me := X.limits
  have hb9 : (T.setVm s.vm).me.stackBytes = s.me.stackBytes := X.bytes
  refine ⟨X.admits, X.cas, X.clock, hF, ?_, X.hears, X.method, X.code, X.here, X.tail, X.warmed, ?_, ?_, ?_⟩
  · have h := X.room
    have hU : ((T.setVm s.vm).setFrames (.invoking m args :: below)).localsInUse = s.localsInUse := by
      rw [State.localsInUse_invoking hF (meth := meth) (c := c) X.method X.code, State.localsInUse_invoking X.frames X.method X.code]
    simp only [State.hasRoom, Bool.and_eq_true, decide_eq_true_eq] at h ⊢
    obtain ⟨⟨⟨⟨h1, h2, h3, h4, h5, h6⟩, h7⟩, h8⟩, h9⟩ := h
    rw [X.frames, List.length_cons] at h2 h3
    have q1 := X.heapSize
    have q2 := X.used
    simp only [hF, hU, List.length_cons, State.stackLimits_setFrames, State.stackBytes_setFrames, hl9, hb9]
    refine ⟨⟨⟨⟨by omega, by omega, by omega, by omega, by omega, h6⟩, ?_⟩, ?_⟩, X.book⟩
    · show T.heap.size + R'.cells ≤ e.platform.maxCells
      omega
    · show T.slotsUsed + R'.slots ≤ e.platform.maxSlots
      omega
  · rw [State.stackLimits_setFrames]; rfl
  · rw [State.stackBytes_setFrames]; rfl
  · refine ⟨?_, Nat.le_refl _, Nat.le_refl _, ?_, ?_, fun a c9 h9 => ⟨c9, h9, rfl, rfl, fun _ _ => rfl⟩⟩
    · obtain ⟨t, ht, -⟩ := State.frames_cons hr
      show T.setVm s.vm = { ((T.setVm s.vm).setFrames (.invoking m args :: below)).setFrames (T.setVm s.vm).frames with heap := T.heap, slotsUsed := T.slotsUsed }
      rw [State.setFrames_setFrames, State.setFrames_self ht]
      rfl
    · show T.slotsUsed = T.slotsUsed + ((T.heap.toList.drop T.heap.size).map (·.slots.size)).sum
      rw [List.drop_eq_nil_of_le (Nat.le_of_eq Array.length_toList)]
      rfl
    · show ((T.heap.toList.drop T.heap.size).map (·.slots.size)).sum ≤ 0
      rw [List.drop_eq_nil_of_le (Nat.le_of_eq Array.length_toList)]
      exact Nat.le_refl _
/-- 'throw new E()': new; dup; invokespecial; athrow -/
theorem vx_throw0 {cc : ByteArray} {pc : Nat} (hexec : p.tables.exec = Jvm.exec) (hb : c.code = cc) (hl : l.stackTraces = false) {own cls : String} {names : List String} {ik ic mc ms : Nat} {A : Nat → Prop}
    (hown : s.vm.findClass own = some m.cls) (hcls : Bundle.fit cls = true) (hnames : ∀ n ∈ names, Bundle.fit n = true)
    (hk : (Cond.classLink own ik cls).before args s = true) (hini : (Cond.initialized cls).before args s = true) (hat : ∀ w ∈ vx_at0 own ic cls names, w.before args s = true)
    (hgood : ∀ w ∈ Cond.classLink own ik cls :: Cond.initialized cls :: vx_at0 own ic cls names, vx_ot w = true)
    (hU : vx_Zq Bundle.tN "UNASSIGNED_STACK" Bundle.steD A s s.heap) (hN : vx_Zq Bundle.tN "SUPPRESSED_SENTINEL" Bundle.listD A s s.heap) (hS : va_S A s.heap H locs) (hsize : ls.size = c.maxLocals)
    (d0 : decode cc pc = .ok (.new ik, 3)) (d3 : decode cc (pc + 3) = .ok (.dup, 1)) (d4 : decode cc (pc + 4) = .ok (.invokespecial ic, 3)) (d7 : decode cc (pc + 7) = .ok (.athrow, 1))
    (hout : ∀ x ∈ c.exceptionTable.toList, covers x (pc + 7) = false)
    (hRframes : names.length + 3 < R.frames) (hRlocals : (rest.map fun v => v.category).sum + (13 * (names.length + 1) + 42) ≤ R.locals) (hRcells : cells + 1 ≤ R.cells) (hRslots : slots + 6 ≤ R.slots) (hlocks : meth.locks = false)
    (hx : ∀ t : State, s.vm.Alike t.vm → H.size ≤ t.heap.size → (∀ q : Nat, q < H.size → t.heap[q]? = H[q]?) → XC cls s t)
    (hf : ∀ z ∈ locs, free z.base) (hc : cells + 1 ≤ mc) (hs : slots + 6 ≤ ms) :
    W p l e R s m args below meth c H locs cells slots (vx_MQ below Qc XC args s mc ms free) (F0 m pc ls rest) := by
  intro T hT X
  have htr : e.platform.stackTraces = false := (show e.platform.stackTraces = l.stackTraces by rw [X.admits.platform]).trans hl
  have Y := vx_rebase X (R' := { frames := R.frames, locals := R.locals, cells := 1, slots := 6 }) (Nat.le_refl _) (Nat.le_refl _) hRcells hRslots
  obtain ⟨s', hA⟩ : ∃ z, z = (T.setVm s.vm).setFrames (.invoking m args :: below) := ⟨_, rfl⟩
  rw [← hA] at Y
  have hvm : s'.vm = s.vm := by rw [hA]; rfl
  have hhp : s'.heap = H := by rw [hA]; exact hT
  have hW0 : s.WarmedH s'.vm := by rw [hvm]; exact State.WarmedH.refl s
  have hat' : ∀ w ∈ vx_at0 own ic cls names, w.before args s' = true := fun w hw => vx_ot_at hW0 hvm.symm (hgood w (List.mem_cons_of_mem _ (List.mem_cons_of_mem _ hw))) (hat w hw)
  have hk' : (Cond.classLink own ik cls).before args s' = true := vx_ot_at hW0 hvm.symm (hgood _ List.mem_cons_self) hk
  have hini' : (Cond.initialized cls).before args s' = true := vx_ot_at hW0 hvm.symm (hgood _ (List.mem_cons_of_mem _ List.mem_cons_self)) hini
  have hU' : vx_Zq Bundle.tN "UNASSIGNED_STACK" Bundle.steD A s' s'.heap := by rw [hhp]; exact vx_Zq.moved hW0.alike (hU.kept hS.2.1)
  have hN' : vx_Zq Bundle.tN "SUPPRESSED_SENTINEL" Bundle.listD A s' s'.heap := by rw [hhp]; exact vx_Zq.moved hW0.alike (hN.kept hS.2.1)
  have h : ∀ w ∈ Bundle.ownAtoms0 own ic cls names, w.before args s' = true := vx_own hat' (vx_isRefq hU'.1) (vx_isRefq hN'.1) hU'.2.word hN'.2.word
  have hown' : s'.vm.findClass own = some m.cls := by rw [hvm]; exact hown
  have hins : (Cond.instantiable cls 6).before args s' = true := h _ (by simp [Bundle.ownAtoms0])
  obtain ⟨vm₁, cX, kX, hfX, hkX, -, -, X₁, st1⟩ := Y.newCold hexec (own := own) (C := cls) (index := ik) (n := 6) hown' hk' hins hini'
    (g := F0 m pc ls rest) rfl (by rw [hb]; exact d0) (Nat.le_refl _) (Nat.le_refl _)
  generalize hT1 : (T.setVm vm₁).pushCell { cls := cX, slots := kX.instanceTypes.map defaultValue, vm := .none } = T1 at X₁ st1
  have hcat : (Value.ref T.heap.size).category = 1 := rfl
  have hcellA : T1.heap[T.heap.size]? = some (freshCell cX kX) := by rw [← hT1]; exact State.heap_pushCell_size _ _
  have d3' : decode c.code (pc + 3) = .ok (.dup, 1) := by rw [hb]; exact d3
  obtain ⟨U, hsteps, hrun, hend, hW, hsame, ce, hce, hO⟩ := X₁.ctorThrow0 hexec htr (own := own) (cls := cls) (names := names) (ic := ic) hown' hcls hnames h (fun x hx => nomatch hx) hfX hkX hcellA (by rw [hhp, hT]; exact Nat.le_refl _)
    (g := { method := m, pc := pc + 4, locals := ls, stack := .ref T.heap.size :: .ref T.heap.size :: rest, locked := none }) rfl hsize rfl rfl (rest := rest) rfl
    (by rw [hb]; exact d4) (by rw [hb]; exact d7) hout hRframes (by simp only [List.map_cons, List.sum_cons, hcat]; omega) hlocks
  obtain ⟨f1, f2⟩ := vx_frame hsame
  rw [hhp] at f1 f2
  have hWs : s.WarmedH U.vm := State.WarmedH.trans hW0 hW
  have hcl : s.vm.findClass cls = some ce.cls := by
    have h9 := hO.cls
    rw [hvm] at h9
    exact h9
  have hall : s.sameButNew ({ U with vm := s.vm } : State) locs mc ms := by
    subst hA
    obtain ⟨e1, e2⟩ := hsame
    rw [State.setFrames_setFrames] at e1
    have h2 : (T.setVm s.vm).sameButNew ({ U with vm := s.vm } : State) [] (0 + 1) (0 + 6) := ⟨e1, e2⟩
    have h3 := X.same.trans h2
    rw [List.append_nil] at h3
    exact h3.mono hc hs
  refine ⟨U, ?_, .threw T.heap.size, hrun, hend, Or.inr ⟨T.heap.size, rfl, cls, ce, locs, hx U hWs.alike f1 (fun q hq => f2 q hq (fun z hz => nomatch hz)), hce, hO.vm, hcl, hWs, hall, hf⟩⟩
  refine st1 _ ?_
  show Steps p.tables e below (T1.setTop { method := m, pc := pc + 3, locals := ls, stack := .ref T.heap.size :: rest, locked := none }) _
  jvm_step X₁.here [X₁.here.top, hexec, d3', Value.category]
  exact hsteps
/-- 'throw new E("text")': new; dup; ldc; invokespecial; athrow -/
theorem vx_throwS {cc : ByteArray} {pc : Nat} (hexec : p.tables.exec = Jvm.exec) (hb : c.code = cc) (hl : l.stackTraces = false) {own cls text : String} {names : List String} {ik is ic mc ms sa : Nat} {A : Nat → Prop}
    (hown : s.vm.findClass own = some m.cls) (hcls : Bundle.fit cls = true) (hnames : ∀ n ∈ names, Bundle.fit n = true)
    (hk : (Cond.classLink own ik cls).before args s = true) (hini : (Cond.initialized cls).before args s = true) (hstr : vk_R own is text sa s) (hat : ∀ w ∈ vx_atS own ic cls names, w.before args s = true)
    (hgood : ∀ w ∈ Cond.classLink own ik cls :: Cond.initialized cls :: vx_atS own ic cls names, vx_ot w = true)
    (hU : vx_Zq Bundle.tN "UNASSIGNED_STACK" Bundle.steD A s s.heap) (hN : vx_Zq Bundle.tN "SUPPRESSED_SENTINEL" Bundle.listD A s s.heap) (hS : va_S A s.heap H locs) (hsize : ls.size = c.maxLocals)
    (d0 : decode cc pc = .ok (.new ik, 3)) (d3 : decode cc (pc + 3) = .ok (.dup, 1)) (d4 : decode cc (pc + 4) = .ok (.ldc is, 2)) (d6 : decode cc (pc + 6) = .ok (.invokespecial ic, 3)) (d9 : decode cc (pc + 9) = .ok (.athrow, 1))
    (hout : ∀ x ∈ c.exceptionTable.toList, covers x (pc + 9) = false)
    (hRframes : names.length + 3 < R.frames) (hRlocals : (rest.map fun v => v.category).sum + (13 * (names.length + 1) + 43) ≤ R.locals) (hRcells : cells + 1 ≤ R.cells) (hRslots : slots + 6 ≤ R.slots) (hlocks : meth.locks = false)
    (hx : ∀ t : State, s.vm.Alike t.vm → H.size ≤ t.heap.size → (∀ q : Nat, q < H.size → t.heap[q]? = H[q]?) → XC cls s t)
    (hf : ∀ z ∈ locs, free z.base) (hc : cells + 1 ≤ mc) (hs : slots + 6 ≤ ms) :
    W p l e R s m args below meth c H locs cells slots (vx_MQ below Qc XC args s mc ms free) (F0 m pc ls rest) := by
  intro T hT X
  have htr : e.platform.stackTraces = false := (show e.platform.stackTraces = l.stackTraces by rw [X.admits.platform]).trans hl
  have Y := vx_rebase X (R' := { frames := R.frames, locals := R.locals, cells := 1, slots := 6 }) (Nat.le_refl _) (Nat.le_refl _) hRcells hRslots
  obtain ⟨s', hA⟩ : ∃ z, z = (T.setVm s.vm).setFrames (.invoking m args :: below) := ⟨_, rfl⟩
  rw [← hA] at Y
  have hvm : s'.vm = s.vm := by rw [hA]; rfl
  have hhp : s'.heap = H := by rw [hA]; exact hT
  have hW0 : s.WarmedH s'.vm := by rw [hvm]; exact State.WarmedH.refl s
  have hat' : ∀ w ∈ vx_atS own ic cls names, w.before args s' = true := fun w hw => vx_ot_at hW0 hvm.symm (hgood w (List.mem_cons_of_mem _ (List.mem_cons_of_mem _ hw))) (hat w hw)
  have hk' : (Cond.classLink own ik cls).before args s' = true := vx_ot_at hW0 hvm.symm (hgood _ List.mem_cons_self) hk
  have hini' : (Cond.initialized cls).before args s' = true := vx_ot_at hW0 hvm.symm (hgood _ (List.mem_cons_of_mem _ List.mem_cons_self)) hini
  have hU' : vx_Zq Bundle.tN "UNASSIGNED_STACK" Bundle.steD A s' s'.heap := by rw [hhp]; exact vx_Zq.moved hW0.alike (hU.kept hS.2.1)
  have hN' : vx_Zq Bundle.tN "SUPPRESSED_SENTINEL" Bundle.listD A s' s'.heap := by rw [hhp]; exact vx_Zq.moved hW0.alike (hN.kept hS.2.1)
  have h : ∀ w ∈ Bundle.ownAtoms own ic cls names, w.before args s' = true := vx_own hat' (vx_isRefq hU'.1) (vx_isRefq hN'.1) hU'.2.word hN'.2.word
  have hown' : s'.vm.findClass own = some m.cls := by rw [hvm]; exact hown
  have hins : (Cond.instantiable cls 6).before args s' = true := h _ (by simp [Bundle.ownAtoms])
  obtain ⟨vm₁, cX, kX, hfX, hkX, -, -, X₁, st1⟩ := Y.newCold hexec (own := own) (C := cls) (index := ik) (n := 6) hown' hk' hins hini'
    (g := F0 m pc ls rest) rfl (by rw [hb]; exact d0) (Nat.le_refl _) (Nat.le_refl _)
  generalize hT1 : (T.setVm vm₁).pushCell { cls := cX, slots := kX.instanceTypes.map defaultValue, vm := .none } = T1 at X₁ st1
  have hcat : (Value.ref T.heap.size).category = 1 := rfl
  have hcellA : T1.heap[T.heap.size]? = some (freshCell cX kX) := by rw [← hT1]; exact State.heap_pushCell_size _ _
  have d3' : decode c.code (pc + 3) = .ok (.dup, 1) := by rw [hb]; exact d3
  have d4' : decode c.code (pc + 4) = .ok (.ldc is, 2) := by rw [hb]; exact d4
  have hstr' : vk_R own is text sa s' := vk_R.warm hW0 hstr
  obtain ⟨U, hsteps, hrun, hend, hW, hsame, ce, hce, hO⟩ := X₁.ctorThrowS hexec htr (own := own) (cls := cls) (names := names) (ic := ic) hown' hcls hnames h (fun x hx => nomatch hx) hfX hkX hcellA (by rw [hhp, hT]; exact Nat.le_refl _) (msg := .ref sa) rfl
    (g := { method := m, pc := pc + 6, locals := ls, stack := .ref sa :: .ref T.heap.size :: .ref T.heap.size :: rest, locked := none }) rfl hsize rfl rfl (rest := rest) rfl
    (by rw [hb]; exact d6) (by rw [hb]; exact d9) hout hRframes (by simp only [List.map_cons, List.sum_cons, hcat]; omega) hlocks
  obtain ⟨f1, f2⟩ := vx_frame hsame
  rw [hhp] at f1 f2
  have hWs : s.WarmedH U.vm := State.WarmedH.trans hW0 hW
  have hcl : s.vm.findClass cls = some ce.cls := by
    have h9 := hO.cls
    rw [hvm] at h9
    exact h9
  have hall : s.sameButNew ({ U with vm := s.vm } : State) locs mc ms := by
    subst hA
    obtain ⟨e1, e2⟩ := hsame
    rw [State.setFrames_setFrames] at e1
    have h2 : (T.setVm s.vm).sameButNew ({ U with vm := s.vm } : State) [] (0 + 1) (0 + 6) := ⟨e1, e2⟩
    have h3 := X.same.trans h2
    rw [List.append_nil] at h3
    exact h3.mono hc hs
  refine ⟨U, ?_, .threw T.heap.size, hrun, hend, Or.inr ⟨T.heap.size, rfl, cls, ce, locs, hx U hWs.alike f1 (fun q hq => f2 q hq (fun z hz => nomatch hz)), hce, hO.vm, hcl, hWs, hall, hf⟩⟩
  refine st1 _ ?_
  show Steps p.tables e below (T1.setTop { method := m, pc := pc + 3, locals := ls, stack := .ref T.heap.size :: rest, locked := none }) _
  jvm_step X₁.here [X₁.here.top, hexec, d3', Value.category]
  exact X₁.ldcString hexec (own := own) (text := text) (index := is) (a := sa) hown' hstr'.1 hstr'.2
    (g := { method := m, pc := pc + 4, locals := ls, stack := .ref T.heap.size :: .ref T.heap.size :: rest, locked := none }) rfl d4' _ hsteps
/-- 'throw new E("text")', the text by a wide index -/
theorem vx_throwSW {cc : ByteArray} {pc : Nat} (hexec : p.tables.exec = Jvm.exec) (hb : c.code = cc) (hl : l.stackTraces = false) {own cls text : String} {names : List String} {ik is ic mc ms sa : Nat} {A : Nat → Prop}
    (hown : s.vm.findClass own = some m.cls) (hcls : Bundle.fit cls = true) (hnames : ∀ n ∈ names, Bundle.fit n = true)
    (hk : (Cond.classLink own ik cls).before args s = true) (hini : (Cond.initialized cls).before args s = true) (hstr : vk_R own is text sa s) (hat : ∀ w ∈ vx_atS own ic cls names, w.before args s = true)
    (hgood : ∀ w ∈ Cond.classLink own ik cls :: Cond.initialized cls :: vx_atS own ic cls names, vx_ot w = true)
    (hU : vx_Zq Bundle.tN "UNASSIGNED_STACK" Bundle.steD A s s.heap) (hN : vx_Zq Bundle.tN "SUPPRESSED_SENTINEL" Bundle.listD A s s.heap) (hS : va_S A s.heap H locs) (hsize : ls.size = c.maxLocals)
    (d0 : decode cc pc = .ok (.new ik, 3)) (d3 : decode cc (pc + 3) = .ok (.dup, 1)) (d4 : decode cc (pc + 4) = .ok (.ldc_w is, 3)) (d7 : decode cc (pc + 7) = .ok (.invokespecial ic, 3)) (d10 : decode cc (pc + 10) = .ok (.athrow, 1))
    (hout : ∀ x ∈ c.exceptionTable.toList, covers x (pc + 10) = false)
    (hRframes : names.length + 3 < R.frames) (hRlocals : (rest.map fun v => v.category).sum + (13 * (names.length + 1) + 43) ≤ R.locals) (hRcells : cells + 1 ≤ R.cells) (hRslots : slots + 6 ≤ R.slots) (hlocks : meth.locks = false)
    (hx : ∀ t : State, s.vm.Alike t.vm → H.size ≤ t.heap.size → (∀ q : Nat, q < H.size → t.heap[q]? = H[q]?) → XC cls s t)
    (hf : ∀ z ∈ locs, free z.base) (hc : cells + 1 ≤ mc) (hs : slots + 6 ≤ ms) :
    W p l e R s m args below meth c H locs cells slots (vx_MQ below Qc XC args s mc ms free) (F0 m pc ls rest) := by
  intro T hT X
  have htr : e.platform.stackTraces = false := (show e.platform.stackTraces = l.stackTraces by rw [X.admits.platform]).trans hl
  have Y := vx_rebase X (R' := { frames := R.frames, locals := R.locals, cells := 1, slots := 6 }) (Nat.le_refl _) (Nat.le_refl _) hRcells hRslots
  obtain ⟨s', hA⟩ : ∃ z, z = (T.setVm s.vm).setFrames (.invoking m args :: below) := ⟨_, rfl⟩
  rw [← hA] at Y
  have hvm : s'.vm = s.vm := by rw [hA]; rfl
  have hhp : s'.heap = H := by rw [hA]; exact hT
  have hW0 : s.WarmedH s'.vm := by rw [hvm]; exact State.WarmedH.refl s
  have hat' : ∀ w ∈ vx_atS own ic cls names, w.before args s' = true := fun w hw => vx_ot_at hW0 hvm.symm (hgood w (List.mem_cons_of_mem _ (List.mem_cons_of_mem _ hw))) (hat w hw)
  have hk' : (Cond.classLink own ik cls).before args s' = true := vx_ot_at hW0 hvm.symm (hgood _ List.mem_cons_self) hk
  have hini' : (Cond.initialized cls).before args s' = true := vx_ot_at hW0 hvm.symm (hgood _ (List.mem_cons_of_mem _ List.mem_cons_self)) hini
  have hU' : vx_Zq Bundle.tN "UNASSIGNED_STACK" Bundle.steD A s' s'.heap := by rw [hhp]; exact vx_Zq.moved hW0.alike (hU.kept hS.2.1)
  have hN' : vx_Zq Bundle.tN "SUPPRESSED_SENTINEL" Bundle.listD A s' s'.heap := by rw [hhp]; exact vx_Zq.moved hW0.alike (hN.kept hS.2.1)
  have h : ∀ w ∈ Bundle.ownAtoms own ic cls names, w.before args s' = true := vx_own hat' (vx_isRefq hU'.1) (vx_isRefq hN'.1) hU'.2.word hN'.2.word
  have hown' : s'.vm.findClass own = some m.cls := by rw [hvm]; exact hown
  have hins : (Cond.instantiable cls 6).before args s' = true := h _ (by simp [Bundle.ownAtoms])
  obtain ⟨vm₁, cX, kX, hfX, hkX, -, -, X₁, st1⟩ := Y.newCold hexec (own := own) (C := cls) (index := ik) (n := 6) hown' hk' hins hini'
    (g := F0 m pc ls rest) rfl (by rw [hb]; exact d0) (Nat.le_refl _) (Nat.le_refl _)
  generalize hT1 : (T.setVm vm₁).pushCell { cls := cX, slots := kX.instanceTypes.map defaultValue, vm := .none } = T1 at X₁ st1
  have hcat : (Value.ref T.heap.size).category = 1 := rfl
  have hcellA : T1.heap[T.heap.size]? = some (freshCell cX kX) := by rw [← hT1]; exact State.heap_pushCell_size _ _
  have d3' : decode c.code (pc + 3) = .ok (.dup, 1) := by rw [hb]; exact d3
  have d4' : decode c.code (pc + 4) = .ok (.ldc_w is, 3) := by rw [hb]; exact d4
  have hstr' : vk_R own is text sa s' := vk_R.warm hW0 hstr
  obtain ⟨U, hsteps, hrun, hend, hW, hsame, ce, hce, hO⟩ := X₁.ctorThrowS hexec htr (own := own) (cls := cls) (names := names) (ic := ic) hown' hcls hnames h (fun x hx => nomatch hx) hfX hkX hcellA (by rw [hhp, hT]; exact Nat.le_refl _) (msg := .ref sa) rfl
    (g := { method := m, pc := pc + 7, locals := ls, stack := .ref sa :: .ref T.heap.size :: .ref T.heap.size :: rest, locked := none }) rfl hsize rfl rfl (rest := rest) rfl
    (by rw [hb]; exact d7) (by rw [hb]; exact d10) hout hRframes (by simp only [List.map_cons, List.sum_cons, hcat]; omega) hlocks
  obtain ⟨f1, f2⟩ := vx_frame hsame
  rw [hhp] at f1 f2
  have hWs : s.WarmedH U.vm := State.WarmedH.trans hW0 hW
  have hcl : s.vm.findClass cls = some ce.cls := by
    have h9 := hO.cls
    rw [hvm] at h9
    exact h9
  have hall : s.sameButNew ({ U with vm := s.vm } : State) locs mc ms := by
    subst hA
    obtain ⟨e1, e2⟩ := hsame
    rw [State.setFrames_setFrames] at e1
    have h2 : (T.setVm s.vm).sameButNew ({ U with vm := s.vm } : State) [] (0 + 1) (0 + 6) := ⟨e1, e2⟩
    have h3 := X.same.trans h2
    rw [List.append_nil] at h3
    exact h3.mono hc hs
  refine ⟨U, ?_, .threw T.heap.size, hrun, hend, Or.inr ⟨T.heap.size, rfl, cls, ce, locs, hx U hWs.alike f1 (fun q hq => f2 q hq (fun z hz => nomatch hz)), hce, hO.vm, hcl, hWs, hall, hf⟩⟩
  refine st1 _ ?_
  show Steps p.tables e below (T1.setTop { method := m, pc := pc + 3, locals := ls, stack := .ref T.heap.size :: rest, locked := none }) _
  jvm_step X₁.here [X₁.here.top, hexec, d3', Value.category]
  exact X₁.ldcStringW hexec (own := own) (text := text) (index := is) (a := sa) hown' hstr'.1 hstr'.2
    (g := { method := m, pc := pc + 4, locals := ls, stack := .ref T.heap.size :: .ref T.heap.size :: rest, locked := none }) rfl d4' _ hsteps
end Ends
section Bodies
variable {l : Launch}
theorem vx_ofW {y : MethodName} {ws ws' : List Cond} {rm : Room} {Pc : Array Value → State → Prop} {Qc : Array Value → State → Outcome → State → Prop} {XC : String → State → State → Prop} {mc ms : Nat} {free : Addr → Prop} {cc : ByteArray} {maxL : Nat} {ret : Option FieldType}
    (hy : plainName y.cls = true) (hw : ws = Cond.code y cc maxL ret :: ws')
    (body : ∀ p e s m args below meth c s₁, BodyLoose p l y (headSpec ws rm) cc maxL ret e s m args below meth c s₁ → c.maxLocals = maxL → (∀ x ∈ c.exceptionTable.toList, False) → Pc args s →
      W p l e (headSpec ws rm).room s m args below meth c s.heap [] 0 0 (vx_MQ below Qc XC args s mc ms free) (entryFrame m args maxL)) : vx_Met l y ws rm Pc Qc XC mc ms free := by
  refine MetFree.of_bodyS (code := cc) (maxLocals := maxL) (ret := ret) hy ?_ ?_
  · intro args s m h hn
    obtain ⟨meth, c, h1, h2, h3, h4, h5, h6, -, -⟩ := Cond.code_spec hn (atoms_spec (ws := ws) h _ (by rw [hw]; exact List.mem_cons_self))
    exact ⟨meth, c, h1, h2, h3, h4, h5, h6⟩
  · intro p e s m args below meth c s₁ B hml hP _
    have hh0 : s₁.heap = s.heap := by rw [B.state]; rfl
    have ht : ∀ x ∈ c.exceptionTable.toList, False := by
      obtain ⟨meth9, c9, h1, h2, -, -, -, -, h7, -⟩ := Cond.code_spec B.named (atoms_spec (ws := ws) B.pre _ (by rw [hw]; exact List.mem_cons_self))
      cases Option.some.inj (h1.symm.trans B.method)
      cases Option.some.inj (h2.symm.trans (Stand.of_body B).code)
      intro x hx
      rw [Array.isEmpty_iff.mp h7] at hx
      cases hx
    obtain ⟨t, a1, o, b1, b2, b3⟩ := body p e s m args below meth c s₁ B hml ht hP s₁ hh0 (Stand.of_body B)
    exact ⟨t, o, a1, b1, b2, b3⟩
/-- the table of a body with handlers -/
theorem vx_table {p : Program} {x y : MethodName} {S : Spec} {cc bytes : ByteArray} {maxL maxL' : Nat} {ret ret' : Option FieldType} {e : Env} {s s₁ : State} {m : MethodId} {args : Array Value} {below : List Frame} {meth : Method} {c : Code} {hh : List (Nat × Nat × Nat × Nat)}
    (B : BodyLoose p l y S cc maxL ret e s m args below meth c s₁) (h : (Cond.codeWith y bytes maxL' ret' hh).before args s = true) : c.exceptionTable.toList = tableOf hh := by
  obtain ⟨m9, meth9, c9, hn9, h1, h2, -, -, h6, -⟩ := Cond.codeWith_spec h
  cases Option.some.inj (hn9.symm.trans B.named)
  cases Option.some.inj (h1.symm.trans B.method)
  cases Option.some.inj (h2.symm.trans (Stand.of_body B).code)
  rw [← h6, table_eq]
end Bodies
end VXA
/-! ===== END ===== -/
/-! ===== BEGIN a static call of a method with an exception table ===== -/
section VXS
variable {p : Program} {l : Launch} {e : Env} {R : Room} {s : State} {m : MethodId} {args : Array Value} {below : List Frame} {meth : Method} {c : Code} {T : State} {H : Heap} {locs : List Loc} {cells slots : Nat}
abbrev vx_CSW (R : Room) (s : State) (args : Array Value) (own : String) (index : Nat) (y : MethodName) (bytes : ByteArray) (maxL : Nat) (ret : Option FieldType) (hh : List (Nat × Nat × Nat × Nat)) (ws : List Cond) (rm : Room) (mc ms n : Nat) : Prop :=
  (rm.cells = mc ∧ rm.slots = ms ∧ rm.frames + 1 ≤ R.frames ∧ 8 + (maxL + 11) + rm.locals ≤ R.locals ∧ (∀ w ∈ ws, ∀ (a' : Array Value) (U : State), s.WarmedH U.vm → w.before a' U = true) ∧ Cond.codeWith y bytes maxL ret hh ∈ ws) ∧
  (Cond.codeWith y bytes maxL ret hh).before args s = true ∧ (Cond.initialized y.cls).before args s = true ∧ (y.cls ≠ "java/lang/invoke/MethodHandle" ∧ y.cls ≠ "java/lang/invoke/VarHandle") ∧
  (∀ sig, parseMethodDescriptor y.desc = some sig → n = sig.parameters.length) ∧ (Cond.methodLink own index y).before args s = true ∧ (Cond.static y).before args s = true
theorem vx_cwSW {own : String} {index maxL mc ms : Nat} {y : MethodName} {bytes : ByteArray} {ret : Option FieldType} {hh : List (Nat × Nat × Nat × Nat)} {Ts ws ws' : List Cond} {rm : Room} (n : Nat) (ht : ∀ w ∈ Ts, w.before args s = true) (hT : GoodIn Ts (va_wsS own index y ws)) (hw : ws = Cond.codeWith y bytes maxL ret hh :: ws') (hrc : rm.cells = mc) (hrs : rm.slots = ms)
    (hd : y.cls ≠ "java/lang/invoke/MethodHandle" ∧ y.cls ≠ "java/lang/invoke/VarHandle" ∧ (parseMethodDescriptor y.desc).map (fun d => d.parameters.length) = some n) (hR : rm.frames + 1 ≤ R.frames ∧ 8 + (maxL + 11) + rm.locals ≤ R.locals) :
    vx_CSW R s args own index y bytes maxL ret hh ws rm mc ms n := by
  have ok : ∀ w ∈ va_wsS own index y ws, w.before args s = true := fun w h => ht w (hT w h).1
  have hG : GoodIn Ts ws := fun w h => hT w (by unfold va_wsS; exact List.mem_append_right _ h)
  have hc : Cond.codeWith y bytes maxL ret hh ∈ ws := by rw [hw]; exact List.mem_cons_self
  refine ⟨⟨hrc, hrs, hR.1, hR.2, pay_in ht hG, hc⟩, ht _ (hG _ hc).1, ok _ (by simp [va_wsS]), ⟨hd.1, hd.2.1⟩, fun sig h => ?_, ok _ (by simp [va_wsS]), ok _ (by simp [va_wsS])⟩
  have h2 := hd.2.2
  rw [h] at h2
  exact (Option.some.inj h2).symm
theorem vx_callSW (X : Stand p l e R s m args below meth c T locs cells slots) (hexec : p.tables.exec = Jvm.exec) {own : String} {index : Nat} {y : MethodName} {bytes : ByteArray} {maxL : Nat} {ret : Option FieldType} {hh : List (Nat × Nat × Nat × Nat)}
    (hown : s.vm.findClass own = some m.cls) (hlink : (Cond.methodLink own index y).before args s = true) (hstat : (Cond.static y).before args s = true) (hinit : (Cond.initialized y.cls).before args s = true)
    (hcode : (Cond.codeWith y bytes maxL ret hh).before args s = true) (hy : y.cls ≠ "java/lang/invoke/MethodHandle" ∧ y.cls ≠ "java/lang/invoke/VarHandle")
    {W9 : Nat} {Pre : Pt → Array Value → Prop} {Post : Pt → Array Value → Option Value → Pt → Prop} (hK : Back l R p e below s args y 3 W9 Pre Post)
    {g : JFrame} (hg : g.method = m) (hsize : g.locals.size = c.maxLocals) {argsL rest : List Value} (hlen : ∀ sig, parseMethodDescriptor y.desc = some sig → argsL.length = sig.parameters.length)
    (hstack : g.stack = argsL.reverse ++ rest) (hW : 2 * g.monitorRoom + (rest.map fun v => v.category).sum ≤ W9) (hdg : decode c.code g.pc = .ok (.invokestatic index, 3))
    (hpre : ∀ vm₁, s.WarmedH vm₁ → Pre ⟨T.setVm vm₁, locs, cells, slots⟩ argsL.toArray) :
    ∃ (v : Option Value) (vm₁ : Vm) (B : Pt), s.WarmedH vm₁ ∧ Stand p l e R s m args below meth c B.U B.locs B.cells B.slots ∧ Post ⟨T.setVm vm₁, locs, cells, slots⟩ argsL.toArray v B ∧
      ∀ target, Steps p.tables e below (B.U.setTop { g with pc := g.pc + 3, stack := v.toList ++ rest }) target → Steps p.tables e below (T.setTop g) target := by
  obtain ⟨mk, methM, cM, hnamed, hmethM, -, -, -, -, -, -, hsigM⟩ := Cond.codeWith_spec hcode
  have hstatic : methM.isStatic = true := Cond.static_spec hnamed hmethM hstat
  obtain ⟨kP, hkP, -⟩ := className_of_methodNamed hnamed
  have hinitP : kP.init = .initialized := Cond.initialized_spec (findClass_of_methodNamed hnamed) hkP hinit
  obtain ⟨vm₁, X₁, hstep₁⟩ := X.invokestatic hexec hown hlink hnamed hmethM hstatic hkP hinitP hy (g := g) hg (argsL := argsL) (rest := rest) (hlen _ hsigM) hstack hdg
  obtain ⟨v, B, X', hpost, hsteps⟩ := hK m meth c ⟨T.setVm vm₁, locs, cells, slots⟩ { g with stack := rest } (.invokestatic index) mk argsL.toArray X₁ hg hsize hdg hW (X₁.named hnamed) (hpre vm₁ X₁.warmed)
  exact ⟨v, vm₁, B, X₁.warmed, X', hpost, fun target h => hstep₁ _ fun acts => by rw [doInvoke_state]; exact hsteps.trans h⟩
theorem vx_runSW {y : MethodName} {bytes cc : ByteArray} {maxL nL mc ms n index : Nat} {ret : Option FieldType} {hh : List (Nat × Nat × Nat × Nat)} {ws : List Cond} {rm : Room} {Pc : Array Value → State → Prop} {Qc : Array Value → State → Outcome → State → Prop} {free : Addr → Prop} {Ts : List Cond} {own : String} {As rest : List Value} {g : JFrame}
    (S : CallFix p m c cc nL s args Ts own) (hM : Met l y ws rm Pc Qc mc ms free) (cw : vx_CSW R s args own index y bytes maxL ret hh ws rm mc ms n) (hp : PreS s H Pc As)
    (hg : g.method = m) (hn : As.length = n) (hsize : g.locals.size = nL) (hstack : g.stack = As.reverse ++ rest) (hW : 2 * g.monitorRoom + (rest.map fun v => v.category).sum ≤ 8) (hdg : decode cc g.pc = .ok (.invokestatic index, 3)) (hf : cells + mc ≤ R.cells ∧ slots + ms ≤ R.slots) :
    va_Run p l e R s m args below meth c H locs cells slots mc ms g rest (Qc As.toArray) (free) := by
  obtain ⟨⟨hrc, hrs, hfr, hlo, hws, hcw⟩, hcode, hini, hy, hlen, hl, hstt⟩ := cw
  have hK : Back l R p e below s args y 3 8 (PreOf R mc ms Pc) (PostOf Qc mc ms free) := va_backW (hh := hh) (bytes := bytes) (maxL := maxL) (ret := ret) hM hp.1 hrc hrs hfr hlo hws hcw (fun a' U hW => word_at hW (Or.inl (by first | rfl | simp [Cond.onTables, Cond.keeps, Cond.steady])) hini)
  obtain ⟨hx, hb, hml, ho, -⟩ := S
  intro T hT X
  obtain ⟨v, vm₁, ⟨U', l2, c2, s2⟩, hW₁, X', ⟨g', mk, t, L, e1, e2, hq, h1, hL, h2, h3⟩, st⟩ := vx_callSW X hx (hh := hh) (bytes := bytes) (maxL := maxL) (ret := ret) ho hl hstt hini hcode hy hK hg (hsize.trans hml.symm) (argsL := As) (rest := rest) (fun sig h => hn.trans (hlen sig h)) hstack hW (by rw [hb]; exact hdg)
    (fun vm₁ hW₁ => ⟨hf.1, hf.2, hp.2 (T.setVm vm₁) hT hW₁⟩)
  dsimp only [Pt.U, Pt.locs, Pt.cells, Pt.slots] at X' e1 e2 h1 h2 h3 st
  subst h1; subst h2; subst h3
  exact ⟨v, (T.setVm vm₁).calling g' mk As.toArray, t, U', L, hT, X', hL, e1, e2, hq, st⟩
/-- not caught here, past rows that name other classes: it goes on to the caller -/
theorem vx_outP {p : Program} {l : Launch} {e : Env} {R : Room} {s : State} {m : MethodId} {args : Array Value} {below : List Frame} {meth : Method} {c : Code} {H : Heap} {locs : List Loc} {cells slots : Nat} {free : Addr → Prop} {ls : Array Slot} {rest : List Value} {Qc : Array Value → State → Outcome → State → Prop} {XC : String → State → State → Prop}
    {pc : Nat} {own E : String} {ce : Cell} {q : Addr} {mc ms : Nat} (hown : s.vm.findClass own = some m.cls) (hlocks : meth.locks = false)
    (hpass : ∀ z ∈ c.exceptionTable.toList, covers z pc = false ∨ (z.catchType ≠ 0 ∧ ∃ nm : String, (Cond.classLink own z.catchType nm).before args s = true ∧ va_Nc E nm s)) (hcell : H[q]? = some ce) (hv : ce.vm = .none) (hcl : s.vm.findClass E = some ce.cls)
    (hx : ∀ t : State, t.heap = H → s.vm.Alike t.vm → XC E s t) (hf : ∀ z ∈ locs, free z.base) (hc : cells ≤ mc) (hs : slots ≤ ms) :
    vx_W p l e R s m args below meth c H locs cells slots (vx_MQ below Qc XC args s mc ms free) (F0 m pc ls rest) q := by
  intro T hT X
  have hpl : e.platform.magicAccessors = ({} : Platform).magicAccessors := by rw [X.admits.platform]
  obtain ⟨vm', hW', X', st⟩ := X.outThrough hlocks q (g := F0 m pc ls rest) rfl rfl rfl (cell := ce) (by rw [hT]; exact hcell) (by rw [hv]; rfl)
    (by obtain ⟨k9, h9, -⟩ := Vm.findClass_spec hcl; exact ⟨k9, h9⟩) (fun z hz => by
      rcases hpass z hz with h | ⟨hz0, nm, hl1, hn1⟩
      · exact Or.inl h
      · obtain ⟨c6, hc6, hcl6⟩ := Cond.classLink_spec hown hl1 e.platform hpl
        obtain ⟨a8, b8, h1, h2, h3⟩ := hn1
        cases Option.some.inj (h1.symm.trans hcl)
        cases Option.some.inj (h2.symm.trans hc6)
        exact Or.inr ⟨hz0, _, hcl6, h3⟩)
  obtain ⟨g₀, hfr⟩ := X'.frames_eq
  have hcell9 : ((T.setVm vm').setFrames (.throwing q :: below)).heap[q]? = some ce := by
    show T.heap[q]? = some ce
    rw [hT]; exact hcell
  have hend : Ended ((T.setVm vm').setFrames (.throwing q :: below)) below (.threw q) := State.frames_setFrames _ (State.cur_lt_of_frames hfr)
  refine ⟨(T.setVm vm').setFrames (.throwing q :: below), ?_, .threw q, X'.here.running, hend, Or.inr ⟨q, rfl, E, ce, locs, hx _ hT (X'.ends _).1.alike, hcell9, hv, hcl, (X'.ends _).1, (X'.ends _).2.mono hc hs, hf⟩⟩
  rw [X.pushThrowing_eq]
  exact st
/-- a thing of a world lies in the heap -/
theorem vx_lt {D : va_G} {cl : List vw_C} {ws : va_W} {H1 : Heap} (h : va_P D cl ws H1) {k : Nat} {q : Nat × va_E} (hk : ws[k]? = some q) : q.1 < H1.size := (h k q hk).lt
end VXS
/-! ===== END ===== -/
/-! ===== BEGIN methods with a table of their own: called by a name, returning or throwing ===== -/
section VXH
/-! vx_backW, vx_callVX, vx_callSX, vx_callVW, vx_runVW, vx_runVX, vx_runSX, vx_ofWH follow the same proofs as their sisters above (Free/Laws.lean, Shelf42/LK1.lean); vx_outP calls Shelf42/NT130.lean (outThrough). -/
section
variable {l : Launch} {R : Room} {p : Program} {e : Env} {below : List Frame} {s : State} {sargs : Array Value} {y : MethodName} {len W9 : Nat}
theorem vx_backW {ws : List Cond} {rm : Room} {Pc : Array Value → State → Prop} {Qc : Array Value → State → Outcome → State → Prop} {XC : String → State → State → Prop} {mc ms : Nat} {free : Addr → Prop} {bytes : ByteArray} {maxL : Nat} {ret : Option FieldType} {hh : List (Nat × Nat × Nat × Nat)}
    (hM : vx_Met l y ws rm Pc Qc XC mc ms free) (hblind : FrameBlind Pc) (hrc : rm.cells = mc) (hrs : rm.slots = ms)
    (hframes : rm.frames + 1 ≤ R.frames) (hlocals : W9 + (maxL + 11) + rm.locals ≤ R.locals)
    (hws : ∀ w ∈ ws, ∀ a' U, s.WarmedH U.vm → w.before a' U = true) (hcode : Cond.codeWith y bytes maxL ret hh ∈ ws) (hinit : ∀ a' U, s.WarmedH U.vm → (Cond.initialized y.cls).before a' U = true) :
    vx_Back l R p e below s sargs y len W9 (PreOf R mc ms Pc) (PostOf Qc mc ms free) (vx_Post XC mc ms free) := by
  intro m meth c A g ig mk a X hg hsize hdg hW hn hp
  have h1 : (headSpec ws rm).pre.before a A.U = true := atoms_intro fun w hw => hws w hw _ _ X.warmed
  have h2 : (Cond.codeWith y bytes maxL ret hh).before a A.U = true := hws _ hcode _ _ X.warmed
  have h3 : (Cond.initialized y.cls).before a A.U = true := hinit _ _ X.warmed
  have h4 : A.cells + (headSpec ws rm).room.cells ≤ R.cells := by rw [show (headSpec ws rm).room.cells = mc from hrc]; exact hp.1
  have h5 : A.slots + (headSpec ws rm).room.slots ≤ R.slots := by rw [show (headSpec ws rm).room.slots = ms from hrs]; exact hp.2.1
  have hPc : Pc a (A.U.calling g mk a) := hblind _ _ _ _ hp.2.2
  obtain ⟨U, Ls, c0, s0⟩ := A
  dsimp only [Pt.U, Pt.locs, Pt.cells, Pt.slots] at h1 h2 h3 h4 h5 X hn hPc ⊢
  obtain ⟨m9, methY, cY, hn9, hmY, hcY, -, hlY, -⟩ := Cond.codeWith_spec h2
  cases Option.some.inj (hn9.symm.trans hn)
  obtain ⟨kY, hkY, -⟩ := className_of_methodNamed hn
  have hinitY : kY.init = .initialized := Cond.initialized_spec (findClass_of_methodNamed hn) hkY h3
  have h : At U g.method c below := by rw [hg]; exact X.here
  have hlocals9 : W9 + (maxL + 11) + (headSpec ws rm).room.locals ≤ R.locals := hlocals
  have happ : (headSpec ws rm).appliesLoose y e.platform (U.calling g mk a) = true :=
    Spec.appliesLoose_calling (g := g) h hdg hn hkY hinitY
      (X.room_calling (g := g) (R' := (headSpec ws rm).room) hsize hmY hcY hframes (by rw [hlY]; omega) h4 h5) h1
  obtain ⟨mid, hmid⟩ := h.above
  have hfr : (U.setTop g).frames = (.java g :: mid) ++ below := by rw [State.frames_setTop' g h.top, hmid]; rfl
  obtain ⟨o, s₂, hsteps, -, hend, hq⟩ := Steps.callFree hM p X.admits X.cas X.clock (acts := []) hfr happ hPc trivial
  have hq' : vx_Q Qc XC mc ms free a (U.calling g mk a) o s₂ := hq
  rw [State.frames_setTop' g h.top] at hend
  obtain ⟨g₀, hg0⟩ := Option.isSome_iff_exists.mp h.top
  obtain ⟨r, hr⟩ := State.topJava?_eq_some.mp hg0
  have hr' : (({ U with heap := s₂.heap, slotsUsed := s₂.slotsUsed } : State).setVm s₂.vm).frames = .java g₀ :: r := hr
  rcases hq' with ⟨hqc, L, hfe, hL⟩ | ⟨q, rfl, E, ce, L, hx, hce, hcv, hcl, hW₂, hsm, hL⟩
  · obtain ⟨⟨v, rfl⟩, hW₂, e2, q2, q3, q4, q5, q6⟩ := id hfe
    have e3 : s₂ = ({ (U.calling g mk a).setFrames s₂.frames with heap := s₂.heap, slotsUsed := s₂.slotsUsed } : State).setVm s₂.vm := by
      have : s₂ = ({ s₂ with vm := (U.calling g mk a).vm } : State).setVm s₂.vm := rfl
      rw [e2] at this
      exact this
    obtain ⟨c₂, i₂, len₂, hc₂, hd₂, hf₂⟩ := hend
    have hW' : U.WarmedH s₂.vm := hW₂
    have hcc : c₂ = c := by
      have h1 : s₂.code? g.method = U.code? g.method := by
        rw [State.code?_eq, State.code?_eq, hW'.alike.method?]
      exact Option.some.inj (hc₂.symm.trans (h1.trans h.code))
    subst hcc
    have hlen : len₂ = len := by rw [hdg] at hd₂; cases hd₂; rfl
    subst hlen
    have hs₂ : s₂ = (({ U with heap := s₂.heap, slotsUsed := s₂.slotsUsed } : State).setVm s₂.vm).setTop { g with pc := g.pc + len₂, stack := v.toList ++ g.stack } := by
      refine e3.trans ?_
      rw [hf₂, State.calling_eq h.top, State.setFrames_setFrames, State.setTop_of_frames _ hr', hr]
      rfl
    have hsame : U.sameButNew ({ U with heap := s₂.heap, slotsUsed := s₂.slotsUsed } : State) L mc ms := by
      refine ⟨?_, q2, q3, q4, q5, q6⟩
      obtain ⟨t, ht, -⟩ := State.frames_cons hr
      show ({ U with heap := s₂.heap, slotsUsed := s₂.slotsUsed } : State) = { U.setFrames U.frames with heap := s₂.heap, slotsUsed := s₂.slotsUsed }
      rw [State.setFrames_self ht]
    subst hg
    refine Or.inl ⟨v, ⟨(({ U with heap := s₂.heap, slotsUsed := s₂.slotsUsed } : State).setVm s₂.vm), Ls ++ L, c0 + mc, s0 + ms⟩,
      ⟨X.admits, X.cas, X.clock, X.frames, X.room, X.hears, X.method, X.code, (X.here.setHeapUsed s₂.heap s₂.slotsUsed).setVm hW'.alike, X.tail, State.WarmedH.trans X.warmed hW', X.limits, X.bytes, X.same.trans (hsame.setVm s.vm)⟩,
      ⟨g, mk, s₂, L, rfl, rfl, hqc, rfl, hL, rfl, rfl⟩, ?_⟩
    show Steps p.tables e below _ ((({ U with heap := s₂.heap, slotsUsed := s₂.slotsUsed } : State).setVm s₂.vm).setTop { g with pc := g.pc + len₂, stack := v.toList ++ g.stack })
    rw [← hs₂]
    exact hsteps
  · obtain ⟨e2, q2, q3, q4, q5, q6⟩ := id hsm
    have e3 : s₂ = ({ (U.calling g mk a).setFrames s₂.frames with heap := s₂.heap, slotsUsed := s₂.slotsUsed } : State).setVm s₂.vm := by
      have : s₂ = ({ s₂ with vm := (U.calling g mk a).vm } : State).setVm s₂.vm := rfl
      rw [e2] at this
      exact this
    have hf₂ : s₂.frames = .throwing q :: .java g :: U.frames.tail := hend
    have hW' : U.WarmedH s₂.vm := hW₂
    have hs₂ : s₂ = ((({ U with heap := s₂.heap, slotsUsed := s₂.slotsUsed } : State).setVm s₂.vm).setTop g).pushFrame (.throwing q) := by
      refine e3.trans ?_
      rw [hf₂, State.calling_eq h.top, State.setFrames_setFrames, State.pushFrame, State.frames_setTop _ hr', State.setTop_of_frames _ hr', State.setFrames_setFrames, hr]
      rfl
    have hsame : U.sameButNew ({ U with heap := s₂.heap, slotsUsed := s₂.slotsUsed } : State) L mc ms := by
      refine ⟨?_, q2, q3, q4, q5, q6⟩
      obtain ⟨t, ht, -⟩ := State.frames_cons hr
      show ({ U with heap := s₂.heap, slotsUsed := s₂.slotsUsed } : State) = { U.setFrames U.frames with heap := s₂.heap, slotsUsed := s₂.slotsUsed }
      rw [State.setFrames_self ht]
    subst hg
    refine Or.inr ⟨q, ⟨(({ U with heap := s₂.heap, slotsUsed := s₂.slotsUsed } : State).setVm s₂.vm), Ls ++ L, c0 + mc, s0 + ms⟩,
      ⟨X.admits, X.cas, X.clock, X.frames, X.room, X.hears, X.method, X.code, (X.here.setHeapUsed s₂.heap s₂.slotsUsed).setVm hW'.alike, X.tail, State.WarmedH.trans X.warmed hW', X.limits, X.bytes, X.same.trans (hsame.setVm s.vm)⟩,
      ⟨g, mk, s₂, L, E, ce, rfl, rfl, hx, hce, hcv, hcl, rfl, hL, rfl, rfl⟩, ?_⟩
    show Steps p.tables e below _ (((({ U with heap := s₂.heap, slotsUsed := s₂.slotsUsed } : State).setVm s₂.vm).setTop g).pushFrame (.throwing q))
    rw [← hs₂]
    exact hsteps
end
variable {p : Program} {l : Launch} {e : Env} {R : Room} {s : State} {m : MethodId} {args : Array Value} {below : List Frame} {meth : Method} {c : Code} {T : State} {H : Heap} {locs : List Loc} {cells slots : Nat}
theorem vx_callVX (X : Stand p l e R s m args below meth c T locs cells slots) (hexec : p.tables.exec = Jvm.exec) {own C : String} {index : Nat} {y : MethodName} {bytes : ByteArray} {maxL : Nat} {ret : Option FieldType} {hh : List (Nat × Nat × Nat × Nat)}
    (hown : s.vm.findClass own = some m.cls) (hlink : (Cond.methodLink own index y).before args s = true) (hinst : (Cond.instanceMethod y).before args s = true) (hsel : (Cond.selects C y y).before args s = true)
    (hcode : (Cond.codeWith y bytes maxL ret hh).before args s = true) (hy : y.cls ≠ "java/lang/invoke/MethodHandle" ∧ y.cls ≠ "java/lang/invoke/VarHandle")
    {W9 : Nat} {Pre : Pt → Array Value → Prop} {Post : Pt → Array Value → Option Value → Pt → Prop} {PostX : Pt → Array Value → Addr → Pt → Prop} (hK : vx_Back l R p e below s args y 3 W9 Pre Post PostX)
    {b : Addr} {cellB : Cell} (hcell : T.heap[b]? = some cellB) (hobj : cellB.vm.isStatics = false) (hcls : s.vm.findClass C = some cellB.cls)
    {g : JFrame} (hg : g.method = m) (hsize : g.locals.size = c.maxLocals) {argsL rest : List Value} (hlen : ∀ sig, parseMethodDescriptor y.desc = some sig → argsL.length = sig.parameters.length)
    (hstack : g.stack = argsL.reverse ++ .ref b :: rest) (hW : 2 * g.monitorRoom + (rest.map fun v => v.category).sum ≤ W9) (hdg : decode c.code g.pc = .ok (.invokevirtual index, 3))
    (hpre : ∀ vm₁, s.WarmedH vm₁ → Pre ⟨T.setVm vm₁, locs, cells, slots⟩ (Value.ref b :: argsL).toArray) :
    (∃ (v : Option Value) (vm₁ : Vm) (B : Pt), s.WarmedH vm₁ ∧ Stand p l e R s m args below meth c B.U B.locs B.cells B.slots ∧ Post ⟨T.setVm vm₁, locs, cells, slots⟩ (Value.ref b :: argsL).toArray v B ∧
      ∀ target, Steps p.tables e below (B.U.setTop { g with pc := g.pc + 3, stack := v.toList ++ rest }) target → Steps p.tables e below (T.setTop g) target) ∨
    (∃ (q : Addr) (vm₁ : Vm) (B : Pt), s.WarmedH vm₁ ∧ Stand p l e R s m args below meth c B.U B.locs B.cells B.slots ∧ PostX ⟨T.setVm vm₁, locs, cells, slots⟩ (Value.ref b :: argsL).toArray q B ∧
      Steps p.tables e below (T.setTop g) ((B.U.setTop { g with stack := rest }).pushFrame (.throwing q))) := by
  obtain ⟨mk, methM, hnamed, hmethM, hstM, habM⟩ := Cond.instanceMethod_spec hinst
  obtain ⟨m8, methM', cM, hn8, hmethM', -, -, -, -, -, -, hsigM⟩ := Cond.codeWith_spec hcode
  cases Option.some.inj (hn8.symm.trans hnamed)
  cases hmethM.symm.trans hmethM'
  obtain ⟨c2, r2, m2, q1, q2, q3, q4, kP, hkP, hkPi⟩ := Cond.selects_spec hsel
  cases hcls.symm.trans q1
  cases (State.methodFound?_of_named hnamed hy).symm.trans q2
  cases hnamed.symm.trans q3
  have hselP : selectMethod e.platform s.vm cellB.cls mk = .method mk := by rw [Launch.admits_selectMethod X.admits]; exact q4
  obtain ⟨vm₁, X₁, hstep₁⟩ := X.invokevirtual hexec hown hlink hnamed hmethM hstM hkP hkPi hy (a := b) (cell := cellB) hcell
    (fun z h => by rw [h] at hobj; cases hobj) hselP hmethM habM hkP hkPi (g := g) hg (argsL := argsL) (rest := rest) (hlen _ hsigM) hstack hdg
  rcases hK m meth c ⟨T.setVm vm₁, locs, cells, slots⟩ { g with stack := rest } (.invokevirtual index) mk (Value.ref b :: argsL).toArray X₁ hg hsize hdg hW (X₁.named hnamed) (hpre vm₁ X₁.warmed) with ⟨v, B, X', hpost, hsteps⟩ | ⟨q, B, X', hpost, hsteps⟩
  · exact Or.inl ⟨v, vm₁, B, X₁.warmed, X', hpost, fun target h => hstep₁ _ fun acts => by rw [doInvoke_state]; exact hsteps.trans h⟩
  · exact Or.inr ⟨q, vm₁, B, X₁.warmed, X', hpost, hstep₁ _ fun acts => by rw [doInvoke_state]; exact hsteps⟩
theorem vx_callSX (X : Stand p l e R s m args below meth c T locs cells slots) (hexec : p.tables.exec = Jvm.exec) {own : String} {index : Nat} {y : MethodName} {bytes : ByteArray} {maxL : Nat} {ret : Option FieldType} {hh : List (Nat × Nat × Nat × Nat)}
    (hown : s.vm.findClass own = some m.cls) (hlink : (Cond.methodLink own index y).before args s = true) (hstat : (Cond.static y).before args s = true) (hinit : (Cond.initialized y.cls).before args s = true)
    (hcode : (Cond.codeWith y bytes maxL ret hh).before args s = true) (hy : y.cls ≠ "java/lang/invoke/MethodHandle" ∧ y.cls ≠ "java/lang/invoke/VarHandle")
    {W9 : Nat} {Pre : Pt → Array Value → Prop} {Post : Pt → Array Value → Option Value → Pt → Prop} {PostX : Pt → Array Value → Addr → Pt → Prop} (hK : vx_Back l R p e below s args y 3 W9 Pre Post PostX)
    {g : JFrame} (hg : g.method = m) (hsize : g.locals.size = c.maxLocals) {argsL rest : List Value} (hlen : ∀ sig, parseMethodDescriptor y.desc = some sig → argsL.length = sig.parameters.length)
    (hstack : g.stack = argsL.reverse ++ rest) (hW : 2 * g.monitorRoom + (rest.map fun v => v.category).sum ≤ W9) (hdg : decode c.code g.pc = .ok (.invokestatic index, 3))
    (hpre : ∀ vm₁, s.WarmedH vm₁ → Pre ⟨T.setVm vm₁, locs, cells, slots⟩ argsL.toArray) :
    (∃ (v : Option Value) (vm₁ : Vm) (B : Pt), s.WarmedH vm₁ ∧ Stand p l e R s m args below meth c B.U B.locs B.cells B.slots ∧ Post ⟨T.setVm vm₁, locs, cells, slots⟩ argsL.toArray v B ∧
      ∀ target, Steps p.tables e below (B.U.setTop { g with pc := g.pc + 3, stack := v.toList ++ rest }) target → Steps p.tables e below (T.setTop g) target) ∨
    (∃ (q : Addr) (vm₁ : Vm) (B : Pt), s.WarmedH vm₁ ∧ Stand p l e R s m args below meth c B.U B.locs B.cells B.slots ∧ PostX ⟨T.setVm vm₁, locs, cells, slots⟩ argsL.toArray q B ∧
      Steps p.tables e below (T.setTop g) ((B.U.setTop { g with stack := rest }).pushFrame (.throwing q))) := by
  obtain ⟨mk, methM, cM, hnamed, hmethM, -, -, -, -, -, -, hsigM⟩ := Cond.codeWith_spec hcode
  have hstatic : methM.isStatic = true := Cond.static_spec hnamed hmethM hstat
  obtain ⟨kP, hkP, -⟩ := className_of_methodNamed hnamed
  have hinitP : kP.init = .initialized := Cond.initialized_spec (findClass_of_methodNamed hnamed) hkP hinit
  obtain ⟨vm₁, X₁, hstep₁⟩ := X.invokestatic hexec hown hlink hnamed hmethM hstatic hkP hinitP hy (g := g) hg (argsL := argsL) (rest := rest) (hlen _ hsigM) hstack hdg
  rcases hK m meth c ⟨T.setVm vm₁, locs, cells, slots⟩ { g with stack := rest } (.invokestatic index) mk argsL.toArray X₁ hg hsize hdg hW (X₁.named hnamed) (hpre vm₁ X₁.warmed) with ⟨v, B, X', hpost, hsteps⟩ | ⟨q, B, X', hpost, hsteps⟩
  · exact Or.inl ⟨v, vm₁, B, X₁.warmed, X', hpost, fun target h => hstep₁ _ fun acts => by rw [doInvoke_state]; exact hsteps.trans h⟩
  · exact Or.inr ⟨q, vm₁, B, X₁.warmed, X', hpost, hstep₁ _ fun acts => by rw [doInvoke_state]; exact hsteps⟩
theorem vx_callVW (X : Stand p l e R s m args below meth c T locs cells slots) (hexec : p.tables.exec = Jvm.exec) {own C : String} {index : Nat} {y : MethodName} {bytes : ByteArray} {maxL : Nat} {ret : Option FieldType} {hh : List (Nat × Nat × Nat × Nat)}
    (hown : s.vm.findClass own = some m.cls) (hlink : (Cond.methodLink own index y).before args s = true) (hinst : (Cond.instanceMethod y).before args s = true) (hsel : (Cond.selects C y y).before args s = true)
    (hcode : (Cond.codeWith y bytes maxL ret hh).before args s = true) (hy : y.cls ≠ "java/lang/invoke/MethodHandle" ∧ y.cls ≠ "java/lang/invoke/VarHandle")
    {W9 : Nat} {Pre : Pt → Array Value → Prop} {Post : Pt → Array Value → Option Value → Pt → Prop} (hK : Back l R p e below s args y 3 W9 Pre Post)
    {b : Addr} {cellB : Cell} (hcell : T.heap[b]? = some cellB) (hobj : cellB.vm.isStatics = false) (hcls : s.vm.findClass C = some cellB.cls)
    {g : JFrame} (hg : g.method = m) (hsize : g.locals.size = c.maxLocals) {argsL rest : List Value} (hlen : ∀ sig, parseMethodDescriptor y.desc = some sig → argsL.length = sig.parameters.length)
    (hstack : g.stack = argsL.reverse ++ .ref b :: rest) (hW : 2 * g.monitorRoom + (rest.map fun v => v.category).sum ≤ W9) (hdg : decode c.code g.pc = .ok (.invokevirtual index, 3))
    (hpre : ∀ vm₁, s.WarmedH vm₁ → Pre ⟨T.setVm vm₁, locs, cells, slots⟩ (Value.ref b :: argsL).toArray) :
    ∃ (v : Option Value) (vm₁ : Vm) (B : Pt), s.WarmedH vm₁ ∧ Stand p l e R s m args below meth c B.U B.locs B.cells B.slots ∧ Post ⟨T.setVm vm₁, locs, cells, slots⟩ (Value.ref b :: argsL).toArray v B ∧
      ∀ target, Steps p.tables e below (B.U.setTop { g with pc := g.pc + 3, stack := v.toList ++ rest }) target → Steps p.tables e below (T.setTop g) target := by
  obtain ⟨mk, methM, hnamed, hmethM, hstM, habM⟩ := Cond.instanceMethod_spec hinst
  obtain ⟨m8, methM', cM, hn8, hmethM', -, -, -, -, -, -, hsigM⟩ := Cond.codeWith_spec hcode
  cases Option.some.inj (hn8.symm.trans hnamed)
  cases hmethM.symm.trans hmethM'
  obtain ⟨c2, r2, m2, q1, q2, q3, q4, kP, hkP, hkPi⟩ := Cond.selects_spec hsel
  cases hcls.symm.trans q1
  cases (State.methodFound?_of_named hnamed hy).symm.trans q2
  cases hnamed.symm.trans q3
  have hselP : selectMethod e.platform s.vm cellB.cls mk = .method mk := by rw [Launch.admits_selectMethod X.admits]; exact q4
  obtain ⟨vm₁, X₁, hstep₁⟩ := X.invokevirtual hexec hown hlink hnamed hmethM hstM hkP hkPi hy (a := b) (cell := cellB) hcell
    (fun z h => by rw [h] at hobj; cases hobj) hselP hmethM habM hkP hkPi (g := g) hg (argsL := argsL) (rest := rest) (hlen _ hsigM) hstack hdg
  obtain ⟨v, B, X', hpost, hsteps⟩ := hK m meth c ⟨T.setVm vm₁, locs, cells, slots⟩ { g with stack := rest } (.invokevirtual index) mk (Value.ref b :: argsL).toArray X₁ hg hsize hdg hW (X₁.named hnamed) (hpre vm₁ X₁.warmed)
  exact ⟨v, vm₁, B, X₁.warmed, X', hpost, fun target h => hstep₁ _ fun acts => by rw [doInvoke_state]; exact hsteps.trans h⟩
abbrev vx_CVW (R : Room) (s : State) (args : Array Value) (own C : String) (index : Nat) (y : MethodName) (bytes : ByteArray) (maxL : Nat) (ret : Option FieldType) (hh : List (Nat × Nat × Nat × Nat)) (ws : List Cond) (rm : Room) (mc ms n : Nat) : Prop :=
  (rm.cells = mc ∧ rm.slots = ms ∧ rm.frames + 1 ≤ R.frames ∧ 8 + (maxL + 11) + rm.locals ≤ R.locals ∧ (∀ w ∈ ws, ∀ (a' : Array Value) (U : State), s.WarmedH U.vm → w.before a' U = true) ∧ Cond.codeWith y bytes maxL ret hh ∈ ws) ∧
  (Cond.codeWith y bytes maxL ret hh).before args s = true ∧ (Cond.initialized y.cls).before args s = true ∧ (y.cls ≠ "java/lang/invoke/MethodHandle" ∧ y.cls ≠ "java/lang/invoke/VarHandle") ∧
  (∀ sig, parseMethodDescriptor y.desc = some sig → n = sig.parameters.length) ∧ (Cond.methodLink own index y).before args s = true ∧ (Cond.instanceMethod y).before args s = true ∧ (Cond.selects C y y).before args s = true
theorem vx_cwVW {own C : String} {index maxL mc ms : Nat} {y : MethodName} {bytes : ByteArray} {ret : Option FieldType} {hh : List (Nat × Nat × Nat × Nat)} {Ts ws ws' : List Cond} {rm : Room} (n : Nat) (ht : ∀ w ∈ Ts, w.before args s = true) (hT : GoodIn Ts (wsV own index C y ws)) (hw : ws = Cond.codeWith y bytes maxL ret hh :: ws') (hrc : rm.cells = mc) (hrs : rm.slots = ms)
    (hd : y.cls = C ∧ y.cls ≠ "java/lang/invoke/MethodHandle" ∧ y.cls ≠ "java/lang/invoke/VarHandle" ∧ (parseMethodDescriptor y.desc).map (fun d => d.parameters.length) = some n) (hR : rm.frames + 1 ≤ R.frames ∧ 8 + (maxL + 11) + rm.locals ≤ R.locals) :
    vx_CVW R s args own C index y bytes maxL ret hh ws rm mc ms n := by
  obtain ⟨hC, hd⟩ := hd
  subst hC
  have ok : ∀ w ∈ wsV own index y.cls y ws, w.before args s = true := fun w h => ht w (hT w h).1
  have hG : GoodIn Ts ws := fun w h => hT w (by unfold wsV; exact List.mem_append_right _ h)
  have hc : Cond.codeWith y bytes maxL ret hh ∈ ws := by rw [hw]; exact List.mem_cons_self
  refine ⟨⟨hrc, hrs, hR.1, hR.2, pay_in ht hG, hc⟩, ht _ (hG _ hc).1, ok _ (by simp [wsV]), ⟨hd.1, hd.2.1⟩, fun sig h => ?_, ok _ (by simp [wsV]), ok _ (by simp [wsV]), ok _ (by simp [wsV])⟩
  have h2 := hd.2.2
  rw [h] at h2
  exact (Option.some.inj h2).symm
theorem vx_runVW {y : MethodName} {bytes cc : ByteArray} {maxL nL mc ms n index : Nat} {ret : Option FieldType} {hh : List (Nat × Nat × Nat × Nat)} {ws : List Cond} {rm : Room} {Pc : Array Value → State → Prop} {Qc : Array Value → State → Outcome → State → Prop} {free : Addr → Prop} {Ts : List Cond} {own C : String} {b : Addr} {As rest : List Value} {g : JFrame}
    (S : CallFix p m c cc nL s args Ts own) (hM : Met l y ws rm Pc Qc mc ms free) (cw : vx_CVW R s args own C index y bytes maxL ret hh ws rm mc ms n) (hp : PreV s H C b Pc As)
    (hg : g.method = m) (hn : As.length = n) (hsize : g.locals.size = nL) (hstack : g.stack = As.reverse ++ .ref b :: rest) (hW : 2 * g.monitorRoom + (rest.map fun v => v.category).sum ≤ 8) (hdg : decode cc g.pc = .ok (.invokevirtual index, 3)) (hf : cells + mc ≤ R.cells ∧ slots + ms ≤ R.slots) :
    va_Run p l e R s m args below meth c H locs cells slots mc ms g rest (Qc (Value.ref b :: As).toArray) free := by
  obtain ⟨⟨hrc, hrs, hfr, hlo, hws, hcw⟩, hcode, hini, hy, hlen, hl, hin, hse⟩ := cw
  have hK : Back l R p e below s args y 3 8 (PreOf R mc ms Pc) (PostOf Qc mc ms free) := va_backW (hh := hh) (bytes := bytes) (maxL := maxL) (ret := ret) hM hp.1 hrc hrs hfr hlo hws hcw (fun a' U hW => word_at hW (Or.inl (by first | rfl | simp [Cond.onTables, Cond.keeps, Cond.steady])) hini)
  obtain ⟨hx, hb, hml, ho, -⟩ := S
  obtain ⟨-, ⟨cellB, hcB, hoB, hclB⟩, hPc⟩ := hp
  intro T hT X
  obtain ⟨v, vm₁, ⟨U', l2, c2, s2⟩, hW₁, X', ⟨g', mk, t, L, e1, e2, hq, h1, hL, h2, h3⟩, st⟩ := vx_callVW X hx (C := C) (hh := hh) (bytes := bytes) (maxL := maxL) (ret := ret) ho hl hin hse hcode hy hK (by rw [hT]; exact hcB) hoB hclB hg (hsize.trans hml.symm) (argsL := As) (rest := rest) (fun sig h => hn.trans (hlen sig h)) hstack hW (by rw [hb]; exact hdg)
    (fun vm₁ hW₁ => ⟨hf.1, hf.2, hPc (T.setVm vm₁) hT hW₁⟩)
  dsimp only [Pt.U, Pt.locs, Pt.cells, Pt.slots] at X' e1 e2 h1 h2 h3 st
  subst h1; subst h2; subst h3
  exact ⟨v, (T.setVm vm₁).calling g' mk (Value.ref b :: As).toArray, t, U', L, hT, X', hL, e1, e2, hq, st⟩
section
variable {y : MethodName} {bytes cc : ByteArray} {maxL nL mc ms n index : Nat} {ret : Option FieldType} {ws : List Cond} {rm : Room} {Pc : Array Value → State → Prop} {Qc : Array Value → State → Outcome → State → Prop} {XC : String → State → State → Prop} {free : Addr → Prop} {Ts : List Cond} {own C : String} {b : Addr} {As rest : List Value} {g : JFrame}
theorem vx_runVX {hh : List (Nat × Nat × Nat × Nat)} (S : CallFix p m c cc nL s args Ts own) (hM : vx_Met l y ws rm Pc Qc XC mc ms free) (cw : vx_CVW R s args own C index y bytes maxL ret hh ws rm mc ms n) (hp : PreV s H C b Pc As)
    (hg : g.method = m) (hn : As.length = n) (hsize : g.locals.size = nL) (hstack : g.stack = As.reverse ++ .ref b :: rest) (hW : 2 * g.monitorRoom + (rest.map fun v => v.category).sum ≤ 8) (hdg : decode cc g.pc = .ok (.invokevirtual index, 3)) (hf : cells + mc ≤ R.cells ∧ slots + ms ≤ R.slots) :
    vx_Run p l e R s m args below meth c H locs cells slots mc ms g rest (Qc (Value.ref b :: As).toArray) XC free := by
  obtain ⟨⟨hrc, hrs, hfr, hlo, hws, hcw⟩, hcode, hini, hy, hlen, hl, hin, hse⟩ := cw
  have hK : vx_Back l R p e below s args y 3 8 (PreOf R mc ms Pc) (PostOf Qc mc ms free) (vx_Post XC mc ms free) := vx_backW (hh := hh) (bytes := bytes) (maxL := maxL) (ret := ret) hM hp.1 hrc hrs hfr hlo hws hcw (fun a' U hW => word_at hW (Or.inl (by first | rfl | simp [Cond.onTables, Cond.keeps, Cond.steady])) hini)
  obtain ⟨hx, hb, hml, ho, -⟩ := S
  obtain ⟨-, ⟨cellB, hcB, hoB, hclB⟩, hPc⟩ := hp
  intro T hT X
  rcases vx_callVX X hx (C := C) (hh := hh) (bytes := bytes) (maxL := maxL) (ret := ret) ho hl hin hse hcode hy hK (by rw [hT]; exact hcB) hoB hclB hg (hsize.trans hml.symm) (argsL := As) (rest := rest) (fun sig h => hn.trans (hlen sig h)) hstack hW (by rw [hb]; exact hdg)
    (fun vm₁ hW₁ => ⟨hf.1, hf.2, hPc (T.setVm vm₁) hT hW₁⟩) with ⟨v, vm₁, ⟨U', l2, c2, s2⟩, hW₁, X', ⟨g', mk, t, L, e1, e2, hq, h1, hL, h2, h3⟩, st⟩ | ⟨q, vm₁, ⟨U', l2, c2, s2⟩, hW₁, X', ⟨g', mk, t, L, E, ce, e1, e2, hq, hce, hcv, hcl, h1, hL, h2, h3⟩, st⟩
  · dsimp only [Pt.U, Pt.locs, Pt.cells, Pt.slots] at X' e1 e2 h1 h2 h3 st
    subst h1; subst h2; subst h3
    exact Or.inl ⟨v, (T.setVm vm₁).calling g' mk (Value.ref b :: As).toArray, t, U', L, hT, X', hL, e1, e2, hq, st⟩
  · dsimp only [Pt.U, Pt.locs, Pt.cells, Pt.slots] at X' e1 e2 h1 h2 h3 st hcl
    subst h1; subst h2; subst h3
    exact Or.inr ⟨q, (T.setVm vm₁).calling g' mk (Value.ref b :: As).toArray, t, U', L, E, ce, hT, X', hL, e1, e2, hq, hce, hcv, vx_cls hW₁ hcl, st⟩
theorem vx_runSX {hh : List (Nat × Nat × Nat × Nat)} (S : CallFix p m c cc nL s args Ts own) (hM : vx_Met l y ws rm Pc Qc XC mc ms free) (cw : vx_CSW R s args own index y bytes maxL ret hh ws rm mc ms n) (hp : PreS s H Pc As)
    (hg : g.method = m) (hn : As.length = n) (hsize : g.locals.size = nL) (hstack : g.stack = As.reverse ++ rest) (hW : 2 * g.monitorRoom + (rest.map fun v => v.category).sum ≤ 8) (hdg : decode cc g.pc = .ok (.invokestatic index, 3)) (hf : cells + mc ≤ R.cells ∧ slots + ms ≤ R.slots) :
    vx_Run p l e R s m args below meth c H locs cells slots mc ms g rest (Qc As.toArray) XC free := by
  obtain ⟨⟨hrc, hrs, hfr, hlo, hws, hcw⟩, hcode, hini, hy, hlen, hl, hstt⟩ := cw
  have hK : vx_Back l R p e below s args y 3 8 (PreOf R mc ms Pc) (PostOf Qc mc ms free) (vx_Post XC mc ms free) := vx_backW (hh := hh) (bytes := bytes) (maxL := maxL) (ret := ret) hM hp.1 hrc hrs hfr hlo hws hcw (fun a' U hW => word_at hW (Or.inl (by first | rfl | simp [Cond.onTables, Cond.keeps, Cond.steady])) hini)
  obtain ⟨hx, hb, hml, ho, -⟩ := S
  intro T hT X
  rcases vx_callSX X hx (hh := hh) (bytes := bytes) (maxL := maxL) (ret := ret) ho hl hstt hini hcode hy hK hg (hsize.trans hml.symm) (argsL := As) (rest := rest) (fun sig h => hn.trans (hlen sig h)) hstack hW (by rw [hb]; exact hdg)
    (fun vm₁ hW₁ => ⟨hf.1, hf.2, hp.2 (T.setVm vm₁) hT hW₁⟩) with ⟨v, vm₁, ⟨U', l2, c2, s2⟩, hW₁, X', ⟨g', mk, t, L, e1, e2, hq, h1, hL, h2, h3⟩, st⟩ | ⟨q, vm₁, ⟨U', l2, c2, s2⟩, hW₁, X', ⟨g', mk, t, L, E, ce, e1, e2, hq, hce, hcv, hcl, h1, hL, h2, h3⟩, st⟩
  · dsimp only [Pt.U, Pt.locs, Pt.cells, Pt.slots] at X' e1 e2 h1 h2 h3 st
    subst h1; subst h2; subst h3
    exact Or.inl ⟨v, (T.setVm vm₁).calling g' mk As.toArray, t, U', L, hT, X', hL, e1, e2, hq, st⟩
  · dsimp only [Pt.U, Pt.locs, Pt.cells, Pt.slots] at X' e1 e2 h1 h2 h3 st hcl
    subst h1; subst h2; subst h3
    exact Or.inr ⟨q, (T.setVm vm₁).calling g' mk As.toArray, t, U', L, E, ce, hT, X', hL, e1, e2, hq, hce, hcv, vx_cls hW₁ hcl, st⟩
end
end VXH
theorem vx_ofWH {l : Launch} {y : MethodName} {ws ws' : List Cond} {rm : Room} {Pc : Array Value → State → Prop} {Qc : Array Value → State → Outcome → State → Prop} {XC : String → State → State → Prop} {mc ms : Nat} {free : Addr → Prop} {cc : ByteArray} {maxL : Nat} {ret : Option FieldType} {hh : List (Nat × Nat × Nat × Nat)}
    (hy : plainName y.cls = true) (hw : ws = Cond.codeWith y cc maxL ret hh :: ws')
    (body : ∀ p e s m args below meth c s₁, BodyLoose p l y (headSpec ws rm) cc maxL ret e s m args below meth c s₁ → c.maxLocals = maxL → Pc args s →
      W p l e (headSpec ws rm).room s m args below meth c s.heap [] 0 0 (vx_MQ below Qc XC args s mc ms free) (entryFrame m args maxL)) : vx_Met l y ws rm Pc Qc XC mc ms free := by
  refine MetFree.of_bodyS (code := cc) (maxLocals := maxL) (ret := ret) hy ?_ ?_
  · intro args s m h hn
    obtain ⟨m9, meth, c, hn9, h1, h2, h3, h4, -, h5, h6, -⟩ := Cond.codeWith_spec (atoms_spec (ws := ws) h _ (by rw [hw]; exact List.mem_cons_self))
    cases hn.symm.trans hn9
    exact ⟨meth, c, h1, h2, h3, h4, h5, h6⟩
  · intro p e s m args below meth c s₁ B hml hP _
    have hh0 : s₁.heap = s.heap := by rw [B.state]; rfl
    obtain ⟨t, a1, o, b1, b2, b3⟩ := body p e s m args below meth c s₁ B hml hP s₁ hh0 (Stand.of_body B)
    exact ⟨t, o, a1, b1, b2, b3⟩
/-! ===== END ===== -/
end
section
/-! ===== BEGIN printed: names, fields, word lists, decode rows ===== -/
def RX0 : String := "StarConsole$Comets"
def TX0 : u_T := fun k => match k with
  | 0 => ("StarConsole$Comets", "size", "I", false)
  | 1 => ("StarConsole$Comets", "angle", "[I", true)
  | 2 => ("StarConsole$Comets", "speed", "[I", true)
  | _ => ("StarConsole$Comets", "left", "[I", true)
def tyX0 : Nat → FieldType := fun k => match k with
  | 0 => .int
  | 1 => .array .int
  | 2 => .array .int
  | _ => .array .int
abbrev wsX00 : List Cond := u_ws RX0 TX0 4
theorem nmX0 : ∀ a, a < 4 → ∀ b, b < 4 → a ≠ b → (TX0 a).2.1 ≠ (TX0 b).2.1 := by decide +kernel
theorem tyX0_ok : ∀ k, k < 4 → parseFieldDescriptor (TX0 k).2.2.1 = some (tyX0 k) := by decide +kernel
abbrev cX0_init : ByteArray := prog_2_method_1_code
def yX0_init : MethodName := ⟨RX0, "<init>", "()V"⟩
abbrev cX0_has : ByteArray := prog_2_method_2_code
def yX0_has : MethodName := ⟨RX0, "has", "(I)Z"⟩
abbrev cX0_addIfRoom : ByteArray := prog_2_method_3_code
def yX0_addIfRoom : MethodName := ⟨RX0, "addIfRoom", "(II)V"⟩
abbrev cX0_goOn : ByteArray := prog_2_method_4_code
def yX0_goOn : MethodName := ⟨RX0, "goOn", "()V"⟩
abbrev cX0_become : ByteArray := prog_2_method_5_code
def yX0_become : MethodName := ⟨RX0, "become", "(LStarConsole$Comets;)V"⟩
def RX1 : String := "StarConsole$Cues"
def TX1 : u_T := fun k => match k with
  | 0 => ("StarConsole$Cues", "size", "I", false)
  | 1 => ("StarConsole$Cues", "time", "[I", true)
  | 2 => ("StarConsole$Cues", "kind", "[I", true)
  | 3 => ("StarConsole$Cues", "a", "[I", true)
  | _ => ("StarConsole$Cues", "b", "[I", true)
def tyX1 : Nat → FieldType := fun k => match k with
  | 0 => .int
  | 1 => .array .int
  | 2 => .array .int
  | 3 => .array .int
  | _ => .array .int
abbrev wsX10 : List Cond := u_ws RX1 TX1 5
theorem nmX1 : ∀ a, a < 5 → ∀ b, b < 5 → a ≠ b → (TX1 a).2.1 ≠ (TX1 b).2.1 := by decide +kernel
theorem tyX1_ok : ∀ k, k < 5 → parseFieldDescriptor (TX1 k).2.2.1 = some (tyX1 k) := by decide +kernel
abbrev cX1_init : ByteArray := prog_3_method_1_code
def yX1_init : MethodName := ⟨RX1, "<init>", "()V"⟩
abbrev cX1_has : ByteArray := prog_3_method_2_code
def yX1_has : MethodName := ⟨RX1, "has", "(I)Z"⟩
abbrev cX1_add : ByteArray := prog_3_method_3_code
def yX1_add : MethodName := ⟨RX1, "add", "(IIII)I"⟩
abbrev cX1_timeOf : ByteArray := prog_3_method_4_code
def yX1_timeOf : MethodName := ⟨RX1, "timeOf", "(I)I"⟩
abbrev cX1_firstFrom : ByteArray := prog_3_method_5_code
def yX1_firstFrom : MethodName := ⟨RX1, "firstFrom", "(I)I"⟩
abbrev cX1_holdWithin : ByteArray := prog_3_method_6_code
def yX1_holdWithin : MethodName := ⟨RX1, "holdWithin", "(II)Z"⟩
abbrev cX1_fact : ByteArray := prog_3_method_7_code
def yX1_fact : MethodName := ⟨RX1, "fact", "(II)I"⟩
def RX2 : String := "StarConsole$Dimmers"
def TX2 : u_T := fun k => match k with
  | 0 => ("StarConsole$Dimmers", "size", "I", false)
  | 1 => ("StarConsole$Dimmers", "part", "[I", true)
  | 2 => ("StarConsole$Dimmers", "level", "[I", true)
  | 3 => ("StarConsole$Dimmers", "aim", "[I", true)
  | 4 => ("StarConsole$Dimmers", "pace", "[I", true)
  | _ => ("StarConsole$Dimmers", "life", "[I", true)
def tyX2 : Nat → FieldType := fun k => match k with
  | 0 => .int
  | 1 => .array .int
  | 2 => .array .int
  | 3 => .array .int
  | 4 => .array .int
  | _ => .array .int
abbrev wsX20 : List Cond := u_ws RX2 TX2 6
theorem nmX2 : ∀ a, a < 6 → ∀ b, b < 6 → a ≠ b → (TX2 a).2.1 ≠ (TX2 b).2.1 := by decide +kernel
theorem tyX2_ok : ∀ k, k < 6 → parseFieldDescriptor (TX2 k).2.2.1 = some (tyX2 k) := by decide +kernel
abbrev cX2_init : ByteArray := prog_4_method_1_code
def yX2_init : MethodName := ⟨RX2, "<init>", "()V"⟩
abbrev cX2_has : ByteArray := prog_4_method_2_code
def yX2_has : MethodName := ⟨RX2, "has", "(I)Z"⟩
abbrev cX2_add : ByteArray := prog_4_method_3_code
def yX2_add : MethodName := ⟨RX2, "add", "(III)I"⟩
abbrev cX2_changeLamp : ByteArray := prog_4_method_4_code
def yX2_changeLamp : MethodName := ⟨RX2, "changeLamp", "(II)I"⟩
abbrev cX2_changeAim : ByteArray := prog_4_method_5_code
def yX2_changeAim : MethodName := ⟨RX2, "changeAim", "(II)I"⟩
abbrev cX2_hasLife : ByteArray := prog_4_method_6_code
def yX2_hasLife : MethodName := ⟨RX2, "hasLife", "(I)Z"⟩
abbrev cX2_goOn : ByteArray := prog_4_method_7_code
def yX2_goOn : MethodName := ⟨RX2, "goOn", "()V"⟩
abbrev cX2_darkenWithoutLife : ByteArray := prog_4_method_8_code
def yX2_darkenWithoutLife : MethodName := ⟨RX2, "darkenWithoutLife", "(I)V"⟩
abbrev cX2_approached : ByteArray := prog_4_method_9_code
def yX2_approached : MethodName := ⟨RX2, "approached", "(III)I"⟩
abbrev cX2_glareOn : ByteArray := prog_4_method_10_code
def yX2_glareOn : MethodName := ⟨RX2, "glareOn", "(I)I"⟩
abbrev cX2_fact : ByteArray := prog_4_method_11_code
def yX2_fact : MethodName := ⟨RX2, "fact", "(II)I"⟩
abbrev cX2_become : ByteArray := prog_4_method_12_code
def yX2_become : MethodName := ⟨RX2, "become", "(LStarConsole$Dimmers;)V"⟩
def RX3 : String := "StarConsole$Show"
def TX3 : u_T := fun k => match k with
  | 0 => ("StarConsole$Show", "tick", "I", false)
  | 1 => ("StarConsole$Show", "clock", "I", false)
  | 2 => ("StarConsole$Show", "clockRuns", "Z", false)
  | 3 => ("StarConsole$Show", "ballAngle", "I", false)
  | 4 => ("StarConsole$Show", "ballSpeed", "I", false)
  | 5 => ("StarConsole$Show", "line", "I", false)
  | 6 => ("StarConsole$Show", "speechLeft", "I", false)
  | 7 => ("StarConsole$Show", "dimmers", "LStarConsole$Dimmers;", true)
  | _ => ("StarConsole$Show", "comets", "LStarConsole$Comets;", true)
def tyX3 : Nat → FieldType := fun k => match k with
  | 0 => .int
  | 1 => .int
  | 2 => .boolean
  | 3 => .int
  | 4 => .int
  | 5 => .int
  | 6 => .int
  | 7 => .object "StarConsole$Dimmers"
  | _ => .object "StarConsole$Comets"
abbrev wsX30 : List Cond := u_ws RX3 TX3 9
theorem nmX3 : ∀ a, a < 9 → ∀ b, b < 9 → a ≠ b → (TX3 a).2.1 ≠ (TX3 b).2.1 := by decide +kernel
theorem tyX3_ok : ∀ k, k < 9 → parseFieldDescriptor (TX3 k).2.2.1 = some (tyX3 k) := by decide +kernel
abbrev cX3_init : ByteArray := prog_5_method_1_code
def yX3_init : MethodName := ⟨RX3, "<init>", "()V"⟩
abbrev cX3_become : ByteArray := prog_5_method_2_code
def yX3_become : MethodName := ⟨RX3, "become", "(LStarConsole$Show;)V"⟩
abbrev cX3_goOnFor : ByteArray := prog_5_method_3_code
def yX3_goOnFor : MethodName := ⟨RX3, "goOnFor", "(ILStarConsole$Cues;)I"⟩
abbrev cX3_goOn : ByteArray := prog_5_method_4_code
def yX3_goOn : MethodName := ⟨RX3, "goOn", "(LStarConsole$Cues;)I"⟩
abbrev cX3_runCues : ByteArray := prog_5_method_5_code
def yX3_runCues : MethodName := ⟨RX3, "runCues", "(LStarConsole$Cues;)I"⟩
abbrev cX3_obey : ByteArray := prog_5_method_6_code
def yX3_obey : MethodName := ⟨RX3, "obey", "(III)V"⟩
abbrev cX3_speakOn : ByteArray := prog_5_method_7_code
def yX3_speakOn : MethodName := ⟨RX3, "speakOn", "()V"⟩
abbrev cX3_fact : ByteArray := prog_5_method_8_code
def yX3_fact : MethodName := ⟨RX3, "fact", "(ILStarConsole$Stars;LStarConsole$Cues;)I"⟩
abbrev cX3_factOfStar : ByteArray := prog_5_method_9_code
def yX3_factOfStar : MethodName := ⟨RX3, "factOfStar", "(LStarConsole$Stars;II)I"⟩
abbrev cX3_factOfComet : ByteArray := prog_5_method_10_code
def yX3_factOfComet : MethodName := ⟨RX3, "factOfComet", "(II)I"⟩
abbrev cX3_starsSeen : ByteArray := prog_5_method_11_code
def yX3_starsSeen : MethodName := ⟨RX3, "starsSeen", "(LStarConsole$Stars;)I"⟩
abbrev cX3_cometsSeen : ByteArray := prog_5_method_12_code
def yX3_cometsSeen : MethodName := ⟨RX3, "cometsSeen", "()I"⟩
abbrev cX3_starSeen : ByteArray := prog_5_method_13_code
def yX3_starSeen : MethodName := ⟨RX3, "starSeen", "(LStarConsole$Stars;I)Z"⟩
abbrev cX3_cometSeen : ByteArray := prog_5_method_14_code
def yX3_cometSeen : MethodName := ⟨RX3, "cometSeen", "(I)Z"⟩
abbrev cX3_outshines : ByteArray := prog_5_method_15_code
def yX3_outshines : MethodName := ⟨RX3, "outshines", "(II)Z"⟩
def RX4 : String := "StarConsole$Stars"
def TX4 : u_T := fun k => match k with
  | 0 => ("StarConsole$Stars", "size", "I", false)
  | 1 => ("StarConsole$Stars", "degree", "[I", true)
  | _ => ("StarConsole$Stars", "light", "[I", true)
def tyX4 : Nat → FieldType := fun k => match k with
  | 0 => .int
  | 1 => .array .int
  | _ => .array .int
abbrev wsX40 : List Cond := u_ws RX4 TX4 3
theorem nmX4 : ∀ a, a < 3 → ∀ b, b < 3 → a ≠ b → (TX4 a).2.1 ≠ (TX4 b).2.1 := by decide +kernel
theorem tyX4_ok : ∀ k, k < 3 → parseFieldDescriptor (TX4 k).2.2.1 = some (tyX4 k) := by decide +kernel
abbrev cX4_init : ByteArray := prog_6_method_1_code
def yX4_init : MethodName := ⟨RX4, "<init>", "()V"⟩
abbrev cX4_has : ByteArray := prog_6_method_2_code
def yX4_has : MethodName := ⟨RX4, "has", "(I)Z"⟩
abbrev cX4_add : ByteArray := prog_6_method_3_code
def yX4_add : MethodName := ⟨RX4, "add", "(II)I"⟩
def RX5 : String := "StarConsole"
def TX5 : u_T := fun k => match k with
  | 0 => ("StarConsole", "stars", "LStarConsole$Stars;", true)
  | 1 => ("StarConsole", "cues", "LStarConsole$Cues;", true)
  | 2 => ("StarConsole", "show", "LStarConsole$Show;", true)
  | _ => ("StarConsole", "ahead", "LStarConsole$Show;", true)
def tyX5 : Nat → FieldType := fun k => match k with
  | 0 => .object "StarConsole$Stars"
  | 1 => .object "StarConsole$Cues"
  | 2 => .object "StarConsole$Show"
  | _ => .object "StarConsole$Show"
abbrev wsX50 : List Cond := u_ws RX5 TX5 4
theorem nmX5 : ∀ a, a < 4 → ∀ b, b < 4 → a ≠ b → (TX5 a).2.1 ≠ (TX5 b).2.1 := by decide +kernel
theorem tyX5_ok : ∀ k, k < 4 → parseFieldDescriptor (TX5 k).2.2.1 = some (tyX5 k) := by decide +kernel
abbrev cX5_init : ByteArray := prog_1_method_1_code
def yX5_init : MethodName := ⟨RX5, "<init>", "()V"⟩
abbrev cX5_dimmer : ByteArray := prog_1_method_2_code
def yX5_dimmer : MethodName := ⟨RX5, "dimmer", "(III)I"⟩
abbrev cX5_lamp : ByteArray := prog_1_method_3_code
def yX5_lamp : MethodName := ⟨RX5, "lamp", "(II)I"⟩
abbrev cX5_star : ByteArray := prog_1_method_4_code
def yX5_star : MethodName := ⟨RX5, "star", "(II)I"⟩
abbrev cX5_cue : ByteArray := prog_1_method_5_code
def yX5_cue : MethodName := ⟨RX5, "cue", "(IIII)I"⟩
abbrev cX5_run : ByteArray := prog_1_method_6_code
def yX5_run : MethodName := ⟨RX5, "run", "()Z"⟩
abbrev cX5_jump : ByteArray := prog_1_method_7_code
def yX5_jump : MethodName := ⟨RX5, "jump", "(I)I"⟩
abbrev cX5_fade : ByteArray := prog_1_method_8_code
def yX5_fade : MethodName := ⟨RX5, "fade", "(II)I"⟩
abbrev cX5_pass : ByteArray := prog_1_method_9_code
def yX5_pass : MethodName := ⟨RX5, "pass", "(I)I"⟩
abbrev cX5_told : ByteArray := prog_1_method_10_code
def yX5_told : MethodName := ⟨RX5, "told", "(II)I"⟩
abbrev cX5_glare : ByteArray := prog_1_method_11_code
def yX5_glare : MethodName := ⟨RX5, "glare", "(I)I"⟩
abbrev cX5_about : ByteArray := prog_1_method_12_code
def yX5_about : MethodName := ⟨RX5, "about", "(II)I"⟩
abbrev cX5_comet : ByteArray := prog_1_method_13_code
def yX5_comet : MethodName := ⟨RX5, "comet", "(II)I"⟩
abbrev cX5_count : ByteArray := prog_1_method_14_code
def yX5_count : MethodName := ⟨RX5, "count", "(I)I"⟩
abbrev cX5_next : ByteArray := prog_1_method_15_code
def yX5_next : MethodName := ⟨RX5, "next", "()I"⟩
abbrev cX5_when : ByteArray := prog_1_method_16_code
def yX5_when : MethodName := ⟨RX5, "when", "(I)I"⟩
abbrev cX5_lasts : ByteArray := prog_1_method_17_code
def yX5_lasts : MethodName := ⟨RX5, "lasts", "(I)I"⟩
abbrev cX5_foresee : ByteArray := prog_1_method_18_code
def yX5_foresee : MethodName := ⟨RX5, "foresee", "(II)I"⟩
abbrev cX5_darkest : ByteArray := prog_1_method_19_code
def yX5_darkest : MethodName := ⟨RX5, "darkest", "()I"⟩
abbrev cX5_mean : ByteArray := prog_1_method_20_code
def yX5_mean : MethodName := ⟨RX5, "mean", "()D"⟩
abbrev cX5_digest : ByteArray := prog_1_method_21_code
def yX5_digest : MethodName := ⟨RX5, "digest", "()J"⟩
abbrev cX5_joinedDimmers : ByteArray := prog_1_method_22_code
def yX5_joinedDimmers : MethodName := ⟨RX5, "joinedDimmers", "(J)J"⟩
abbrev cX5_joinedStars : ByteArray := prog_1_method_23_code
def yX5_joinedStars : MethodName := ⟨RX5, "joinedStars", "(J)J"⟩
abbrev cX5_joinedComets : ByteArray := prog_1_method_24_code
def yX5_joinedComets : MethodName := ⟨RX5, "joinedComets", "(J)J"⟩
abbrev cX5_joinedCues : ByteArray := prog_1_method_25_code
def yX5_joinedCues : MethodName := ⟨RX5, "joinedCues", "(J)J"⟩
abbrev cX5_joined : ByteArray := prog_1_method_26_code
def yX5_joined : MethodName := ⟨RX5, "joined", "(JI)J"⟩
abbrev cX5_suits : ByteArray := prog_1_method_27_code
def yX5_suits : MethodName := ⟨RX5, "suits", "(III)Z"⟩
abbrev cX5_foreseeable : ByteArray := prog_1_method_28_code
def yX5_foreseeable : MethodName := ⟨RX5, "foreseeable", "(I)Z"⟩
abbrev cX5_within : ByteArray := prog_1_method_29_code
def yX5_within : MethodName := ⟨RX5, "within", "(III)Z"⟩
abbrev cX5_turned : ByteArray := prog_1_method_30_code
def yX5_turned : MethodName := ⟨RX5, "turned", "(II)I"⟩
def RX6 : String := "StarConsoleModel"
def TX6 : u_T := fun k => match k with
  | 0 => ("StarConsoleModel", "thrown", "I", false)
  | 1 => ("StarConsoleModel", "dimmers", "I", false)
  | 2 => ("StarConsoleModel", "stars", "I", false)
  | 3 => ("StarConsoleModel", "cues", "I", false)
  | 4 => ("StarConsoleModel", "lamps", "[I", true)
  | 5 => ("StarConsoleModel", "sky", "[I", true)
  | 6 => ("StarConsoleModel", "tails", "[I", true)
  | 7 => ("StarConsoleModel", "show", "[I", true)
  | _ => ("StarConsoleModel", "numbers", "[I", true)
def tyX6 : Nat → FieldType := fun k => match k with
  | 0 => .int
  | 1 => .int
  | 2 => .int
  | 3 => .int
  | 4 => .array .int
  | 5 => .array .int
  | 6 => .array .int
  | 7 => .array .int
  | _ => .array .int
abbrev wsX60 : List Cond := u_ws RX6 TX6 9
theorem nmX6 : ∀ a, a < 9 → ∀ b, b < 9 → a ≠ b → (TX6 a).2.1 ≠ (TX6 b).2.1 := by decide +kernel
theorem tyX6_ok : ∀ k, k < 9 → parseFieldDescriptor (TX6 k).2.2.1 = some (tyX6 k) := by decide +kernel
abbrev cX6_init : ByteArray := prog_8_method_1_code
def yX6_init : MethodName := ⟨RX6, "<init>", "()V"⟩
abbrev cX6_thrown : ByteArray := prog_8_method_2_code
def yX6_thrown : MethodName := ⟨RX6, "thrown", "()I"⟩
abbrev cX6_fail : ByteArray := prog_8_method_3_code
def yX6_fail : MethodName := ⟨RX6, "fail", "(I)I"⟩
abbrev cX6_isIn : ByteArray := prog_8_method_4_code
def yX6_isIn : MethodName := ⟨RX6, "isIn", "(III)Z"⟩
abbrev cX6_isDimmer : ByteArray := prog_8_method_5_code
def yX6_isDimmer : MethodName := ⟨RX6, "isDimmer", "(I)Z"⟩
abbrev cX6_la : ByteArray := prog_8_method_6_code
def yX6_la : MethodName := ⟨RX6, "la", "(II)I"⟩
abbrev cX6_put : ByteArray := prog_8_method_7_code
def yX6_put : MethodName := ⟨RX6, "put", "(III)V"⟩
abbrev cX6_dimmer : ByteArray := prog_8_method_8_code
def yX6_dimmer : MethodName := ⟨RX6, "dimmer", "(III)I"⟩
abbrev cX6_lamp : ByteArray := prog_8_method_9_code
def yX6_lamp : MethodName := ⟨RX6, "lamp", "(II)I"⟩
abbrev cX6_star : ByteArray := prog_8_method_10_code
def yX6_star : MethodName := ⟨RX6, "star", "(II)I"⟩
abbrev cX6_isCue : ByteArray := prog_8_method_11_code
def yX6_isCue : MethodName := ⟨RX6, "isCue", "(III)Z"⟩
abbrev cX6_cue : ByteArray := prog_8_method_12_code
def yX6_cue : MethodName := ⟨RX6, "cue", "(IIII)I"⟩
abbrev cX6_run : ByteArray := prog_8_method_13_code
def yX6_run : MethodName := ⟨RX6, "run", "()Z"⟩
abbrev cX6_jump : ByteArray := prog_8_method_14_code
def yX6_jump : MethodName := ⟨RX6, "jump", "(I)I"⟩
abbrev cX6_fade : ByteArray := prog_8_method_15_code
def yX6_fade : MethodName := ⟨RX6, "fade", "(II)I"⟩
abbrev cX6_carryOut : ByteArray := prog_8_method_16_code
def yX6_carryOut : MethodName := ⟨RX6, "carryOut", "(I)V"⟩
abbrev cX6_round : ByteArray := prog_8_method_17_code
def yX6_round : MethodName := ⟨RX6, "round", "(I)I"⟩
abbrev cX6_glow : ByteArray := prog_8_method_18_code
def yX6_glow : MethodName := ⟨RX6, "glow", "(I)V"⟩
abbrev cX6_tickOn : ByteArray := prog_8_method_19_code
def yX6_tickOn : MethodName := ⟨RX6, "tickOn", "()I"⟩
abbrev cX6_ticksOn : ByteArray := prog_8_method_20_code
def yX6_ticksOn : MethodName := ⟨RX6, "ticksOn", "(I)I"⟩
abbrev cX6_pass : ByteArray := prog_8_method_21_code
def yX6_pass : MethodName := ⟨RX6, "pass", "(I)I"⟩
abbrev cX6_told : ByteArray := prog_8_method_22_code
def yX6_told : MethodName := ⟨RX6, "told", "(II)I"⟩
abbrev cX6_glareOf : ByteArray := prog_8_method_23_code
def yX6_glareOf : MethodName := ⟨RX6, "glareOf", "(I)I"⟩
abbrev cX6_glare : ByteArray := prog_8_method_24_code
def yX6_glare : MethodName := ⟨RX6, "glare", "(I)I"⟩
abbrev cX6_stands : ByteArray := prog_8_method_25_code
def yX6_stands : MethodName := ⟨RX6, "stands", "(I)I"⟩
abbrev cX6_isSeen : ByteArray := prog_8_method_26_code
def yX6_isSeen : MethodName := ⟨RX6, "isSeen", "(II)Z"⟩
abbrev cX6_starTold : ByteArray := prog_8_method_27_code
def yX6_starTold : MethodName := ⟨RX6, "starTold", "(II)I"⟩
abbrev cX6_about : ByteArray := prog_8_method_28_code
def yX6_about : MethodName := ⟨RX6, "about", "(II)I"⟩
abbrev cX6_cometTold : ByteArray := prog_8_method_29_code
def yX6_cometTold : MethodName := ⟨RX6, "cometTold", "(II)I"⟩
abbrev cX6_comet : ByteArray := prog_8_method_30_code
def yX6_comet : MethodName := ⟨RX6, "comet", "(II)I"⟩
abbrev cX6_counted : ByteArray := prog_8_method_31_code
def yX6_counted : MethodName := ⟨RX6, "counted", "(I)I"⟩
abbrev cX6_count : ByteArray := prog_8_method_32_code
def yX6_count : MethodName := ⟨RX6, "count", "(I)I"⟩
abbrev cX6_next : ByteArray := prog_8_method_33_code
def yX6_next : MethodName := ⟨RX6, "next", "()I"⟩
abbrev cX6_when : ByteArray := prog_8_method_34_code
def yX6_when : MethodName := ⟨RX6, "when", "(I)I"⟩
abbrev cX6_kept : ByteArray := prog_8_method_35_code
def yX6_kept : MethodName := ⟨RX6, "kept", "()[[I"⟩
abbrev cX6_bringBack : ByteArray := prog_8_method_36_code
def yX6_bringBack : MethodName := ⟨RX6, "bringBack", "([[I)V"⟩
abbrev cX6_lasts : ByteArray := prog_8_method_37_code
def yX6_lasts : MethodName := ⟨RX6, "lasts", "(I)I"⟩
abbrev cX6_foresee : ByteArray := prog_8_method_38_code
def yX6_foresee : MethodName := ⟨RX6, "foresee", "(II)I"⟩
abbrev cX6_darkest : ByteArray := prog_8_method_39_code
def yX6_darkest : MethodName := ⟨RX6, "darkest", "()I"⟩
abbrev cX6_mean : ByteArray := prog_8_method_40_code
def yX6_mean : MethodName := ⟨RX6, "mean", "()D"⟩
abbrev cX6_digest : ByteArray := prog_8_method_41_code
def yX6_digest : MethodName := ⟨RX6, "digest", "()J"⟩
def RJx8e188 : String := "java/lang/Cloneable"
def TJx8e188 : u_T := fun k => match k with
  | _ => ("", "", "", false)
def tyJx8e188 : Nat → FieldType := fun k => match k with
  | _ => .int
abbrev wsJx8e1880 : List Cond := u_ws RJx8e188 TJx8e188 0
theorem nmJx8e188 : ∀ a, a < 0 → ∀ b, b < 0 → a ≠ b → (TJx8e188 a).2.1 ≠ (TJx8e188 b).2.1 := by decide +kernel
theorem tyJx8e188_ok : ∀ k, k < 0 → parseFieldDescriptor (TJx8e188 k).2.2.1 = some (tyJx8e188 k) := by decide +kernel
def RJ9 : String := "java/lang/Math"
def TJ9 : u_T := fun k => match k with
  | _ => ("", "", "", false)
def tyJ9 : Nat → FieldType := fun k => match k with
  | _ => .int
abbrev wsJ90 : List Cond := u_ws RJ9 TJ9 0
theorem nmJ9 : ∀ a, a < 0 → ∀ b, b < 0 → a ≠ b → (TJ9 a).2.1 ≠ (TJ9 b).2.1 := by decide +kernel
theorem tyJ9_ok : ∀ k, k < 0 → parseFieldDescriptor (TJ9 k).2.2.1 = some (tyJ9 k) := by decide +kernel
abbrev cJ9_floorMod_7cf53 : ByteArray := prog_14_method_50_code
def yJ9_floorMod_7cf53 : MethodName := ⟨RJ9, "floorMod", "(II)I"⟩
abbrev cJ9_max_7cf53 : ByteArray := prog_14_method_65_code
def yJ9_max_7cf53 : MethodName := ⟨RJ9, "max", "(II)I"⟩
abbrev cJ9_min_7cf53 : ByteArray := prog_14_method_69_code
def yJ9_min_7cf53 : MethodName := ⟨RJ9, "min", "(II)I"⟩
def RJ0 : String := "java/lang/String"
def TJ0 : u_T := fun k => match k with
  | _ => ("", "", "", false)
def tyJ0 : Nat → FieldType := fun k => match k with
  | _ => .int
abbrev wsJ00 : List Cond := u_ws RJ0 TJ0 0
theorem nmJ0 : ∀ a, a < 0 → ∀ b, b < 0 → a ≠ b → (TJ0 a).2.1 ≠ (TJ0 b).2.1 := by decide +kernel
theorem tyJ0_ok : ∀ k, k < 0 → parseFieldDescriptor (TJ0 k).2.2.1 = some (tyJ0 k) := by decide +kernel
def RJ10 : String := "java/lang/System"
def TJ10 : u_T := fun k => match k with
  | _ => ("", "", "", false)
def tyJ10 : Nat → FieldType := fun k => match k with
  | _ => .int
abbrev wsJ100 : List Cond := u_ws RJ10 TJ10 0
theorem nmJ10 : ∀ a, a < 0 → ∀ b, b < 0 → a ≠ b → (TJ10 a).2.1 ≠ (TJ10 b).2.1 := by decide +kernel
theorem tyJ10_ok : ∀ k, k < 0 → parseFieldDescriptor (TJ10 k).2.2.1 = some (tyJ10 k) := by decide +kernel
def RL : String := "StarConsoleLaw"
abbrev cL_dimmer : ByteArray := method_3_code
def yL_dimmer : MethodName := ⟨RL, "dimmer", "(LStarConsole;III[J)I"⟩
abbrev cL_lamp : ByteArray := method_4_code
def yL_lamp : MethodName := ⟨RL, "lamp", "(LStarConsole;II[J)I"⟩
abbrev cL_star : ByteArray := method_5_code
def yL_star : MethodName := ⟨RL, "star", "(LStarConsole;II[J)I"⟩
abbrev cL_cue : ByteArray := method_6_code
def yL_cue : MethodName := ⟨RL, "cue", "(LStarConsole;IIII[J)I"⟩
abbrev cL_jump : ByteArray := method_7_code
def yL_jump : MethodName := ⟨RL, "jump", "(LStarConsole;I[J)I"⟩
abbrev cL_fade : ByteArray := method_8_code
def yL_fade : MethodName := ⟨RL, "fade", "(LStarConsole;II[J)I"⟩
abbrev cL_pass : ByteArray := method_9_code
def yL_pass : MethodName := ⟨RL, "pass", "(LStarConsole;I[J)I"⟩
abbrev cL_told : ByteArray := method_10_code
def yL_told : MethodName := ⟨RL, "told", "(LStarConsole;II[J)I"⟩
abbrev cL_glare : ByteArray := method_11_code
def yL_glare : MethodName := ⟨RL, "glare", "(LStarConsole;I[J)I"⟩
abbrev cL_about : ByteArray := method_12_code
def yL_about : MethodName := ⟨RL, "about", "(LStarConsole;II[J)I"⟩
abbrev cL_comet : ByteArray := method_13_code
def yL_comet : MethodName := ⟨RL, "comet", "(LStarConsole;II[J)I"⟩
abbrev cL_count : ByteArray := method_14_code
def yL_count : MethodName := ⟨RL, "count", "(LStarConsole;I[J)I"⟩
abbrev cL_when : ByteArray := method_15_code
def yL_when : MethodName := ⟨RL, "when", "(LStarConsole;I[J)I"⟩
abbrev cL_lasts : ByteArray := method_16_code
def yL_lasts : MethodName := ⟨RL, "lasts", "(LStarConsole;I[J)I"⟩
abbrev cL_foresee : ByteArray := method_17_code
def yL_foresee : MethodName := ⟨RL, "foresee", "(LStarConsole;II[J)I"⟩
abbrev cL_law : ByteArray := code
def yL_law : MethodName := ⟨RL, "law", "([I)Z"⟩
def wsX0_init : List Cond := .code yX0_init cX0_init 1 none :: ([.methodLink RX0 3 objectInit, .instanceMethod objectInit, .code objectInit ⟨#[0xb1]⟩ 1 none, .arrayClass .int, .fieldLink RX0 9 "StarConsole$Comets" "angle" "[I", .fieldLink RX0 15 "StarConsole$Comets" "speed" "[I", .fieldLink RX0 18 "StarConsole$Comets" "left" "[I"] ++ wsX00)
def wsX0_has : List Cond := .code yX0_has cX0_has 2 (some .boolean) :: ([.fieldLink RX0 21 "StarConsole$Comets" "size" "I"] ++ wsX00)
def wsX0_addIfRoom : List Cond := .code yX0_addIfRoom cX0_addIfRoom 4 none :: ([.fieldLink RX0 21 "StarConsole$Comets" "size" "I", .fieldLink RX0 9 "StarConsole$Comets" "angle" "[I", .fieldLink RX0 15 "StarConsole$Comets" "speed" "[I", .fieldLink RX0 18 "StarConsole$Comets" "left" "[I"] ++ wsX00)
def wsJ9_floorMod_7cf53 : List Cond := .code yJ9_floorMod_7cf53 cJ9_floorMod_7cf53 3 (some .int) :: ([])
def wsX5_turned : List Cond := .code yX5_turned cX5_turned 2 (some .int) :: ([.methodLink RX5 213 yJ9_floorMod_7cf53, .static yJ9_floorMod_7cf53, .initialized RJ9, .code yJ9_floorMod_7cf53 cJ9_floorMod_7cf53 3 (some .int)])
def wsX0_goOn : List Cond := .code yX0_goOn cX0_goOn 2 none :: ([.fieldLink RX0 21 "StarConsole$Comets" "size" "I", .fieldLink RX0 18 "StarConsole$Comets" "left" "[I", .fieldLink RX0 9 "StarConsole$Comets" "angle" "[I", .fieldLink RX0 15 "StarConsole$Comets" "speed" "[I", .static yX5_turned, .initialized RX5, .code yX5_turned cX5_turned 2 (some .int), .methodLink RX5 213 yJ9_floorMod_7cf53, .static yJ9_floorMod_7cf53, .initialized RJ9, .code yJ9_floorMod_7cf53 cJ9_floorMod_7cf53 3 (some .int)] ++ wsX00)
def wsX0_become : List Cond := .code yX0_become cX0_become 3 none :: ([.fieldLink RX0 9 "StarConsole$Comets" "angle" "[I", .fieldLink RX0 15 "StarConsole$Comets" "speed" "[I", .fieldLink RX0 18 "StarConsole$Comets" "left" "[I", .fieldLink RX0 21 "StarConsole$Comets" "size" "I"] ++ wsX00)
def wsX1_init : List Cond := .code yX1_init cX1_init 1 none :: ([.methodLink RX1 3 objectInit, .instanceMethod objectInit, .code objectInit ⟨#[0xb1]⟩ 1 none, .arrayClass .int, .fieldLink RX1 9 "StarConsole$Cues" "time" "[I", .fieldLink RX1 15 "StarConsole$Cues" "kind" "[I", .fieldLink RX1 18 "StarConsole$Cues" "a" "[I", .fieldLink RX1 21 "StarConsole$Cues" "b" "[I"] ++ wsX10)
def wsX1_has : List Cond := .code yX1_has cX1_has 2 (some .boolean) :: ([.fieldLink RX1 24 "StarConsole$Cues" "size" "I"] ++ wsX10)
def wsX1_add : List Cond := .code yX1_add cX1_add 6 (some .int) :: ([.fieldLink RX1 24 "StarConsole$Cues" "size" "I", .fieldLink RX1 9 "StarConsole$Cues" "time" "[I", .fieldLink RX1 15 "StarConsole$Cues" "kind" "[I", .fieldLink RX1 18 "StarConsole$Cues" "a" "[I", .fieldLink RX1 21 "StarConsole$Cues" "b" "[I"] ++ wsX10)
def wsX1_timeOf : List Cond := .code yX1_timeOf cX1_timeOf 2 (some .int) :: ([.fieldLink RX1 9 "StarConsole$Cues" "time" "[I", .methodLink RX1 28 yX1_has, .instanceMethod yX1_has, .selects RX1 yX1_has yX1_has, .initialized RX1, .code yX1_has cX1_has 2 (some .boolean), .fieldLink RX1 24 "StarConsole$Cues" "size" "I"] ++ wsX10)
def wsX1_firstFrom : List Cond := .code yX1_firstFrom cX1_firstFrom 4 (some .int) :: ([.fieldLink RX1 24 "StarConsole$Cues" "size" "I", .fieldLink RX1 9 "StarConsole$Cues" "time" "[I", .methodLink RX1 32 yX1_timeOf, .instanceMethod yX1_timeOf, .selects RX1 yX1_timeOf yX1_timeOf, .initialized RX1, .code yX1_timeOf cX1_timeOf 2 (some .int), .methodLink RX1 28 yX1_has, .instanceMethod yX1_has, .selects RX1 yX1_has yX1_has, .code yX1_has cX1_has 2 (some .boolean)] ++ wsX10)
def wsX1_holdWithin : List Cond := .code yX1_holdWithin cX1_holdWithin 4 (some .boolean) :: ([.fieldLink RX1 24 "StarConsole$Cues" "size" "I", .fieldLink RX1 15 "StarConsole$Cues" "kind" "[I", .fieldLink RX1 9 "StarConsole$Cues" "time" "[I"] ++ wsX10)
def wsX1_fact : List Cond := .code yX1_fact cX1_fact 3 (some .int) :: ([.fieldLink RX1 9 "StarConsole$Cues" "time" "[I", .fieldLink RX1 15 "StarConsole$Cues" "kind" "[I", .fieldLink RX1 18 "StarConsole$Cues" "a" "[I", .fieldLink RX1 21 "StarConsole$Cues" "b" "[I", .methodLink RX1 28 yX1_has, .instanceMethod yX1_has, .selects RX1 yX1_has yX1_has, .initialized RX1, .code yX1_has cX1_has 2 (some .boolean), .fieldLink RX1 24 "StarConsole$Cues" "size" "I"] ++ wsX10)
def wsX2_init : List Cond := .code yX2_init cX2_init 1 none :: ([.methodLink RX2 3 objectInit, .instanceMethod objectInit, .code objectInit ⟨#[0xb1]⟩ 1 none, .arrayClass .int, .fieldLink RX2 9 "StarConsole$Dimmers" "part" "[I", .fieldLink RX2 15 "StarConsole$Dimmers" "level" "[I", .fieldLink RX2 18 "StarConsole$Dimmers" "aim" "[I", .fieldLink RX2 21 "StarConsole$Dimmers" "pace" "[I", .fieldLink RX2 24 "StarConsole$Dimmers" "life" "[I"] ++ wsX20)
def wsX2_has : List Cond := .code yX2_has cX2_has 2 (some .boolean) :: ([.fieldLink RX2 27 "StarConsole$Dimmers" "size" "I"] ++ wsX20)
def wsX2_add : List Cond := .code yX2_add cX2_add 5 (some .int) :: ([.fieldLink RX2 27 "StarConsole$Dimmers" "size" "I", .fieldLink RX2 9 "StarConsole$Dimmers" "part" "[I", .fieldLink RX2 15 "StarConsole$Dimmers" "level" "[I", .fieldLink RX2 18 "StarConsole$Dimmers" "aim" "[I", .fieldLink RX2 21 "StarConsole$Dimmers" "pace" "[I", .fieldLink RX2 24 "StarConsole$Dimmers" "life" "[I"] ++ wsX20)
def wsX2_darkenWithoutLife : List Cond := .code yX2_darkenWithoutLife cX2_darkenWithoutLife 2 none :: ([.fieldLink RX2 24 "StarConsole$Dimmers" "life" "[I", .fieldLink RX2 15 "StarConsole$Dimmers" "level" "[I", .methodLink RX2 31 yX2_has, .instanceMethod yX2_has, .selects RX2 yX2_has yX2_has, .initialized RX2, .code yX2_has cX2_has 2 (some .boolean), .fieldLink RX2 27 "StarConsole$Dimmers" "size" "I"] ++ wsX20)
def wsX2_changeLamp : List Cond := .code yX2_changeLamp cX2_changeLamp 4 (some .int) :: ([.fieldLink RX2 24 "StarConsole$Dimmers" "life" "[I", .methodLink RX2 31 yX2_has, .instanceMethod yX2_has, .selects RX2 yX2_has yX2_has, .initialized RX2, .code yX2_has cX2_has 2 (some .boolean), .fieldLink RX2 27 "StarConsole$Dimmers" "size" "I", .methodLink RX2 35 yX2_darkenWithoutLife, .instanceMethod yX2_darkenWithoutLife, .selects RX2 yX2_darkenWithoutLife yX2_darkenWithoutLife, .code yX2_darkenWithoutLife cX2_darkenWithoutLife 2 none, .fieldLink RX2 15 "StarConsole$Dimmers" "level" "[I"] ++ wsX20)
def wsX2_changeAim : List Cond := .code yX2_changeAim cX2_changeAim 4 (some .int) :: ([.fieldLink RX2 18 "StarConsole$Dimmers" "aim" "[I", .methodLink RX2 31 yX2_has, .instanceMethod yX2_has, .selects RX2 yX2_has yX2_has, .initialized RX2, .code yX2_has cX2_has 2 (some .boolean), .fieldLink RX2 27 "StarConsole$Dimmers" "size" "I"] ++ wsX20)
def wsX2_hasLife : List Cond := .code yX2_hasLife cX2_hasLife 2 (some .boolean) :: ([.fieldLink RX2 24 "StarConsole$Dimmers" "life" "[I", .methodLink RX2 31 yX2_has, .instanceMethod yX2_has, .selects RX2 yX2_has yX2_has, .initialized RX2, .code yX2_has cX2_has 2 (some .boolean), .fieldLink RX2 27 "StarConsole$Dimmers" "size" "I"] ++ wsX20)
def wsX2_approached : List Cond := .code yX2_approached cX2_approached 3 (some .int) :: ([.methodLink RX2 49 Lib.Math.min.name, .static Lib.Math.min.name, .initialized "java/lang/Math", .code Lib.Math.min.name Lib.Math.min.code 2 (some .int), .methodLink RX2 43 Lib.Math.max.name, .static Lib.Math.max.name, .code Lib.Math.max.name Lib.Math.max.code 2 (some .int)])
def wsX2_goOn : List Cond := .code yX2_goOn cX2_goOn 2 none :: ([.fieldLink RX2 27 "StarConsole$Dimmers" "size" "I", .fieldLink RX2 15 "StarConsole$Dimmers" "level" "[I", .fieldLink RX2 18 "StarConsole$Dimmers" "aim" "[I", .fieldLink RX2 21 "StarConsole$Dimmers" "pace" "[I", .fieldLink RX2 24 "StarConsole$Dimmers" "life" "[I", .methodLink RX2 43 Lib.Math.max.name, .static Lib.Math.max.name, .initialized "java/lang/Math", .code Lib.Math.max.name Lib.Math.max.code 2 (some .int), .methodLink RX2 39 yX2_approached, .static yX2_approached, .initialized RX2, .code yX2_approached cX2_approached 3 (some .int), .methodLink RX2 49 Lib.Math.min.name, .static Lib.Math.min.name, .code Lib.Math.min.name Lib.Math.min.code 2 (some .int), .methodLink RX2 35 yX2_darkenWithoutLife, .instanceMethod yX2_darkenWithoutLife, .selects RX2 yX2_darkenWithoutLife yX2_darkenWithoutLife, .code yX2_darkenWithoutLife cX2_darkenWithoutLife 2 none, .methodLink RX2 31 yX2_has, .instanceMethod yX2_has, .selects RX2 yX2_has yX2_has, .code yX2_has cX2_has 2 (some .boolean)] ++ wsX20)
def wsX2_glareOn : List Cond := .code yX2_glareOn cX2_glareOn 5 (some .int) :: ([.fieldLink RX2 27 "StarConsole$Dimmers" "size" "I", .fieldLink RX2 9 "StarConsole$Dimmers" "part" "[I", .fieldLink RX2 15 "StarConsole$Dimmers" "level" "[I", .methodLink RX2 52 yJ9_floorMod_7cf53, .static yJ9_floorMod_7cf53, .initialized RJ9, .code yJ9_floorMod_7cf53 cJ9_floorMod_7cf53 3 (some .int)] ++ wsX20)
def wsX2_fact : List Cond := .code yX2_fact cX2_fact 3 (some .int) :: ([.fieldLink RX2 9 "StarConsole$Dimmers" "part" "[I", .fieldLink RX2 15 "StarConsole$Dimmers" "level" "[I", .fieldLink RX2 18 "StarConsole$Dimmers" "aim" "[I", .fieldLink RX2 21 "StarConsole$Dimmers" "pace" "[I", .fieldLink RX2 24 "StarConsole$Dimmers" "life" "[I", .methodLink RX2 31 yX2_has, .instanceMethod yX2_has, .selects RX2 yX2_has yX2_has, .initialized RX2, .code yX2_has cX2_has 2 (some .boolean), .fieldLink RX2 27 "StarConsole$Dimmers" "size" "I"] ++ wsX20)
def wsX2_become : List Cond := .code yX2_become cX2_become 3 none :: ([.fieldLink RX2 9 "StarConsole$Dimmers" "part" "[I", .fieldLink RX2 15 "StarConsole$Dimmers" "level" "[I", .fieldLink RX2 18 "StarConsole$Dimmers" "aim" "[I", .fieldLink RX2 21 "StarConsole$Dimmers" "pace" "[I", .fieldLink RX2 24 "StarConsole$Dimmers" "life" "[I", .fieldLink RX2 27 "StarConsole$Dimmers" "size" "I"] ++ wsX20)
def wsX3_init_r1 : List Cond := [Cond.methodLink RX3 3 objectInit, Cond.instanceMethod objectInit, Cond.code objectInit ⟨#[0xb1]⟩ 1 none, Cond.fieldLink RX3 9 "StarConsole$Show" "line" "I", Cond.classLink RX3 15 RX2, Cond.instantiable RX2 6, Cond.initialized RX2, Cond.fieldLink RX3 18 "StarConsole$Show" "dimmers" "LStarConsole$Dimmers;", Cond.classLink RX3 22 RX0, Cond.instantiable RX0 4, Cond.initialized RX0, Cond.fieldLink RX3 25 "StarConsole$Show" "comets" "LStarConsole$Comets;", Cond.instanceMethod yX2_init, Cond.code yX2_init cX2_init 1 none, Cond.methodLink RX2 3 objectInit, Cond.arrayClass .int, Cond.fieldLink RX2 9 "StarConsole$Dimmers" "part" "[I", Cond.fieldLink RX2 15 "StarConsole$Dimmers" "level" "[I", Cond.fieldLink RX2 18 "StarConsole$Dimmers" "aim" "[I", Cond.fieldLink RX2 21 "StarConsole$Dimmers" "pace" "[I", Cond.fieldLink RX2 24 "StarConsole$Dimmers" "life" "[I", Cond.instanceMethod yX0_init, Cond.code yX0_init cX0_init 1 none, Cond.methodLink RX0 3 objectInit]
def wsX3_init_r2 : List Cond := [Cond.fieldLink RX0 9 "StarConsole$Comets" "angle" "[I", Cond.fieldLink RX0 15 "StarConsole$Comets" "speed" "[I", Cond.fieldLink RX0 18 "StarConsole$Comets" "left" "[I"]
def wsX3_init : List Cond := .code yX3_init cX3_init 1 none :: ((wsX3_init_r1 ++ wsX3_init_r2) ++ wsX30 ++ wsX20 ++ wsX00)
def wsX3_become_r1 : List Cond := [Cond.fieldLink RX3 29 "StarConsole$Show" "tick" "I", Cond.fieldLink RX3 32 "StarConsole$Show" "clock" "I", Cond.fieldLink RX3 35 "StarConsole$Show" "clockRuns" "Z", Cond.fieldLink RX3 39 "StarConsole$Show" "ballAngle" "I", Cond.fieldLink RX3 42 "StarConsole$Show" "ballSpeed" "I", Cond.fieldLink RX3 9 "StarConsole$Show" "line" "I", Cond.fieldLink RX3 45 "StarConsole$Show" "speechLeft" "I", Cond.fieldLink RX3 18 "StarConsole$Show" "dimmers" "LStarConsole$Dimmers;", Cond.fieldLink RX3 25 "StarConsole$Show" "comets" "LStarConsole$Comets;", Cond.methodLink RX3 48 yX2_become, Cond.instanceMethod yX2_become, Cond.selects RX2 yX2_become yX2_become, Cond.initialized RX2, Cond.code yX2_become cX2_become 3 none, Cond.fieldLink RX2 9 "StarConsole$Dimmers" "part" "[I", Cond.fieldLink RX2 15 "StarConsole$Dimmers" "level" "[I", Cond.fieldLink RX2 18 "StarConsole$Dimmers" "aim" "[I", Cond.fieldLink RX2 21 "StarConsole$Dimmers" "pace" "[I", Cond.fieldLink RX2 24 "StarConsole$Dimmers" "life" "[I", Cond.fieldLink RX2 27 "StarConsole$Dimmers" "size" "I", Cond.methodLink RX3 52 yX0_become, Cond.instanceMethod yX0_become, Cond.selects RX0 yX0_become yX0_become, Cond.initialized RX0]
def wsX3_become_r2 : List Cond := [Cond.code yX0_become cX0_become 3 none, Cond.fieldLink RX0 9 "StarConsole$Comets" "angle" "[I", Cond.fieldLink RX0 15 "StarConsole$Comets" "speed" "[I", Cond.fieldLink RX0 18 "StarConsole$Comets" "left" "[I", Cond.fieldLink RX0 21 "StarConsole$Comets" "size" "I"]
def wsX3_become : List Cond := .code yX3_become cX3_become 2 none :: ((wsX3_become_r1 ++ wsX3_become_r2) ++ wsX30 ++ wsX20 ++ wsX00)
def wsX3_obey_r1 : List Cond := [Cond.fieldLink RX3 18 "StarConsole$Show" "dimmers" "LStarConsole$Dimmers;", Cond.fieldLink RX3 42 "StarConsole$Show" "ballSpeed" "I", Cond.fieldLink RX3 25 "StarConsole$Show" "comets" "LStarConsole$Comets;", Cond.fieldLink RX3 9 "StarConsole$Show" "line" "I", Cond.fieldLink RX3 45 "StarConsole$Show" "speechLeft" "I", Cond.fieldLink RX3 35 "StarConsole$Show" "clockRuns" "Z", Cond.methodLink RX3 94 yX2_changeAim, Cond.instanceMethod yX2_changeAim, Cond.selects RX2 yX2_changeAim yX2_changeAim, Cond.initialized RX2, Cond.code yX2_changeAim cX2_changeAim 4 (some .int), Cond.fieldLink RX2 18 "StarConsole$Dimmers" "aim" "[I", Cond.methodLink RX2 31 yX2_has, Cond.instanceMethod yX2_has, Cond.selects RX2 yX2_has yX2_has, Cond.code yX2_has cX2_has 2 (some .boolean), Cond.fieldLink RX2 27 "StarConsole$Dimmers" "size" "I", Cond.methodLink RX3 97 yX0_addIfRoom, Cond.instanceMethod yX0_addIfRoom, Cond.selects RX0 yX0_addIfRoom yX0_addIfRoom, Cond.initialized RX0, Cond.code yX0_addIfRoom cX0_addIfRoom 4 none, Cond.fieldLink RX0 21 "StarConsole$Comets" "size" "I", Cond.fieldLink RX0 9 "StarConsole$Comets" "angle" "[I"]
def wsX3_obey_r2 : List Cond := [Cond.fieldLink RX0 15 "StarConsole$Comets" "speed" "[I", Cond.fieldLink RX0 18 "StarConsole$Comets" "left" "[I"]
def wsX3_obey : List Cond := .code yX3_obey cX3_obey 4 none :: ((wsX3_obey_r1 ++ wsX3_obey_r2) ++ wsX30 ++ wsX20 ++ wsX00)
def wsX3_runCues_r1 : List Cond := [Cond.fieldLink RX3 72 "StarConsole$Cues" "size" "I", Cond.fieldLink RX3 77 "StarConsole$Cues" "time" "[I", Cond.fieldLink RX3 32 "StarConsole$Show" "clock" "I", Cond.fieldLink RX3 81 "StarConsole$Cues" "kind" "[I", Cond.fieldLink RX3 84 "StarConsole$Cues" "a" "[I", Cond.fieldLink RX3 87 "StarConsole$Cues" "b" "[I", Cond.methodLink RX3 90 yX3_obey, Cond.instanceMethod yX3_obey, Cond.selects RX3 yX3_obey yX3_obey, Cond.initialized RX3, Cond.code yX3_obey cX3_obey 4 none, Cond.fieldLink RX3 18 "StarConsole$Show" "dimmers" "LStarConsole$Dimmers;", Cond.fieldLink RX3 42 "StarConsole$Show" "ballSpeed" "I", Cond.fieldLink RX3 25 "StarConsole$Show" "comets" "LStarConsole$Comets;", Cond.fieldLink RX3 9 "StarConsole$Show" "line" "I", Cond.fieldLink RX3 45 "StarConsole$Show" "speechLeft" "I", Cond.fieldLink RX3 35 "StarConsole$Show" "clockRuns" "Z", Cond.methodLink RX3 94 yX2_changeAim, Cond.instanceMethod yX2_changeAim, Cond.selects RX2 yX2_changeAim yX2_changeAim, Cond.initialized RX2, Cond.code yX2_changeAim cX2_changeAim 4 (some .int), Cond.fieldLink RX2 18 "StarConsole$Dimmers" "aim" "[I", Cond.methodLink RX2 31 yX2_has]
def wsX3_runCues_r2 : List Cond := [Cond.instanceMethod yX2_has, Cond.selects RX2 yX2_has yX2_has, Cond.code yX2_has cX2_has 2 (some .boolean), Cond.fieldLink RX2 27 "StarConsole$Dimmers" "size" "I", Cond.methodLink RX3 97 yX0_addIfRoom, Cond.instanceMethod yX0_addIfRoom, Cond.selects RX0 yX0_addIfRoom yX0_addIfRoom, Cond.initialized RX0, Cond.code yX0_addIfRoom cX0_addIfRoom 4 none, Cond.fieldLink RX0 21 "StarConsole$Comets" "size" "I", Cond.fieldLink RX0 9 "StarConsole$Comets" "angle" "[I", Cond.fieldLink RX0 15 "StarConsole$Comets" "speed" "[I", Cond.fieldLink RX0 18 "StarConsole$Comets" "left" "[I"]
def wsX3_runCues : List Cond := .code yX3_runCues cX3_runCues 4 (some .int) :: ((wsX3_runCues_r1 ++ wsX3_runCues_r2) ++ wsX10 ++ wsX30 ++ wsX20 ++ wsX00)
def wsX3_speakOn : List Cond := .code yX3_speakOn cX3_speakOn 1 none :: ([.fieldLink RX3 45 "StarConsole$Show" "speechLeft" "I", .fieldLink RX3 9 "StarConsole$Show" "line" "I"] ++ wsX30)
def wsX3_goOn_r1 : List Cond := [Cond.fieldLink RX3 35 "StarConsole$Show" "clockRuns" "Z", Cond.fieldLink RX3 18 "StarConsole$Show" "dimmers" "LStarConsole$Dimmers;", Cond.fieldLink RX3 39 "StarConsole$Show" "ballAngle" "I", Cond.fieldLink RX3 42 "StarConsole$Show" "ballSpeed" "I", Cond.fieldLink RX3 25 "StarConsole$Show" "comets" "LStarConsole$Comets;", Cond.fieldLink RX3 29 "StarConsole$Show" "tick" "I", Cond.methodLink RX3 59 yX3_runCues, Cond.instanceMethod yX3_runCues, Cond.selects RX3 yX3_runCues yX3_runCues, Cond.initialized RX3, Cond.code yX3_runCues cX3_runCues 4 (some .int), Cond.fieldLink RX3 72 "StarConsole$Cues" "size" "I", Cond.fieldLink RX3 77 "StarConsole$Cues" "time" "[I", Cond.fieldLink RX3 32 "StarConsole$Show" "clock" "I", Cond.fieldLink RX3 81 "StarConsole$Cues" "kind" "[I", Cond.fieldLink RX3 84 "StarConsole$Cues" "a" "[I", Cond.fieldLink RX3 87 "StarConsole$Cues" "b" "[I", Cond.methodLink RX3 90 yX3_obey, Cond.instanceMethod yX3_obey, Cond.selects RX3 yX3_obey yX3_obey, Cond.code yX3_obey cX3_obey 4 none, Cond.fieldLink RX3 9 "StarConsole$Show" "line" "I", Cond.fieldLink RX3 45 "StarConsole$Show" "speechLeft" "I", Cond.methodLink RX3 94 yX2_changeAim]
def wsX3_goOn_r2 : List Cond := [Cond.instanceMethod yX2_changeAim, Cond.selects RX2 yX2_changeAim yX2_changeAim, Cond.initialized RX2, Cond.code yX2_changeAim cX2_changeAim 4 (some .int), Cond.fieldLink RX2 18 "StarConsole$Dimmers" "aim" "[I", Cond.methodLink RX2 31 yX2_has, Cond.instanceMethod yX2_has, Cond.selects RX2 yX2_has yX2_has, Cond.code yX2_has cX2_has 2 (some .boolean), Cond.fieldLink RX2 27 "StarConsole$Dimmers" "size" "I", Cond.methodLink RX3 97 yX0_addIfRoom, Cond.instanceMethod yX0_addIfRoom, Cond.selects RX0 yX0_addIfRoom yX0_addIfRoom, Cond.initialized RX0, Cond.code yX0_addIfRoom cX0_addIfRoom 4 none, Cond.fieldLink RX0 21 "StarConsole$Comets" "size" "I", Cond.fieldLink RX0 9 "StarConsole$Comets" "angle" "[I", Cond.fieldLink RX0 15 "StarConsole$Comets" "speed" "[I", Cond.fieldLink RX0 18 "StarConsole$Comets" "left" "[I", Cond.methodLink RX3 62 yX2_goOn, Cond.instanceMethod yX2_goOn, Cond.selects RX2 yX2_goOn yX2_goOn, Cond.code yX2_goOn cX2_goOn 2 none, Cond.fieldLink RX2 15 "StarConsole$Dimmers" "level" "[I"]
def wsX3_goOn_r3 : List Cond := [Cond.fieldLink RX2 21 "StarConsole$Dimmers" "pace" "[I", Cond.fieldLink RX2 24 "StarConsole$Dimmers" "life" "[I", Cond.methodLink RX2 43 Lib.Math.max.name, Cond.static Lib.Math.max.name, Cond.initialized "java/lang/Math", Cond.code Lib.Math.max.name Lib.Math.max.code 2 (some .int), Cond.methodLink RX2 39 yX2_approached, Cond.static yX2_approached, Cond.code yX2_approached cX2_approached 3 (some .int), Cond.methodLink RX2 49 Lib.Math.min.name, Cond.static Lib.Math.min.name, Cond.code Lib.Math.min.name Lib.Math.min.code 2 (some .int), Cond.methodLink RX2 35 yX2_darkenWithoutLife, Cond.instanceMethod yX2_darkenWithoutLife, Cond.selects RX2 yX2_darkenWithoutLife yX2_darkenWithoutLife, Cond.code yX2_darkenWithoutLife cX2_darkenWithoutLife 2 none, Cond.static yX5_turned, Cond.initialized RX5, Cond.code yX5_turned cX5_turned 2 (some .int), Cond.methodLink RX5 213 yJ9_floorMod_7cf53, Cond.static yJ9_floorMod_7cf53, Cond.initialized RJ9, Cond.code yJ9_floorMod_7cf53 cJ9_floorMod_7cf53 3 (some .int), Cond.methodLink RX3 68 yX0_goOn]
def wsX3_goOn_r4 : List Cond := [Cond.instanceMethod yX0_goOn, Cond.selects RX0 yX0_goOn yX0_goOn, Cond.code yX0_goOn cX0_goOn 2 none, Cond.methodLink RX3 69 yX3_speakOn, Cond.instanceMethod yX3_speakOn, Cond.selects RX3 yX3_speakOn yX3_speakOn, Cond.code yX3_speakOn cX3_speakOn 1 none]
def wsX3_goOn : List Cond := .code yX3_goOn cX3_goOn 3 (some .int) :: ((wsX3_goOn_r1 ++ (wsX3_goOn_r2 ++ (wsX3_goOn_r3 ++ wsX3_goOn_r4))) ++ wsX30 ++ wsX10 ++ wsX20 ++ wsX00)
def wsX3_goOnFor_r1 : List Cond := [Cond.methodLink RX3 55 yX3_goOn, Cond.instanceMethod yX3_goOn, Cond.selects RX3 yX3_goOn yX3_goOn, Cond.initialized RX3, Cond.code yX3_goOn cX3_goOn 3 (some .int), Cond.fieldLink RX3 35 "StarConsole$Show" "clockRuns" "Z", Cond.fieldLink RX3 18 "StarConsole$Show" "dimmers" "LStarConsole$Dimmers;", Cond.fieldLink RX3 39 "StarConsole$Show" "ballAngle" "I", Cond.fieldLink RX3 42 "StarConsole$Show" "ballSpeed" "I", Cond.fieldLink RX3 25 "StarConsole$Show" "comets" "LStarConsole$Comets;", Cond.fieldLink RX3 29 "StarConsole$Show" "tick" "I", Cond.methodLink RX3 59 yX3_runCues, Cond.instanceMethod yX3_runCues, Cond.selects RX3 yX3_runCues yX3_runCues, Cond.code yX3_runCues cX3_runCues 4 (some .int), Cond.fieldLink RX3 72 "StarConsole$Cues" "size" "I", Cond.fieldLink RX3 77 "StarConsole$Cues" "time" "[I", Cond.fieldLink RX3 32 "StarConsole$Show" "clock" "I", Cond.fieldLink RX3 81 "StarConsole$Cues" "kind" "[I", Cond.fieldLink RX3 84 "StarConsole$Cues" "a" "[I", Cond.fieldLink RX3 87 "StarConsole$Cues" "b" "[I", Cond.methodLink RX3 90 yX3_obey, Cond.instanceMethod yX3_obey, Cond.selects RX3 yX3_obey yX3_obey]
def wsX3_goOnFor_r2 : List Cond := [Cond.code yX3_obey cX3_obey 4 none, Cond.fieldLink RX3 9 "StarConsole$Show" "line" "I", Cond.fieldLink RX3 45 "StarConsole$Show" "speechLeft" "I", Cond.methodLink RX3 94 yX2_changeAim, Cond.instanceMethod yX2_changeAim, Cond.selects RX2 yX2_changeAim yX2_changeAim, Cond.initialized RX2, Cond.code yX2_changeAim cX2_changeAim 4 (some .int), Cond.fieldLink RX2 18 "StarConsole$Dimmers" "aim" "[I", Cond.methodLink RX2 31 yX2_has, Cond.instanceMethod yX2_has, Cond.selects RX2 yX2_has yX2_has, Cond.code yX2_has cX2_has 2 (some .boolean), Cond.fieldLink RX2 27 "StarConsole$Dimmers" "size" "I", Cond.methodLink RX3 97 yX0_addIfRoom, Cond.instanceMethod yX0_addIfRoom, Cond.selects RX0 yX0_addIfRoom yX0_addIfRoom, Cond.initialized RX0, Cond.code yX0_addIfRoom cX0_addIfRoom 4 none, Cond.fieldLink RX0 21 "StarConsole$Comets" "size" "I", Cond.fieldLink RX0 9 "StarConsole$Comets" "angle" "[I", Cond.fieldLink RX0 15 "StarConsole$Comets" "speed" "[I", Cond.fieldLink RX0 18 "StarConsole$Comets" "left" "[I", Cond.methodLink RX3 62 yX2_goOn]
def wsX3_goOnFor_r3 : List Cond := [Cond.instanceMethod yX2_goOn, Cond.selects RX2 yX2_goOn yX2_goOn, Cond.code yX2_goOn cX2_goOn 2 none, Cond.fieldLink RX2 15 "StarConsole$Dimmers" "level" "[I", Cond.fieldLink RX2 21 "StarConsole$Dimmers" "pace" "[I", Cond.fieldLink RX2 24 "StarConsole$Dimmers" "life" "[I", Cond.methodLink RX2 43 Lib.Math.max.name, Cond.static Lib.Math.max.name, Cond.initialized "java/lang/Math", Cond.code Lib.Math.max.name Lib.Math.max.code 2 (some .int), Cond.methodLink RX2 39 yX2_approached, Cond.static yX2_approached, Cond.code yX2_approached cX2_approached 3 (some .int), Cond.methodLink RX2 49 Lib.Math.min.name, Cond.static Lib.Math.min.name, Cond.code Lib.Math.min.name Lib.Math.min.code 2 (some .int), Cond.methodLink RX2 35 yX2_darkenWithoutLife, Cond.instanceMethod yX2_darkenWithoutLife, Cond.selects RX2 yX2_darkenWithoutLife yX2_darkenWithoutLife, Cond.code yX2_darkenWithoutLife cX2_darkenWithoutLife 2 none, Cond.static yX5_turned, Cond.initialized RX5, Cond.code yX5_turned cX5_turned 2 (some .int), Cond.methodLink RX5 213 yJ9_floorMod_7cf53]
def wsX3_goOnFor_r4 : List Cond := [Cond.static yJ9_floorMod_7cf53, Cond.initialized RJ9, Cond.code yJ9_floorMod_7cf53 cJ9_floorMod_7cf53 3 (some .int), Cond.methodLink RX3 68 yX0_goOn, Cond.instanceMethod yX0_goOn, Cond.selects RX0 yX0_goOn yX0_goOn, Cond.code yX0_goOn cX0_goOn 2 none, Cond.methodLink RX3 69 yX3_speakOn, Cond.instanceMethod yX3_speakOn, Cond.selects RX3 yX3_speakOn yX3_speakOn, Cond.code yX3_speakOn cX3_speakOn 1 none]
def wsX3_goOnFor : List Cond := .code yX3_goOnFor cX3_goOnFor 5 (some .int) :: ((wsX3_goOnFor_r1 ++ (wsX3_goOnFor_r2 ++ (wsX3_goOnFor_r3 ++ wsX3_goOnFor_r4))) ++ wsX30 ++ wsX10 ++ wsX20 ++ wsX00)
def wsX4_has : List Cond := .code yX4_has cX4_has 2 (some .boolean) :: ([.fieldLink RX4 18 "StarConsole$Stars" "size" "I"] ++ wsX40)
def wsX3_outshines : List Cond := .code yX3_outshines cX3_outshines 3 (some .boolean) :: ([.fieldLink RX3 18 "StarConsole$Show" "dimmers" "LStarConsole$Dimmers;", .methodLink RX3 145 yX2_glareOn, .instanceMethod yX2_glareOn, .selects RX2 yX2_glareOn yX2_glareOn, .initialized RX2, .code yX2_glareOn cX2_glareOn 5 (some .int), .fieldLink RX2 27 "StarConsole$Dimmers" "size" "I", .fieldLink RX2 9 "StarConsole$Dimmers" "part" "[I", .fieldLink RX2 15 "StarConsole$Dimmers" "level" "[I", .methodLink RX2 52 yJ9_floorMod_7cf53, .static yJ9_floorMod_7cf53, .initialized RJ9, .code yJ9_floorMod_7cf53 cJ9_floorMod_7cf53 3 (some .int)] ++ wsX30 ++ wsX20)
def wsX3_starSeen_r1 : List Cond := [Cond.fieldLink RX3 118 "StarConsole$Stars" "degree" "[I", Cond.fieldLink RX3 39 "StarConsole$Show" "ballAngle" "I", Cond.fieldLink RX3 121 "StarConsole$Stars" "light" "[I", Cond.methodLink RX3 114 yX4_has, Cond.instanceMethod yX4_has, Cond.selects RX4 yX4_has yX4_has, Cond.initialized RX4, Cond.code yX4_has cX4_has 2 (some .boolean), Cond.fieldLink RX4 18 "StarConsole$Stars" "size" "I", Cond.static yX5_turned, Cond.initialized RX5, Cond.code yX5_turned cX5_turned 2 (some .int), Cond.methodLink RX5 213 yJ9_floorMod_7cf53, Cond.static yJ9_floorMod_7cf53, Cond.initialized RJ9, Cond.code yJ9_floorMod_7cf53 cJ9_floorMod_7cf53 3 (some .int), Cond.methodLink RX3 141 yX3_outshines, Cond.instanceMethod yX3_outshines, Cond.selects RX3 yX3_outshines yX3_outshines, Cond.initialized RX3, Cond.code yX3_outshines cX3_outshines 3 (some .boolean), Cond.fieldLink RX3 18 "StarConsole$Show" "dimmers" "LStarConsole$Dimmers;", Cond.methodLink RX3 145 yX2_glareOn, Cond.instanceMethod yX2_glareOn]
def wsX3_starSeen_r2 : List Cond := [Cond.selects RX2 yX2_glareOn yX2_glareOn, Cond.initialized RX2, Cond.code yX2_glareOn cX2_glareOn 5 (some .int), Cond.fieldLink RX2 27 "StarConsole$Dimmers" "size" "I", Cond.fieldLink RX2 9 "StarConsole$Dimmers" "part" "[I", Cond.fieldLink RX2 15 "StarConsole$Dimmers" "level" "[I", Cond.methodLink RX2 52 yJ9_floorMod_7cf53]
def wsX3_starSeen : List Cond := .code yX3_starSeen cX3_starSeen 3 (some .boolean) :: ((wsX3_starSeen_r1 ++ wsX3_starSeen_r2) ++ wsX40 ++ wsX30 ++ wsX20)
def wsX3_starsSeen_r1 : List Cond := [Cond.fieldLink RX3 102 "StarConsole$Stars" "size" "I", Cond.methodLink RX3 124 yX3_starSeen, Cond.instanceMethod yX3_starSeen, Cond.selects RX3 yX3_starSeen yX3_starSeen, Cond.initialized RX3, Cond.code yX3_starSeen cX3_starSeen 3 (some .boolean), Cond.fieldLink RX3 118 "StarConsole$Stars" "degree" "[I", Cond.fieldLink RX3 39 "StarConsole$Show" "ballAngle" "I", Cond.fieldLink RX3 121 "StarConsole$Stars" "light" "[I", Cond.methodLink RX3 114 yX4_has, Cond.instanceMethod yX4_has, Cond.selects RX4 yX4_has yX4_has, Cond.initialized RX4, Cond.code yX4_has cX4_has 2 (some .boolean), Cond.fieldLink RX4 18 "StarConsole$Stars" "size" "I", Cond.static yX5_turned, Cond.initialized RX5, Cond.code yX5_turned cX5_turned 2 (some .int), Cond.methodLink RX5 213 yJ9_floorMod_7cf53, Cond.static yJ9_floorMod_7cf53, Cond.initialized RJ9, Cond.code yJ9_floorMod_7cf53 cJ9_floorMod_7cf53 3 (some .int), Cond.methodLink RX3 141 yX3_outshines, Cond.instanceMethod yX3_outshines]
def wsX3_starsSeen_r2 : List Cond := [Cond.selects RX3 yX3_outshines yX3_outshines, Cond.code yX3_outshines cX3_outshines 3 (some .boolean), Cond.fieldLink RX3 18 "StarConsole$Show" "dimmers" "LStarConsole$Dimmers;", Cond.methodLink RX3 145 yX2_glareOn, Cond.instanceMethod yX2_glareOn, Cond.selects RX2 yX2_glareOn yX2_glareOn, Cond.initialized RX2, Cond.code yX2_glareOn cX2_glareOn 5 (some .int), Cond.fieldLink RX2 27 "StarConsole$Dimmers" "size" "I", Cond.fieldLink RX2 9 "StarConsole$Dimmers" "part" "[I", Cond.fieldLink RX2 15 "StarConsole$Dimmers" "level" "[I", Cond.methodLink RX2 52 yJ9_floorMod_7cf53]
def wsX3_starsSeen : List Cond := .code yX3_starsSeen cX3_starsSeen 4 (some .int) :: ((wsX3_starsSeen_r1 ++ wsX3_starsSeen_r2) ++ wsX40 ++ wsX30 ++ wsX20)
def wsX3_cometSeen_r1 : List Cond := [Cond.fieldLink RX3 25 "StarConsole$Show" "comets" "LStarConsole$Comets;", Cond.fieldLink RX3 135 "StarConsole$Comets" "left" "[I", Cond.fieldLink RX3 129 "StarConsole$Comets" "angle" "[I", Cond.methodLink RX3 128 yX0_has, Cond.instanceMethod yX0_has, Cond.selects RX0 yX0_has yX0_has, Cond.initialized RX0, Cond.code yX0_has cX0_has 2 (some .boolean), Cond.fieldLink RX0 21 "StarConsole$Comets" "size" "I", Cond.methodLink RX3 141 yX3_outshines, Cond.instanceMethod yX3_outshines, Cond.selects RX3 yX3_outshines yX3_outshines, Cond.initialized RX3, Cond.code yX3_outshines cX3_outshines 3 (some .boolean), Cond.fieldLink RX3 18 "StarConsole$Show" "dimmers" "LStarConsole$Dimmers;", Cond.methodLink RX3 145 yX2_glareOn, Cond.instanceMethod yX2_glareOn, Cond.selects RX2 yX2_glareOn yX2_glareOn, Cond.initialized RX2, Cond.code yX2_glareOn cX2_glareOn 5 (some .int), Cond.fieldLink RX2 27 "StarConsole$Dimmers" "size" "I", Cond.fieldLink RX2 9 "StarConsole$Dimmers" "part" "[I", Cond.fieldLink RX2 15 "StarConsole$Dimmers" "level" "[I", Cond.methodLink RX2 52 yJ9_floorMod_7cf53]
def wsX3_cometSeen_r2 : List Cond := [Cond.static yJ9_floorMod_7cf53, Cond.initialized RJ9, Cond.code yJ9_floorMod_7cf53 cJ9_floorMod_7cf53 3 (some .int)]
def wsX3_cometSeen : List Cond := .code yX3_cometSeen cX3_cometSeen 2 (some .boolean) :: ((wsX3_cometSeen_r1 ++ wsX3_cometSeen_r2) ++ wsX30 ++ wsX00 ++ wsX20)
def wsX3_cometsSeen_r1 : List Cond := [Cond.fieldLink RX3 25 "StarConsole$Show" "comets" "LStarConsole$Comets;", Cond.fieldLink RX3 105 "StarConsole$Comets" "size" "I", Cond.methodLink RX3 138 yX3_cometSeen, Cond.instanceMethod yX3_cometSeen, Cond.selects RX3 yX3_cometSeen yX3_cometSeen, Cond.initialized RX3, Cond.code yX3_cometSeen cX3_cometSeen 2 (some .boolean), Cond.fieldLink RX3 135 "StarConsole$Comets" "left" "[I", Cond.fieldLink RX3 129 "StarConsole$Comets" "angle" "[I", Cond.methodLink RX3 128 yX0_has, Cond.instanceMethod yX0_has, Cond.selects RX0 yX0_has yX0_has, Cond.initialized RX0, Cond.code yX0_has cX0_has 2 (some .boolean), Cond.fieldLink RX0 21 "StarConsole$Comets" "size" "I", Cond.methodLink RX3 141 yX3_outshines, Cond.instanceMethod yX3_outshines, Cond.selects RX3 yX3_outshines yX3_outshines, Cond.code yX3_outshines cX3_outshines 3 (some .boolean), Cond.fieldLink RX3 18 "StarConsole$Show" "dimmers" "LStarConsole$Dimmers;", Cond.methodLink RX3 145 yX2_glareOn, Cond.instanceMethod yX2_glareOn, Cond.selects RX2 yX2_glareOn yX2_glareOn, Cond.initialized RX2]
def wsX3_cometsSeen_r2 : List Cond := [Cond.code yX2_glareOn cX2_glareOn 5 (some .int), Cond.fieldLink RX2 27 "StarConsole$Dimmers" "size" "I", Cond.fieldLink RX2 9 "StarConsole$Dimmers" "part" "[I", Cond.fieldLink RX2 15 "StarConsole$Dimmers" "level" "[I", Cond.methodLink RX2 52 yJ9_floorMod_7cf53, Cond.static yJ9_floorMod_7cf53, Cond.initialized RJ9, Cond.code yJ9_floorMod_7cf53 cJ9_floorMod_7cf53 3 (some .int)]
def wsX3_cometsSeen : List Cond := .code yX3_cometsSeen cX3_cometsSeen 3 (some .int) :: ((wsX3_cometsSeen_r1 ++ wsX3_cometsSeen_r2) ++ wsX30 ++ wsX00 ++ wsX20)
def wsX3_fact_r1 : List Cond := [Cond.fieldLink RX3 29 "StarConsole$Show" "tick" "I", Cond.fieldLink RX3 32 "StarConsole$Show" "clock" "I", Cond.fieldLink RX3 35 "StarConsole$Show" "clockRuns" "Z", Cond.fieldLink RX3 18 "StarConsole$Show" "dimmers" "LStarConsole$Dimmers;", Cond.fieldLink RX3 101 "StarConsole$Dimmers" "size" "I", Cond.fieldLink RX3 102 "StarConsole$Stars" "size" "I", Cond.fieldLink RX3 25 "StarConsole$Show" "comets" "LStarConsole$Comets;", Cond.fieldLink RX3 105 "StarConsole$Comets" "size" "I", Cond.fieldLink RX3 72 "StarConsole$Cues" "size" "I", Cond.fieldLink RX3 9 "StarConsole$Show" "line" "I", Cond.fieldLink RX3 45 "StarConsole$Show" "speechLeft" "I", Cond.fieldLink RX3 39 "StarConsole$Show" "ballAngle" "I", Cond.fieldLink RX3 42 "StarConsole$Show" "ballSpeed" "I", Cond.methodLink RX3 106 yX3_starsSeen, Cond.instanceMethod yX3_starsSeen, Cond.selects RX3 yX3_starsSeen yX3_starsSeen, Cond.initialized RX3, Cond.code yX3_starsSeen cX3_starsSeen 4 (some .int), Cond.methodLink RX3 124 yX3_starSeen, Cond.instanceMethod yX3_starSeen, Cond.selects RX3 yX3_starSeen yX3_starSeen, Cond.code yX3_starSeen cX3_starSeen 3 (some .boolean), Cond.fieldLink RX3 118 "StarConsole$Stars" "degree" "[I", Cond.fieldLink RX3 121 "StarConsole$Stars" "light" "[I"]
def wsX3_fact_r2 : List Cond := [Cond.methodLink RX3 114 yX4_has, Cond.instanceMethod yX4_has, Cond.selects RX4 yX4_has yX4_has, Cond.initialized RX4, Cond.code yX4_has cX4_has 2 (some .boolean), Cond.fieldLink RX4 18 "StarConsole$Stars" "size" "I", Cond.static yX5_turned, Cond.initialized RX5, Cond.code yX5_turned cX5_turned 2 (some .int), Cond.methodLink RX5 213 yJ9_floorMod_7cf53, Cond.static yJ9_floorMod_7cf53, Cond.initialized RJ9, Cond.code yJ9_floorMod_7cf53 cJ9_floorMod_7cf53 3 (some .int), Cond.methodLink RX3 141 yX3_outshines, Cond.instanceMethod yX3_outshines, Cond.selects RX3 yX3_outshines yX3_outshines, Cond.code yX3_outshines cX3_outshines 3 (some .boolean), Cond.methodLink RX3 145 yX2_glareOn, Cond.instanceMethod yX2_glareOn, Cond.selects RX2 yX2_glareOn yX2_glareOn, Cond.initialized RX2, Cond.code yX2_glareOn cX2_glareOn 5 (some .int), Cond.fieldLink RX2 27 "StarConsole$Dimmers" "size" "I", Cond.fieldLink RX2 9 "StarConsole$Dimmers" "part" "[I"]
def wsX3_fact_r3 : List Cond := [Cond.fieldLink RX2 15 "StarConsole$Dimmers" "level" "[I", Cond.methodLink RX2 52 yJ9_floorMod_7cf53, Cond.methodLink RX3 110 yX3_cometsSeen, Cond.instanceMethod yX3_cometsSeen, Cond.selects RX3 yX3_cometsSeen yX3_cometsSeen, Cond.code yX3_cometsSeen cX3_cometsSeen 3 (some .int), Cond.methodLink RX3 138 yX3_cometSeen, Cond.instanceMethod yX3_cometSeen, Cond.selects RX3 yX3_cometSeen yX3_cometSeen, Cond.code yX3_cometSeen cX3_cometSeen 2 (some .boolean), Cond.fieldLink RX3 135 "StarConsole$Comets" "left" "[I", Cond.fieldLink RX3 129 "StarConsole$Comets" "angle" "[I", Cond.methodLink RX3 128 yX0_has, Cond.instanceMethod yX0_has, Cond.selects RX0 yX0_has yX0_has, Cond.initialized RX0, Cond.code yX0_has cX0_has 2 (some .boolean), Cond.fieldLink RX0 21 "StarConsole$Comets" "size" "I"]
def wsX3_fact : List Cond := .code yX3_fact cX3_fact 4 (some .int) :: ((wsX3_fact_r1 ++ (wsX3_fact_r2 ++ wsX3_fact_r3)) ++ wsX30 ++ wsX20 ++ wsX40 ++ wsX00 ++ wsX10)
def wsX3_factOfStar_r1 : List Cond := [Cond.fieldLink RX3 118 "StarConsole$Stars" "degree" "[I", Cond.fieldLink RX3 121 "StarConsole$Stars" "light" "[I", Cond.fieldLink RX3 39 "StarConsole$Show" "ballAngle" "I", Cond.methodLink RX3 114 yX4_has, Cond.instanceMethod yX4_has, Cond.selects RX4 yX4_has yX4_has, Cond.initialized RX4, Cond.code yX4_has cX4_has 2 (some .boolean), Cond.fieldLink RX4 18 "StarConsole$Stars" "size" "I", Cond.static yX5_turned, Cond.initialized RX5, Cond.code yX5_turned cX5_turned 2 (some .int), Cond.methodLink RX5 213 yJ9_floorMod_7cf53, Cond.static yJ9_floorMod_7cf53, Cond.initialized RJ9, Cond.code yJ9_floorMod_7cf53 cJ9_floorMod_7cf53 3 (some .int), Cond.methodLink RX3 124 yX3_starSeen, Cond.instanceMethod yX3_starSeen, Cond.selects RX3 yX3_starSeen yX3_starSeen, Cond.initialized RX3, Cond.code yX3_starSeen cX3_starSeen 3 (some .boolean), Cond.methodLink RX3 141 yX3_outshines, Cond.instanceMethod yX3_outshines, Cond.selects RX3 yX3_outshines yX3_outshines]
def wsX3_factOfStar_r2 : List Cond := [Cond.code yX3_outshines cX3_outshines 3 (some .boolean), Cond.fieldLink RX3 18 "StarConsole$Show" "dimmers" "LStarConsole$Dimmers;", Cond.methodLink RX3 145 yX2_glareOn, Cond.instanceMethod yX2_glareOn, Cond.selects RX2 yX2_glareOn yX2_glareOn, Cond.initialized RX2, Cond.code yX2_glareOn cX2_glareOn 5 (some .int), Cond.fieldLink RX2 27 "StarConsole$Dimmers" "size" "I", Cond.fieldLink RX2 9 "StarConsole$Dimmers" "part" "[I", Cond.fieldLink RX2 15 "StarConsole$Dimmers" "level" "[I", Cond.methodLink RX2 52 yJ9_floorMod_7cf53]
def wsX3_factOfStar : List Cond := .code yX3_factOfStar cX3_factOfStar 4 (some .int) :: ((wsX3_factOfStar_r1 ++ wsX3_factOfStar_r2) ++ wsX40 ++ wsX30 ++ wsX20)
def wsX3_factOfComet_r1 : List Cond := [Cond.fieldLink RX3 25 "StarConsole$Show" "comets" "LStarConsole$Comets;", Cond.fieldLink RX3 129 "StarConsole$Comets" "angle" "[I", Cond.fieldLink RX3 132 "StarConsole$Comets" "speed" "[I", Cond.fieldLink RX3 135 "StarConsole$Comets" "left" "[I", Cond.methodLink RX3 128 yX0_has, Cond.instanceMethod yX0_has, Cond.selects RX0 yX0_has yX0_has, Cond.initialized RX0, Cond.code yX0_has cX0_has 2 (some .boolean), Cond.fieldLink RX0 21 "StarConsole$Comets" "size" "I", Cond.methodLink RX3 138 yX3_cometSeen, Cond.instanceMethod yX3_cometSeen, Cond.selects RX3 yX3_cometSeen yX3_cometSeen, Cond.initialized RX3, Cond.code yX3_cometSeen cX3_cometSeen 2 (some .boolean), Cond.methodLink RX3 141 yX3_outshines, Cond.instanceMethod yX3_outshines, Cond.selects RX3 yX3_outshines yX3_outshines, Cond.code yX3_outshines cX3_outshines 3 (some .boolean), Cond.fieldLink RX3 18 "StarConsole$Show" "dimmers" "LStarConsole$Dimmers;", Cond.methodLink RX3 145 yX2_glareOn, Cond.instanceMethod yX2_glareOn, Cond.selects RX2 yX2_glareOn yX2_glareOn, Cond.initialized RX2]
def wsX3_factOfComet_r2 : List Cond := [Cond.code yX2_glareOn cX2_glareOn 5 (some .int), Cond.fieldLink RX2 27 "StarConsole$Dimmers" "size" "I", Cond.fieldLink RX2 9 "StarConsole$Dimmers" "part" "[I", Cond.fieldLink RX2 15 "StarConsole$Dimmers" "level" "[I", Cond.methodLink RX2 52 yJ9_floorMod_7cf53, Cond.static yJ9_floorMod_7cf53, Cond.initialized RJ9, Cond.code yJ9_floorMod_7cf53 cJ9_floorMod_7cf53 3 (some .int)]
def wsX3_factOfComet : List Cond := .code yX3_factOfComet cX3_factOfComet 3 (some .int) :: ((wsX3_factOfComet_r1 ++ wsX3_factOfComet_r2) ++ wsX30 ++ wsX00 ++ wsX20)
def wsX4_init : List Cond := .code yX4_init cX4_init 1 none :: ([.methodLink RX4 3 objectInit, .instanceMethod objectInit, .code objectInit ⟨#[0xb1]⟩ 1 none, .arrayClass .int, .fieldLink RX4 9 "StarConsole$Stars" "degree" "[I", .fieldLink RX4 15 "StarConsole$Stars" "light" "[I"] ++ wsX40)
def wsX4_add : List Cond := .code yX4_add cX4_add 4 (some .int) :: ([.fieldLink RX4 18 "StarConsole$Stars" "size" "I", .fieldLink RX4 9 "StarConsole$Stars" "degree" "[I", .fieldLink RX4 15 "StarConsole$Stars" "light" "[I"] ++ wsX40)
def wsX5_init_r1 : List Cond := [Cond.methodLink RX5 1 objectInit, Cond.instanceMethod objectInit, Cond.code objectInit ⟨#[0xb1]⟩ 1 none, Cond.classLink RX5 7 RX4, Cond.instantiable RX4 3, Cond.initialized RX4, Cond.fieldLink RX5 10 "StarConsole" "stars" "LStarConsole$Stars;", Cond.classLink RX5 16 RX1, Cond.instantiable RX1 5, Cond.initialized RX1, Cond.fieldLink RX5 19 "StarConsole" "cues" "LStarConsole$Cues;", Cond.classLink RX5 23 RX3, Cond.instantiable RX3 9, Cond.initialized RX3, Cond.fieldLink RX5 26 "StarConsole" "show" "LStarConsole$Show;", Cond.fieldLink RX5 30 "StarConsole" "ahead" "LStarConsole$Show;", Cond.instanceMethod yX4_init, Cond.code yX4_init cX4_init 1 none, Cond.methodLink RX4 3 objectInit, Cond.arrayClass .int, Cond.fieldLink RX4 9 "StarConsole$Stars" "degree" "[I", Cond.fieldLink RX4 15 "StarConsole$Stars" "light" "[I", Cond.instanceMethod yX1_init, Cond.code yX1_init cX1_init 1 none]
def wsX5_init_r2 : List Cond := [Cond.methodLink RX1 3 objectInit, Cond.fieldLink RX1 9 "StarConsole$Cues" "time" "[I", Cond.fieldLink RX1 15 "StarConsole$Cues" "kind" "[I", Cond.fieldLink RX1 18 "StarConsole$Cues" "a" "[I", Cond.fieldLink RX1 21 "StarConsole$Cues" "b" "[I", Cond.instanceMethod yX3_init, Cond.code yX3_init cX3_init 1 none, Cond.methodLink RX3 3 objectInit, Cond.fieldLink RX3 9 "StarConsole$Show" "line" "I", Cond.classLink RX3 15 RX2, Cond.instantiable RX2 6, Cond.initialized RX2, Cond.fieldLink RX3 18 "StarConsole$Show" "dimmers" "LStarConsole$Dimmers;", Cond.classLink RX3 22 RX0, Cond.instantiable RX0 4, Cond.initialized RX0, Cond.fieldLink RX3 25 "StarConsole$Show" "comets" "LStarConsole$Comets;", Cond.instanceMethod yX2_init, Cond.code yX2_init cX2_init 1 none, Cond.methodLink RX2 3 objectInit, Cond.fieldLink RX2 9 "StarConsole$Dimmers" "part" "[I", Cond.fieldLink RX2 15 "StarConsole$Dimmers" "level" "[I", Cond.fieldLink RX2 18 "StarConsole$Dimmers" "aim" "[I", Cond.fieldLink RX2 21 "StarConsole$Dimmers" "pace" "[I"]
def wsX5_init_r3 : List Cond := [Cond.fieldLink RX2 24 "StarConsole$Dimmers" "life" "[I", Cond.instanceMethod yX0_init, Cond.code yX0_init cX0_init 1 none, Cond.methodLink RX0 3 objectInit, Cond.fieldLink RX0 9 "StarConsole$Comets" "angle" "[I", Cond.fieldLink RX0 15 "StarConsole$Comets" "speed" "[I", Cond.fieldLink RX0 18 "StarConsole$Comets" "left" "[I"]
def wsX5_init : List Cond := .code yX5_init cX5_init 1 none :: ((wsX5_init_r1 ++ (wsX5_init_r2 ++ wsX5_init_r3)) ++ wsX40 ++ wsX50 ++ wsX10 ++ wsX30 ++ wsX20 ++ wsX00)
def wsX5_within : List Cond := .code yX5_within cX5_within 3 (some .boolean) :: ([])
def wsX5_dimmer : List Cond := .code yX5_dimmer cX5_dimmer 4 (some .int) :: ([.classLink RX5 37 "java/lang/IllegalArgumentException", .initialized "java/lang/IllegalArgumentException", .classLink RX5 58 "java/lang/IllegalStateException", .initialized "java/lang/IllegalStateException", .fieldLink RX5 26 "StarConsole" "show" "LStarConsole$Show;", .fieldLink RX5 48 "StarConsole$Show" "dimmers" "LStarConsole$Dimmers;", .fieldLink RX5 52 "StarConsole$Dimmers" "size" "I", .methodLink RX5 33 yX5_within, .static yX5_within, .initialized RX5, .code yX5_within cX5_within 3 (some .boolean), .methodLink RX5 63 yX2_add, .instanceMethod yX2_add, .selects RX2 yX2_add yX2_add, .initialized RX2, .code yX2_add cX2_add 5 (some .int), .fieldLink RX2 27 "StarConsole$Dimmers" "size" "I", .fieldLink RX2 9 "StarConsole$Dimmers" "part" "[I", .fieldLink RX2 15 "StarConsole$Dimmers" "level" "[I", .fieldLink RX2 18 "StarConsole$Dimmers" "aim" "[I", .fieldLink RX2 21 "StarConsole$Dimmers" "pace" "[I", .fieldLink RX2 24 "StarConsole$Dimmers" "life" "[I"] ++ wsX50 ++ wsX30 ++ wsX20 ++ (vx_atS RX5 41 "java/lang/IllegalArgumentException" ["java/lang/RuntimeException", "java/lang/Exception"]).filter goodWord ++ (vx_atS RX5 62 "java/lang/IllegalStateException" ["java/lang/RuntimeException", "java/lang/Exception"]).filter goodWord)
def wsX5_lamp_r1 : List Cond := [Cond.classLink RX5 71 "java/lang/IndexOutOfBoundsException", Cond.initialized "java/lang/IndexOutOfBoundsException", Cond.classLink RX5 37 "java/lang/IllegalArgumentException", Cond.initialized "java/lang/IllegalArgumentException", Cond.fieldLink RX5 26 "StarConsole" "show" "LStarConsole$Show;", Cond.fieldLink RX5 48 "StarConsole$Show" "dimmers" "LStarConsole$Dimmers;", Cond.methodLink RX5 67 yX2_has, Cond.instanceMethod yX2_has, Cond.selects RX2 yX2_has yX2_has, Cond.initialized RX2, Cond.code yX2_has cX2_has 2 (some .boolean), Cond.fieldLink RX2 27 "StarConsole$Dimmers" "size" "I", Cond.methodLink RX5 33 yX5_within, Cond.static yX5_within, Cond.initialized RX5, Cond.code yX5_within cX5_within 3 (some .boolean), Cond.methodLink RX5 76 yX2_changeLamp, Cond.instanceMethod yX2_changeLamp, Cond.selects RX2 yX2_changeLamp yX2_changeLamp, Cond.code yX2_changeLamp cX2_changeLamp 4 (some .int), Cond.fieldLink RX2 24 "StarConsole$Dimmers" "life" "[I", Cond.methodLink RX2 31 yX2_has, Cond.methodLink RX2 35 yX2_darkenWithoutLife, Cond.instanceMethod yX2_darkenWithoutLife]
def wsX5_lamp_r2 : List Cond := [Cond.selects RX2 yX2_darkenWithoutLife yX2_darkenWithoutLife, Cond.code yX2_darkenWithoutLife cX2_darkenWithoutLife 2 none, Cond.fieldLink RX2 15 "StarConsole$Dimmers" "level" "[I"]
def wsX5_lamp : List Cond := .code yX5_lamp cX5_lamp 3 (some .int) :: ((wsX5_lamp_r1 ++ wsX5_lamp_r2) ++ wsX50 ++ wsX30 ++ wsX20 ++ (vx_atS RX5 75 "java/lang/IndexOutOfBoundsException" ["java/lang/RuntimeException", "java/lang/Exception"]).filter goodWord ++ (vx_atS RX5 41 "java/lang/IllegalArgumentException" ["java/lang/RuntimeException", "java/lang/Exception"]).filter goodWord)
def wsX5_star : List Cond := .code yX5_star cX5_star 3 (some .int) :: ([.classLink RX5 37 "java/lang/IllegalArgumentException", .initialized "java/lang/IllegalArgumentException", .classLink RX5 58 "java/lang/IllegalStateException", .initialized "java/lang/IllegalStateException", .fieldLink RX5 10 "StarConsole" "stars" "LStarConsole$Stars;", .fieldLink RX5 84 "StarConsole$Stars" "size" "I", .methodLink RX5 33 yX5_within, .static yX5_within, .initialized RX5, .code yX5_within cX5_within 3 (some .boolean), .methodLink RX5 87 yX4_add, .instanceMethod yX4_add, .selects RX4 yX4_add yX4_add, .initialized RX4, .code yX4_add cX4_add 4 (some .int), .fieldLink RX4 18 "StarConsole$Stars" "size" "I", .fieldLink RX4 9 "StarConsole$Stars" "degree" "[I", .fieldLink RX4 15 "StarConsole$Stars" "light" "[I"] ++ wsX50 ++ wsX40 ++ (vx_atS RX5 41 "java/lang/IllegalArgumentException" ["java/lang/RuntimeException", "java/lang/Exception"]).filter goodWord ++ (vx_atS RX5 62 "java/lang/IllegalStateException" ["java/lang/RuntimeException", "java/lang/Exception"]).filter goodWord)
def wsX5_suits : List Cond := .code yX5_suits cX5_suits 4 (some .boolean) :: ([.fieldLink RX5 26 "StarConsole" "show" "LStarConsole$Show;", .fieldLink RX5 48 "StarConsole$Show" "dimmers" "LStarConsole$Dimmers;", .methodLink RX5 67 yX2_has, .instanceMethod yX2_has, .selects RX2 yX2_has yX2_has, .initialized RX2, .code yX2_has cX2_has 2 (some .boolean), .fieldLink RX2 27 "StarConsole$Dimmers" "size" "I", .methodLink RX5 33 yX5_within, .static yX5_within, .initialized RX5, .code yX5_within cX5_within 3 (some .boolean)] ++ wsX50 ++ wsX30 ++ wsX20)
def wsX5_cue_r1 : List Cond := [Cond.classLink RX5 37 "java/lang/IllegalArgumentException", Cond.initialized "java/lang/IllegalArgumentException", Cond.classLink RX5 58 "java/lang/IllegalStateException", Cond.initialized "java/lang/IllegalStateException", Cond.fieldLink RX5 19 "StarConsole" "cues" "LStarConsole$Cues;", Cond.fieldLink RX5 98 "StarConsole$Cues" "size" "I", Cond.methodLink RX5 33 yX5_within, Cond.static yX5_within, Cond.initialized RX5, Cond.code yX5_within cX5_within 3 (some .boolean), Cond.methodLink RX5 93 yX5_suits, Cond.instanceMethod yX5_suits, Cond.selects RX5 yX5_suits yX5_suits, Cond.code yX5_suits cX5_suits 4 (some .boolean), Cond.fieldLink RX5 26 "StarConsole" "show" "LStarConsole$Show;", Cond.fieldLink RX5 48 "StarConsole$Show" "dimmers" "LStarConsole$Dimmers;", Cond.methodLink RX5 67 yX2_has, Cond.instanceMethod yX2_has, Cond.selects RX2 yX2_has yX2_has, Cond.initialized RX2, Cond.code yX2_has cX2_has 2 (some .boolean), Cond.fieldLink RX2 27 "StarConsole$Dimmers" "size" "I", Cond.methodLink RX5 101 yX1_add, Cond.instanceMethod yX1_add]
def wsX5_cue_r2 : List Cond := [Cond.selects RX1 yX1_add yX1_add, Cond.initialized RX1, Cond.code yX1_add cX1_add 6 (some .int), Cond.fieldLink RX1 24 "StarConsole$Cues" "size" "I", Cond.fieldLink RX1 9 "StarConsole$Cues" "time" "[I", Cond.fieldLink RX1 15 "StarConsole$Cues" "kind" "[I", Cond.fieldLink RX1 18 "StarConsole$Cues" "a" "[I", Cond.fieldLink RX1 21 "StarConsole$Cues" "b" "[I"]
def wsX5_cue : List Cond := .code yX5_cue cX5_cue 5 (some .int) :: ((wsX5_cue_r1 ++ wsX5_cue_r2) ++ wsX50 ++ wsX10 ++ wsX30 ++ wsX20 ++ (vx_atS RX5 41 "java/lang/IllegalArgumentException" ["java/lang/RuntimeException", "java/lang/Exception"]).filter goodWord ++ (vx_atS RX5 62 "java/lang/IllegalStateException" ["java/lang/RuntimeException", "java/lang/Exception"]).filter goodWord)
def wsX5_run : List Cond := .code yX5_run cX5_run 1 (some .boolean) :: ([.fieldLink RX5 26 "StarConsole" "show" "LStarConsole$Show;", .fieldLink RX5 104 "StarConsole$Show" "clockRuns" "Z"] ++ wsX50 ++ wsX30)
def wsX5_jump : List Cond := .code yX5_jump cX5_jump 3 (some .int) :: ([.classLink RX5 37 "java/lang/IllegalArgumentException", .initialized "java/lang/IllegalArgumentException", .fieldLink RX5 26 "StarConsole" "show" "LStarConsole$Show;", .fieldLink RX5 110 "StarConsole$Show" "clock" "I", .methodLink RX5 33 yX5_within, .static yX5_within, .initialized RX5, .code yX5_within cX5_within 3 (some .boolean)] ++ wsX50 ++ wsX30 ++ (vx_atS RX5 41 "java/lang/IllegalArgumentException" ["java/lang/RuntimeException", "java/lang/Exception"]).filter goodWord)
def wsX5_fade : List Cond := .code yX5_fade cX5_fade 3 (some .int) :: ([.classLink RX5 71 "java/lang/IndexOutOfBoundsException", .initialized "java/lang/IndexOutOfBoundsException", .classLink RX5 37 "java/lang/IllegalArgumentException", .initialized "java/lang/IllegalArgumentException", .fieldLink RX5 26 "StarConsole" "show" "LStarConsole$Show;", .fieldLink RX5 48 "StarConsole$Show" "dimmers" "LStarConsole$Dimmers;", .methodLink RX5 67 yX2_has, .instanceMethod yX2_has, .selects RX2 yX2_has yX2_has, .initialized RX2, .code yX2_has cX2_has 2 (some .boolean), .fieldLink RX2 27 "StarConsole$Dimmers" "size" "I", .methodLink RX5 33 yX5_within, .static yX5_within, .initialized RX5, .code yX5_within cX5_within 3 (some .boolean), .methodLink RX5 115 yX2_changeAim, .instanceMethod yX2_changeAim, .selects RX2 yX2_changeAim yX2_changeAim, .code yX2_changeAim cX2_changeAim 4 (some .int), .fieldLink RX2 18 "StarConsole$Dimmers" "aim" "[I", .methodLink RX2 31 yX2_has] ++ wsX50 ++ wsX30 ++ wsX20 ++ (vx_atS RX5 75 "java/lang/IndexOutOfBoundsException" ["java/lang/RuntimeException", "java/lang/Exception"]).filter goodWord ++ (vx_atS RX5 41 "java/lang/IllegalArgumentException" ["java/lang/RuntimeException", "java/lang/Exception"]).filter goodWord)
def wsX5_pass_r1 : List Cond := [Cond.classLink RX5 37 "java/lang/IllegalArgumentException", Cond.initialized "java/lang/IllegalArgumentException", Cond.fieldLink RX5 26 "StarConsole" "show" "LStarConsole$Show;", Cond.fieldLink RX5 19 "StarConsole" "cues" "LStarConsole$Cues;", Cond.methodLink RX5 33 yX5_within, Cond.static yX5_within, Cond.initialized RX5, Cond.code yX5_within cX5_within 3 (some .boolean), Cond.methodLink RX5 120 yX3_goOnFor, Cond.instanceMethod yX3_goOnFor, Cond.selects RX3 yX3_goOnFor yX3_goOnFor, Cond.initialized RX3, Cond.code yX3_goOnFor cX3_goOnFor 5 (some .int), Cond.methodLink RX3 55 yX3_goOn, Cond.instanceMethod yX3_goOn, Cond.selects RX3 yX3_goOn yX3_goOn, Cond.code yX3_goOn cX3_goOn 3 (some .int), Cond.fieldLink RX3 35 "StarConsole$Show" "clockRuns" "Z", Cond.fieldLink RX3 18 "StarConsole$Show" "dimmers" "LStarConsole$Dimmers;", Cond.fieldLink RX3 39 "StarConsole$Show" "ballAngle" "I", Cond.fieldLink RX3 42 "StarConsole$Show" "ballSpeed" "I", Cond.fieldLink RX3 25 "StarConsole$Show" "comets" "LStarConsole$Comets;", Cond.fieldLink RX3 29 "StarConsole$Show" "tick" "I", Cond.methodLink RX3 59 yX3_runCues]
def wsX5_pass_r2 : List Cond := [Cond.instanceMethod yX3_runCues, Cond.selects RX3 yX3_runCues yX3_runCues, Cond.code yX3_runCues cX3_runCues 4 (some .int), Cond.fieldLink RX3 72 "StarConsole$Cues" "size" "I", Cond.fieldLink RX3 77 "StarConsole$Cues" "time" "[I", Cond.fieldLink RX3 32 "StarConsole$Show" "clock" "I", Cond.fieldLink RX3 81 "StarConsole$Cues" "kind" "[I", Cond.fieldLink RX3 84 "StarConsole$Cues" "a" "[I", Cond.fieldLink RX3 87 "StarConsole$Cues" "b" "[I", Cond.methodLink RX3 90 yX3_obey, Cond.instanceMethod yX3_obey, Cond.selects RX3 yX3_obey yX3_obey, Cond.code yX3_obey cX3_obey 4 none, Cond.fieldLink RX3 9 "StarConsole$Show" "line" "I", Cond.fieldLink RX3 45 "StarConsole$Show" "speechLeft" "I", Cond.methodLink RX3 94 yX2_changeAim, Cond.instanceMethod yX2_changeAim, Cond.selects RX2 yX2_changeAim yX2_changeAim, Cond.initialized RX2, Cond.code yX2_changeAim cX2_changeAim 4 (some .int), Cond.fieldLink RX2 18 "StarConsole$Dimmers" "aim" "[I", Cond.methodLink RX2 31 yX2_has, Cond.instanceMethod yX2_has, Cond.selects RX2 yX2_has yX2_has]
def wsX5_pass_r3 : List Cond := [Cond.code yX2_has cX2_has 2 (some .boolean), Cond.fieldLink RX2 27 "StarConsole$Dimmers" "size" "I", Cond.methodLink RX3 97 yX0_addIfRoom, Cond.instanceMethod yX0_addIfRoom, Cond.selects RX0 yX0_addIfRoom yX0_addIfRoom, Cond.initialized RX0, Cond.code yX0_addIfRoom cX0_addIfRoom 4 none, Cond.fieldLink RX0 21 "StarConsole$Comets" "size" "I", Cond.fieldLink RX0 9 "StarConsole$Comets" "angle" "[I", Cond.fieldLink RX0 15 "StarConsole$Comets" "speed" "[I", Cond.fieldLink RX0 18 "StarConsole$Comets" "left" "[I", Cond.methodLink RX3 62 yX2_goOn, Cond.instanceMethod yX2_goOn, Cond.selects RX2 yX2_goOn yX2_goOn, Cond.code yX2_goOn cX2_goOn 2 none, Cond.fieldLink RX2 15 "StarConsole$Dimmers" "level" "[I", Cond.fieldLink RX2 21 "StarConsole$Dimmers" "pace" "[I", Cond.fieldLink RX2 24 "StarConsole$Dimmers" "life" "[I", Cond.methodLink RX2 43 Lib.Math.max.name, Cond.static Lib.Math.max.name, Cond.initialized "java/lang/Math", Cond.code Lib.Math.max.name Lib.Math.max.code 2 (some .int), Cond.methodLink RX2 39 yX2_approached, Cond.static yX2_approached]
def wsX5_pass_r4 : List Cond := [Cond.code yX2_approached cX2_approached 3 (some .int), Cond.methodLink RX2 49 Lib.Math.min.name, Cond.static Lib.Math.min.name, Cond.code Lib.Math.min.name Lib.Math.min.code 2 (some .int), Cond.methodLink RX2 35 yX2_darkenWithoutLife, Cond.instanceMethod yX2_darkenWithoutLife, Cond.selects RX2 yX2_darkenWithoutLife yX2_darkenWithoutLife, Cond.code yX2_darkenWithoutLife cX2_darkenWithoutLife 2 none, Cond.static yX5_turned, Cond.code yX5_turned cX5_turned 2 (some .int), Cond.methodLink RX5 213 yJ9_floorMod_7cf53, Cond.static yJ9_floorMod_7cf53, Cond.initialized RJ9, Cond.code yJ9_floorMod_7cf53 cJ9_floorMod_7cf53 3 (some .int), Cond.methodLink RX3 68 yX0_goOn, Cond.instanceMethod yX0_goOn, Cond.selects RX0 yX0_goOn yX0_goOn, Cond.code yX0_goOn cX0_goOn 2 none, Cond.methodLink RX3 69 yX3_speakOn, Cond.instanceMethod yX3_speakOn, Cond.selects RX3 yX3_speakOn yX3_speakOn, Cond.code yX3_speakOn cX3_speakOn 1 none]
def wsX5_pass : List Cond := .code yX5_pass cX5_pass 2 (some .int) :: ((wsX5_pass_r1 ++ (wsX5_pass_r2 ++ (wsX5_pass_r3 ++ wsX5_pass_r4))) ++ wsX50 ++ wsX30 ++ wsX10 ++ wsX20 ++ wsX00 ++ (vx_atS RX5 41 "java/lang/IllegalArgumentException" ["java/lang/RuntimeException", "java/lang/Exception"]).filter goodWord)
def wsX5_told : List Cond := .code yX5_told cX5_told 3 (some .int) :: ([.classLink RX5 71 "java/lang/IndexOutOfBoundsException", .initialized "java/lang/IndexOutOfBoundsException", .fieldLink RX5 26 "StarConsole" "show" "LStarConsole$Show;", .fieldLink RX5 48 "StarConsole$Show" "dimmers" "LStarConsole$Dimmers;", .methodLink RX5 67 yX2_has, .instanceMethod yX2_has, .selects RX2 yX2_has yX2_has, .initialized RX2, .code yX2_has cX2_has 2 (some .boolean), .fieldLink RX2 27 "StarConsole$Dimmers" "size" "I", .methodLink RX5 33 yX5_within, .static yX5_within, .initialized RX5, .code yX5_within cX5_within 3 (some .boolean), .methodLink RX5 126 yX2_fact, .instanceMethod yX2_fact, .selects RX2 yX2_fact yX2_fact, .code yX2_fact cX2_fact 3 (some .int), .fieldLink RX2 9 "StarConsole$Dimmers" "part" "[I", .fieldLink RX2 15 "StarConsole$Dimmers" "level" "[I", .fieldLink RX2 18 "StarConsole$Dimmers" "aim" "[I", .fieldLink RX2 21 "StarConsole$Dimmers" "pace" "[I", .fieldLink RX2 24 "StarConsole$Dimmers" "life" "[I", .methodLink RX2 31 yX2_has] ++ wsX50 ++ wsX30 ++ wsX20 ++ (vx_atS RX5 75 "java/lang/IndexOutOfBoundsException" ["java/lang/RuntimeException", "java/lang/Exception"]).filter goodWord)
def wsX5_glare : List Cond := .code yX5_glare cX5_glare 2 (some .int) :: ([.classLink RX5 71 "java/lang/IndexOutOfBoundsException", .initialized "java/lang/IndexOutOfBoundsException", .fieldLink RX5 26 "StarConsole" "show" "LStarConsole$Show;", .fieldLink RX5 48 "StarConsole$Show" "dimmers" "LStarConsole$Dimmers;", .methodLink RX5 33 yX5_within, .static yX5_within, .initialized RX5, .code yX5_within cX5_within 3 (some .boolean), .methodLink RX5 129 yX2_glareOn, .instanceMethod yX2_glareOn, .selects RX2 yX2_glareOn yX2_glareOn, .initialized RX2, .code yX2_glareOn cX2_glareOn 5 (some .int), .fieldLink RX2 27 "StarConsole$Dimmers" "size" "I", .fieldLink RX2 9 "StarConsole$Dimmers" "part" "[I", .fieldLink RX2 15 "StarConsole$Dimmers" "level" "[I", .methodLink RX2 52 yJ9_floorMod_7cf53, .static yJ9_floorMod_7cf53, .initialized RJ9, .code yJ9_floorMod_7cf53 cJ9_floorMod_7cf53 3 (some .int)] ++ wsX50 ++ wsX30 ++ wsX20 ++ (vx_atS RX5 75 "java/lang/IndexOutOfBoundsException" ["java/lang/RuntimeException", "java/lang/Exception"]).filter goodWord)
def wsX5_about_r1 : List Cond := [Cond.classLink RX5 71 "java/lang/IndexOutOfBoundsException", Cond.initialized "java/lang/IndexOutOfBoundsException", Cond.fieldLink RX5 10 "StarConsole" "stars" "LStarConsole$Stars;", Cond.fieldLink RX5 26 "StarConsole" "show" "LStarConsole$Show;", Cond.methodLink RX5 133 yX4_has, Cond.instanceMethod yX4_has, Cond.selects RX4 yX4_has yX4_has, Cond.initialized RX4, Cond.code yX4_has cX4_has 2 (some .boolean), Cond.fieldLink RX4 18 "StarConsole$Stars" "size" "I", Cond.methodLink RX5 33 yX5_within, Cond.static yX5_within, Cond.initialized RX5, Cond.code yX5_within cX5_within 3 (some .boolean), Cond.methodLink RX5 138 yX3_factOfStar, Cond.instanceMethod yX3_factOfStar, Cond.selects RX3 yX3_factOfStar yX3_factOfStar, Cond.initialized RX3, Cond.code yX3_factOfStar cX3_factOfStar 4 (some .int), Cond.fieldLink RX3 118 "StarConsole$Stars" "degree" "[I", Cond.fieldLink RX3 121 "StarConsole$Stars" "light" "[I", Cond.fieldLink RX3 39 "StarConsole$Show" "ballAngle" "I", Cond.methodLink RX3 114 yX4_has, Cond.static yX5_turned]
def wsX5_about_r2 : List Cond := [Cond.code yX5_turned cX5_turned 2 (some .int), Cond.methodLink RX5 213 yJ9_floorMod_7cf53, Cond.static yJ9_floorMod_7cf53, Cond.initialized RJ9, Cond.code yJ9_floorMod_7cf53 cJ9_floorMod_7cf53 3 (some .int), Cond.methodLink RX3 124 yX3_starSeen, Cond.instanceMethod yX3_starSeen, Cond.selects RX3 yX3_starSeen yX3_starSeen, Cond.code yX3_starSeen cX3_starSeen 3 (some .boolean), Cond.methodLink RX3 141 yX3_outshines, Cond.instanceMethod yX3_outshines, Cond.selects RX3 yX3_outshines yX3_outshines, Cond.code yX3_outshines cX3_outshines 3 (some .boolean), Cond.fieldLink RX3 18 "StarConsole$Show" "dimmers" "LStarConsole$Dimmers;", Cond.methodLink RX3 145 yX2_glareOn, Cond.instanceMethod yX2_glareOn, Cond.selects RX2 yX2_glareOn yX2_glareOn, Cond.initialized RX2, Cond.code yX2_glareOn cX2_glareOn 5 (some .int), Cond.fieldLink RX2 27 "StarConsole$Dimmers" "size" "I", Cond.fieldLink RX2 9 "StarConsole$Dimmers" "part" "[I", Cond.fieldLink RX2 15 "StarConsole$Dimmers" "level" "[I", Cond.methodLink RX2 52 yJ9_floorMod_7cf53]
def wsX5_about : List Cond := .code yX5_about cX5_about 3 (some .int) :: ((wsX5_about_r1 ++ wsX5_about_r2) ++ wsX50 ++ wsX40 ++ wsX30 ++ wsX20 ++ (vx_atS RX5 75 "java/lang/IndexOutOfBoundsException" ["java/lang/RuntimeException", "java/lang/Exception"]).filter goodWord)
def wsX5_comet_r1 : List Cond := [Cond.classLink RX5 71 "java/lang/IndexOutOfBoundsException", Cond.initialized "java/lang/IndexOutOfBoundsException", Cond.fieldLink RX5 26 "StarConsole" "show" "LStarConsole$Show;", Cond.fieldLink RX5 142 "StarConsole$Show" "comets" "LStarConsole$Comets;", Cond.methodLink RX5 146 yX0_has, Cond.instanceMethod yX0_has, Cond.selects RX0 yX0_has yX0_has, Cond.initialized RX0, Cond.code yX0_has cX0_has 2 (some .boolean), Cond.fieldLink RX0 21 "StarConsole$Comets" "size" "I", Cond.methodLink RX5 33 yX5_within, Cond.static yX5_within, Cond.initialized RX5, Cond.code yX5_within cX5_within 3 (some .boolean), Cond.methodLink RX5 151 yX3_factOfComet, Cond.instanceMethod yX3_factOfComet, Cond.selects RX3 yX3_factOfComet yX3_factOfComet, Cond.initialized RX3, Cond.code yX3_factOfComet cX3_factOfComet 3 (some .int), Cond.fieldLink RX3 25 "StarConsole$Show" "comets" "LStarConsole$Comets;", Cond.fieldLink RX3 129 "StarConsole$Comets" "angle" "[I", Cond.fieldLink RX3 132 "StarConsole$Comets" "speed" "[I", Cond.fieldLink RX3 135 "StarConsole$Comets" "left" "[I", Cond.methodLink RX3 128 yX0_has]
def wsX5_comet_r2 : List Cond := [Cond.methodLink RX3 138 yX3_cometSeen, Cond.instanceMethod yX3_cometSeen, Cond.selects RX3 yX3_cometSeen yX3_cometSeen, Cond.code yX3_cometSeen cX3_cometSeen 2 (some .boolean), Cond.methodLink RX3 141 yX3_outshines, Cond.instanceMethod yX3_outshines, Cond.selects RX3 yX3_outshines yX3_outshines, Cond.code yX3_outshines cX3_outshines 3 (some .boolean), Cond.fieldLink RX3 18 "StarConsole$Show" "dimmers" "LStarConsole$Dimmers;", Cond.methodLink RX3 145 yX2_glareOn, Cond.instanceMethod yX2_glareOn, Cond.selects RX2 yX2_glareOn yX2_glareOn, Cond.initialized RX2, Cond.code yX2_glareOn cX2_glareOn 5 (some .int), Cond.fieldLink RX2 27 "StarConsole$Dimmers" "size" "I", Cond.fieldLink RX2 9 "StarConsole$Dimmers" "part" "[I", Cond.fieldLink RX2 15 "StarConsole$Dimmers" "level" "[I", Cond.methodLink RX2 52 yJ9_floorMod_7cf53, Cond.static yJ9_floorMod_7cf53, Cond.initialized RJ9, Cond.code yJ9_floorMod_7cf53 cJ9_floorMod_7cf53 3 (some .int)]
def wsX5_comet : List Cond := .code yX5_comet cX5_comet 3 (some .int) :: ((wsX5_comet_r1 ++ wsX5_comet_r2) ++ wsX50 ++ wsX30 ++ wsX00 ++ wsX20 ++ (vx_atS RX5 75 "java/lang/IndexOutOfBoundsException" ["java/lang/RuntimeException", "java/lang/Exception"]).filter goodWord)
def wsX5_count_r1 : List Cond := [Cond.classLink RX5 71 "java/lang/IndexOutOfBoundsException", Cond.initialized "java/lang/IndexOutOfBoundsException", Cond.fieldLink RX5 26 "StarConsole" "show" "LStarConsole$Show;", Cond.fieldLink RX5 10 "StarConsole" "stars" "LStarConsole$Stars;", Cond.fieldLink RX5 19 "StarConsole" "cues" "LStarConsole$Cues;", Cond.methodLink RX5 33 yX5_within, Cond.static yX5_within, Cond.initialized RX5, Cond.code yX5_within cX5_within 3 (some .boolean), Cond.methodLink RX5 156 yX3_fact, Cond.instanceMethod yX3_fact, Cond.selects RX3 yX3_fact yX3_fact, Cond.initialized RX3, Cond.code yX3_fact cX3_fact 4 (some .int), Cond.fieldLink RX3 29 "StarConsole$Show" "tick" "I", Cond.fieldLink RX3 32 "StarConsole$Show" "clock" "I", Cond.fieldLink RX3 35 "StarConsole$Show" "clockRuns" "Z", Cond.fieldLink RX3 18 "StarConsole$Show" "dimmers" "LStarConsole$Dimmers;", Cond.fieldLink RX3 101 "StarConsole$Dimmers" "size" "I", Cond.fieldLink RX3 102 "StarConsole$Stars" "size" "I", Cond.fieldLink RX3 25 "StarConsole$Show" "comets" "LStarConsole$Comets;", Cond.fieldLink RX3 105 "StarConsole$Comets" "size" "I", Cond.fieldLink RX3 72 "StarConsole$Cues" "size" "I", Cond.fieldLink RX3 9 "StarConsole$Show" "line" "I"]
def wsX5_count_r2 : List Cond := [Cond.fieldLink RX3 45 "StarConsole$Show" "speechLeft" "I", Cond.fieldLink RX3 39 "StarConsole$Show" "ballAngle" "I", Cond.fieldLink RX3 42 "StarConsole$Show" "ballSpeed" "I", Cond.methodLink RX3 106 yX3_starsSeen, Cond.instanceMethod yX3_starsSeen, Cond.selects RX3 yX3_starsSeen yX3_starsSeen, Cond.code yX3_starsSeen cX3_starsSeen 4 (some .int), Cond.methodLink RX3 124 yX3_starSeen, Cond.instanceMethod yX3_starSeen, Cond.selects RX3 yX3_starSeen yX3_starSeen, Cond.code yX3_starSeen cX3_starSeen 3 (some .boolean), Cond.fieldLink RX3 118 "StarConsole$Stars" "degree" "[I", Cond.fieldLink RX3 121 "StarConsole$Stars" "light" "[I", Cond.methodLink RX3 114 yX4_has, Cond.instanceMethod yX4_has, Cond.selects RX4 yX4_has yX4_has, Cond.initialized RX4, Cond.code yX4_has cX4_has 2 (some .boolean), Cond.fieldLink RX4 18 "StarConsole$Stars" "size" "I", Cond.static yX5_turned, Cond.code yX5_turned cX5_turned 2 (some .int), Cond.methodLink RX5 213 yJ9_floorMod_7cf53, Cond.static yJ9_floorMod_7cf53, Cond.initialized RJ9]
def wsX5_count_r3 : List Cond := [Cond.code yJ9_floorMod_7cf53 cJ9_floorMod_7cf53 3 (some .int), Cond.methodLink RX3 141 yX3_outshines, Cond.instanceMethod yX3_outshines, Cond.selects RX3 yX3_outshines yX3_outshines, Cond.code yX3_outshines cX3_outshines 3 (some .boolean), Cond.methodLink RX3 145 yX2_glareOn, Cond.instanceMethod yX2_glareOn, Cond.selects RX2 yX2_glareOn yX2_glareOn, Cond.initialized RX2, Cond.code yX2_glareOn cX2_glareOn 5 (some .int), Cond.fieldLink RX2 27 "StarConsole$Dimmers" "size" "I", Cond.fieldLink RX2 9 "StarConsole$Dimmers" "part" "[I", Cond.fieldLink RX2 15 "StarConsole$Dimmers" "level" "[I", Cond.methodLink RX2 52 yJ9_floorMod_7cf53, Cond.methodLink RX3 110 yX3_cometsSeen, Cond.instanceMethod yX3_cometsSeen, Cond.selects RX3 yX3_cometsSeen yX3_cometsSeen, Cond.code yX3_cometsSeen cX3_cometsSeen 3 (some .int), Cond.methodLink RX3 138 yX3_cometSeen, Cond.instanceMethod yX3_cometSeen, Cond.selects RX3 yX3_cometSeen yX3_cometSeen, Cond.code yX3_cometSeen cX3_cometSeen 2 (some .boolean), Cond.fieldLink RX3 135 "StarConsole$Comets" "left" "[I", Cond.fieldLink RX3 129 "StarConsole$Comets" "angle" "[I"]
def wsX5_count_r4 : List Cond := [Cond.methodLink RX3 128 yX0_has, Cond.instanceMethod yX0_has, Cond.selects RX0 yX0_has yX0_has, Cond.initialized RX0, Cond.code yX0_has cX0_has 2 (some .boolean), Cond.fieldLink RX0 21 "StarConsole$Comets" "size" "I"]
def wsX5_count : List Cond := .code yX5_count cX5_count 2 (some .int) :: ((wsX5_count_r1 ++ (wsX5_count_r2 ++ (wsX5_count_r3 ++ wsX5_count_r4))) ++ wsX50 ++ wsX30 ++ wsX20 ++ wsX40 ++ wsX00 ++ wsX10 ++ (vx_atS RX5 75 "java/lang/IndexOutOfBoundsException" ["java/lang/RuntimeException", "java/lang/Exception"]).filter goodWord)
def wsX5_next : List Cond := .code yX5_next cX5_next 1 (some .int) :: ([.fieldLink RX5 19 "StarConsole" "cues" "LStarConsole$Cues;", .fieldLink RX5 26 "StarConsole" "show" "LStarConsole$Show;", .fieldLink RX5 110 "StarConsole$Show" "clock" "I", .methodLink RX5 159 yX1_firstFrom, .instanceMethod yX1_firstFrom, .selects RX1 yX1_firstFrom yX1_firstFrom, .initialized RX1, .code yX1_firstFrom cX1_firstFrom 4 (some .int), .fieldLink RX1 24 "StarConsole$Cues" "size" "I", .fieldLink RX1 9 "StarConsole$Cues" "time" "[I", .methodLink RX1 32 yX1_timeOf, .instanceMethod yX1_timeOf, .selects RX1 yX1_timeOf yX1_timeOf, .code yX1_timeOf cX1_timeOf 2 (some .int), .methodLink RX1 28 yX1_has, .instanceMethod yX1_has, .selects RX1 yX1_has yX1_has, .code yX1_has cX1_has 2 (some .boolean)] ++ wsX50 ++ wsX30 ++ wsX10)
def wsX5_when : List Cond := .code yX5_when cX5_when 3 (some .int) :: ([.classLink RX5 71 "java/lang/IndexOutOfBoundsException", .initialized "java/lang/IndexOutOfBoundsException", .fieldLink RX5 19 "StarConsole" "cues" "LStarConsole$Cues;", .fieldLink RX5 26 "StarConsole" "show" "LStarConsole$Show;", .fieldLink RX5 104 "StarConsole$Show" "clockRuns" "Z", .fieldLink RX5 110 "StarConsole$Show" "clock" "I", .methodLink RX5 162 yX1_has, .instanceMethod yX1_has, .selects RX1 yX1_has yX1_has, .initialized RX1, .code yX1_has cX1_has 2 (some .boolean), .fieldLink RX1 24 "StarConsole$Cues" "size" "I", .methodLink RX5 165 yX1_timeOf, .instanceMethod yX1_timeOf, .selects RX1 yX1_timeOf yX1_timeOf, .code yX1_timeOf cX1_timeOf 2 (some .int), .fieldLink RX1 9 "StarConsole$Cues" "time" "[I", .methodLink RX1 28 yX1_has, .methodLink RX5 168 yX1_holdWithin, .instanceMethod yX1_holdWithin, .selects RX1 yX1_holdWithin yX1_holdWithin, .code yX1_holdWithin cX1_holdWithin 4 (some .boolean), .fieldLink RX1 15 "StarConsole$Cues" "kind" "[I"] ++ wsX50 ++ wsX30 ++ wsX10 ++ (vx_atS RX5 75 "java/lang/IndexOutOfBoundsException" ["java/lang/RuntimeException", "java/lang/Exception"]).filter goodWord)
def wsX5_lasts_r1 : List Cond := [Cond.classLink RX5 71 "java/lang/IndexOutOfBoundsException", Cond.initialized "java/lang/IndexOutOfBoundsException", Cond.fieldLink RX5 26 "StarConsole" "show" "LStarConsole$Show;", Cond.fieldLink RX5 48 "StarConsole$Show" "dimmers" "LStarConsole$Dimmers;", Cond.fieldLink RX5 30 "StarConsole" "ahead" "LStarConsole$Show;", Cond.fieldLink RX5 19 "StarConsole" "cues" "LStarConsole$Cues;", Cond.methodLink RX5 67 yX2_has, Cond.instanceMethod yX2_has, Cond.selects RX2 yX2_has yX2_has, Cond.initialized RX2, Cond.code yX2_has cX2_has 2 (some .boolean), Cond.fieldLink RX2 27 "StarConsole$Dimmers" "size" "I", Cond.methodLink RX5 172 yX3_become, Cond.instanceMethod yX3_become, Cond.selects RX3 yX3_become yX3_become, Cond.initialized RX3, Cond.code yX3_become cX3_become 2 none, Cond.fieldLink RX3 29 "StarConsole$Show" "tick" "I", Cond.fieldLink RX3 32 "StarConsole$Show" "clock" "I", Cond.fieldLink RX3 35 "StarConsole$Show" "clockRuns" "Z", Cond.fieldLink RX3 39 "StarConsole$Show" "ballAngle" "I", Cond.fieldLink RX3 42 "StarConsole$Show" "ballSpeed" "I", Cond.fieldLink RX3 9 "StarConsole$Show" "line" "I", Cond.fieldLink RX3 45 "StarConsole$Show" "speechLeft" "I"]
def wsX5_lasts_r2 : List Cond := [Cond.fieldLink RX3 18 "StarConsole$Show" "dimmers" "LStarConsole$Dimmers;", Cond.fieldLink RX3 25 "StarConsole$Show" "comets" "LStarConsole$Comets;", Cond.methodLink RX3 48 yX2_become, Cond.instanceMethod yX2_become, Cond.selects RX2 yX2_become yX2_become, Cond.code yX2_become cX2_become 3 none, Cond.fieldLink RX2 9 "StarConsole$Dimmers" "part" "[I", Cond.fieldLink RX2 15 "StarConsole$Dimmers" "level" "[I", Cond.fieldLink RX2 18 "StarConsole$Dimmers" "aim" "[I", Cond.fieldLink RX2 21 "StarConsole$Dimmers" "pace" "[I", Cond.fieldLink RX2 24 "StarConsole$Dimmers" "life" "[I", Cond.methodLink RX3 52 yX0_become, Cond.instanceMethod yX0_become, Cond.selects RX0 yX0_become yX0_become, Cond.initialized RX0, Cond.code yX0_become cX0_become 3 none, Cond.fieldLink RX0 9 "StarConsole$Comets" "angle" "[I", Cond.fieldLink RX0 15 "StarConsole$Comets" "speed" "[I", Cond.fieldLink RX0 18 "StarConsole$Comets" "left" "[I", Cond.fieldLink RX0 21 "StarConsole$Comets" "size" "I", Cond.methodLink RX5 176 yX2_hasLife, Cond.instanceMethod yX2_hasLife, Cond.selects RX2 yX2_hasLife yX2_hasLife, Cond.code yX2_hasLife cX2_hasLife 2 (some .boolean)]
def wsX5_lasts_r3 : List Cond := [Cond.methodLink RX2 31 yX2_has, Cond.methodLink RX5 179 yX3_goOn, Cond.instanceMethod yX3_goOn, Cond.selects RX3 yX3_goOn yX3_goOn, Cond.code yX3_goOn cX3_goOn 3 (some .int), Cond.methodLink RX3 59 yX3_runCues, Cond.instanceMethod yX3_runCues, Cond.selects RX3 yX3_runCues yX3_runCues, Cond.code yX3_runCues cX3_runCues 4 (some .int), Cond.fieldLink RX3 72 "StarConsole$Cues" "size" "I", Cond.fieldLink RX3 77 "StarConsole$Cues" "time" "[I", Cond.fieldLink RX3 81 "StarConsole$Cues" "kind" "[I", Cond.fieldLink RX3 84 "StarConsole$Cues" "a" "[I", Cond.fieldLink RX3 87 "StarConsole$Cues" "b" "[I", Cond.methodLink RX3 90 yX3_obey, Cond.instanceMethod yX3_obey, Cond.selects RX3 yX3_obey yX3_obey, Cond.code yX3_obey cX3_obey 4 none, Cond.methodLink RX3 94 yX2_changeAim, Cond.instanceMethod yX2_changeAim, Cond.selects RX2 yX2_changeAim yX2_changeAim, Cond.code yX2_changeAim cX2_changeAim 4 (some .int), Cond.methodLink RX3 97 yX0_addIfRoom, Cond.instanceMethod yX0_addIfRoom]
def wsX5_lasts_r4 : List Cond := [Cond.selects RX0 yX0_addIfRoom yX0_addIfRoom, Cond.code yX0_addIfRoom cX0_addIfRoom 4 none, Cond.methodLink RX3 62 yX2_goOn, Cond.instanceMethod yX2_goOn, Cond.selects RX2 yX2_goOn yX2_goOn, Cond.code yX2_goOn cX2_goOn 2 none, Cond.methodLink RX2 43 Lib.Math.max.name, Cond.static Lib.Math.max.name, Cond.initialized "java/lang/Math", Cond.code Lib.Math.max.name Lib.Math.max.code 2 (some .int), Cond.methodLink RX2 39 yX2_approached, Cond.static yX2_approached, Cond.code yX2_approached cX2_approached 3 (some .int), Cond.methodLink RX2 49 Lib.Math.min.name, Cond.static Lib.Math.min.name, Cond.code Lib.Math.min.name Lib.Math.min.code 2 (some .int), Cond.methodLink RX2 35 yX2_darkenWithoutLife, Cond.instanceMethod yX2_darkenWithoutLife, Cond.selects RX2 yX2_darkenWithoutLife yX2_darkenWithoutLife, Cond.code yX2_darkenWithoutLife cX2_darkenWithoutLife 2 none, Cond.static yX5_turned, Cond.initialized RX5, Cond.code yX5_turned cX5_turned 2 (some .int), Cond.methodLink RX5 213 yJ9_floorMod_7cf53]
def wsX5_lasts_r5 : List Cond := [Cond.static yJ9_floorMod_7cf53, Cond.initialized RJ9, Cond.code yJ9_floorMod_7cf53 cJ9_floorMod_7cf53 3 (some .int), Cond.methodLink RX3 68 yX0_goOn, Cond.instanceMethod yX0_goOn, Cond.selects RX0 yX0_goOn yX0_goOn, Cond.code yX0_goOn cX0_goOn 2 none, Cond.methodLink RX3 69 yX3_speakOn, Cond.instanceMethod yX3_speakOn, Cond.selects RX3 yX3_speakOn yX3_speakOn, Cond.code yX3_speakOn cX3_speakOn 1 none]
def wsX5_lasts : List Cond := .code yX5_lasts cX5_lasts 3 (some .int) :: ((wsX5_lasts_r1 ++ (wsX5_lasts_r2 ++ (wsX5_lasts_r3 ++ (wsX5_lasts_r4 ++ wsX5_lasts_r5)))) ++ wsX50 ++ wsX30 ++ wsX20 ++ wsX00 ++ wsX10 ++ (vx_atS RX5 75 "java/lang/IndexOutOfBoundsException" ["java/lang/RuntimeException", "java/lang/Exception"]).filter goodWord)
def wsX5_foreseeable : List Cond := .code yX5_foreseeable cX5_foreseeable 1 (some .boolean) :: ([])
def wsX5_foresee_r1 : List Cond := [Cond.classLink RX5 37 "java/lang/IllegalArgumentException", Cond.initialized "java/lang/IllegalArgumentException", Cond.classLink RX5 71 "java/lang/IndexOutOfBoundsException", Cond.initialized "java/lang/IndexOutOfBoundsException", Cond.fieldLink RX5 30 "StarConsole" "ahead" "LStarConsole$Show;", Cond.fieldLink RX5 26 "StarConsole" "show" "LStarConsole$Show;", Cond.fieldLink RX5 19 "StarConsole" "cues" "LStarConsole$Cues;", Cond.fieldLink RX5 10 "StarConsole" "stars" "LStarConsole$Stars;", Cond.methodLink RX5 33 yX5_within, Cond.static yX5_within, Cond.initialized RX5, Cond.code yX5_within cX5_within 3 (some .boolean), Cond.methodLink RX5 183 yX5_foreseeable, Cond.static yX5_foreseeable, Cond.code yX5_foreseeable cX5_foreseeable 1 (some .boolean), Cond.methodLink RX5 172 yX3_become, Cond.instanceMethod yX3_become, Cond.selects RX3 yX3_become yX3_become, Cond.initialized RX3, Cond.code yX3_become cX3_become 2 none, Cond.fieldLink RX3 29 "StarConsole$Show" "tick" "I", Cond.fieldLink RX3 32 "StarConsole$Show" "clock" "I", Cond.fieldLink RX3 35 "StarConsole$Show" "clockRuns" "Z", Cond.fieldLink RX3 39 "StarConsole$Show" "ballAngle" "I"]
def wsX5_foresee_r2 : List Cond := [Cond.fieldLink RX3 42 "StarConsole$Show" "ballSpeed" "I", Cond.fieldLink RX3 9 "StarConsole$Show" "line" "I", Cond.fieldLink RX3 45 "StarConsole$Show" "speechLeft" "I", Cond.fieldLink RX3 18 "StarConsole$Show" "dimmers" "LStarConsole$Dimmers;", Cond.fieldLink RX3 25 "StarConsole$Show" "comets" "LStarConsole$Comets;", Cond.methodLink RX3 48 yX2_become, Cond.instanceMethod yX2_become, Cond.selects RX2 yX2_become yX2_become, Cond.initialized RX2, Cond.code yX2_become cX2_become 3 none, Cond.fieldLink RX2 9 "StarConsole$Dimmers" "part" "[I", Cond.fieldLink RX2 15 "StarConsole$Dimmers" "level" "[I", Cond.fieldLink RX2 18 "StarConsole$Dimmers" "aim" "[I", Cond.fieldLink RX2 21 "StarConsole$Dimmers" "pace" "[I", Cond.fieldLink RX2 24 "StarConsole$Dimmers" "life" "[I", Cond.fieldLink RX2 27 "StarConsole$Dimmers" "size" "I", Cond.methodLink RX3 52 yX0_become, Cond.instanceMethod yX0_become, Cond.selects RX0 yX0_become yX0_become, Cond.initialized RX0, Cond.code yX0_become cX0_become 3 none, Cond.fieldLink RX0 9 "StarConsole$Comets" "angle" "[I", Cond.fieldLink RX0 15 "StarConsole$Comets" "speed" "[I", Cond.fieldLink RX0 18 "StarConsole$Comets" "left" "[I"]
def wsX5_foresee_r3 : List Cond := [Cond.fieldLink RX0 21 "StarConsole$Comets" "size" "I", Cond.methodLink RX5 120 yX3_goOnFor, Cond.instanceMethod yX3_goOnFor, Cond.selects RX3 yX3_goOnFor yX3_goOnFor, Cond.code yX3_goOnFor cX3_goOnFor 5 (some .int), Cond.methodLink RX3 55 yX3_goOn, Cond.instanceMethod yX3_goOn, Cond.selects RX3 yX3_goOn yX3_goOn, Cond.code yX3_goOn cX3_goOn 3 (some .int), Cond.methodLink RX3 59 yX3_runCues, Cond.instanceMethod yX3_runCues, Cond.selects RX3 yX3_runCues yX3_runCues, Cond.code yX3_runCues cX3_runCues 4 (some .int), Cond.fieldLink RX3 72 "StarConsole$Cues" "size" "I", Cond.fieldLink RX3 77 "StarConsole$Cues" "time" "[I", Cond.fieldLink RX3 81 "StarConsole$Cues" "kind" "[I", Cond.fieldLink RX3 84 "StarConsole$Cues" "a" "[I", Cond.fieldLink RX3 87 "StarConsole$Cues" "b" "[I", Cond.methodLink RX3 90 yX3_obey, Cond.instanceMethod yX3_obey, Cond.selects RX3 yX3_obey yX3_obey, Cond.code yX3_obey cX3_obey 4 none, Cond.methodLink RX3 94 yX2_changeAim, Cond.instanceMethod yX2_changeAim]
def wsX5_foresee_r4 : List Cond := [Cond.selects RX2 yX2_changeAim yX2_changeAim, Cond.code yX2_changeAim cX2_changeAim 4 (some .int), Cond.methodLink RX2 31 yX2_has, Cond.instanceMethod yX2_has, Cond.selects RX2 yX2_has yX2_has, Cond.code yX2_has cX2_has 2 (some .boolean), Cond.methodLink RX3 97 yX0_addIfRoom, Cond.instanceMethod yX0_addIfRoom, Cond.selects RX0 yX0_addIfRoom yX0_addIfRoom, Cond.code yX0_addIfRoom cX0_addIfRoom 4 none, Cond.methodLink RX3 62 yX2_goOn, Cond.instanceMethod yX2_goOn, Cond.selects RX2 yX2_goOn yX2_goOn, Cond.code yX2_goOn cX2_goOn 2 none, Cond.methodLink RX2 43 Lib.Math.max.name, Cond.static Lib.Math.max.name, Cond.initialized "java/lang/Math", Cond.code Lib.Math.max.name Lib.Math.max.code 2 (some .int), Cond.methodLink RX2 39 yX2_approached, Cond.static yX2_approached, Cond.code yX2_approached cX2_approached 3 (some .int), Cond.methodLink RX2 49 Lib.Math.min.name, Cond.static Lib.Math.min.name, Cond.code Lib.Math.min.name Lib.Math.min.code 2 (some .int)]
def wsX5_foresee_r5 : List Cond := [Cond.methodLink RX2 35 yX2_darkenWithoutLife, Cond.instanceMethod yX2_darkenWithoutLife, Cond.selects RX2 yX2_darkenWithoutLife yX2_darkenWithoutLife, Cond.code yX2_darkenWithoutLife cX2_darkenWithoutLife 2 none, Cond.static yX5_turned, Cond.code yX5_turned cX5_turned 2 (some .int), Cond.methodLink RX5 213 yJ9_floorMod_7cf53, Cond.static yJ9_floorMod_7cf53, Cond.initialized RJ9, Cond.code yJ9_floorMod_7cf53 cJ9_floorMod_7cf53 3 (some .int), Cond.methodLink RX3 68 yX0_goOn, Cond.instanceMethod yX0_goOn, Cond.selects RX0 yX0_goOn yX0_goOn, Cond.code yX0_goOn cX0_goOn 2 none, Cond.methodLink RX3 69 yX3_speakOn, Cond.instanceMethod yX3_speakOn, Cond.selects RX3 yX3_speakOn yX3_speakOn, Cond.code yX3_speakOn cX3_speakOn 1 none, Cond.methodLink RX5 156 yX3_fact, Cond.instanceMethod yX3_fact, Cond.selects RX3 yX3_fact yX3_fact, Cond.code yX3_fact cX3_fact 4 (some .int), Cond.fieldLink RX3 101 "StarConsole$Dimmers" "size" "I", Cond.fieldLink RX3 102 "StarConsole$Stars" "size" "I"]
def wsX5_foresee_r6 : List Cond := [Cond.fieldLink RX3 105 "StarConsole$Comets" "size" "I", Cond.methodLink RX3 106 yX3_starsSeen, Cond.instanceMethod yX3_starsSeen, Cond.selects RX3 yX3_starsSeen yX3_starsSeen, Cond.code yX3_starsSeen cX3_starsSeen 4 (some .int), Cond.methodLink RX3 124 yX3_starSeen, Cond.instanceMethod yX3_starSeen, Cond.selects RX3 yX3_starSeen yX3_starSeen, Cond.code yX3_starSeen cX3_starSeen 3 (some .boolean), Cond.fieldLink RX3 118 "StarConsole$Stars" "degree" "[I", Cond.fieldLink RX3 121 "StarConsole$Stars" "light" "[I", Cond.methodLink RX3 114 yX4_has, Cond.instanceMethod yX4_has, Cond.selects RX4 yX4_has yX4_has, Cond.initialized RX4, Cond.code yX4_has cX4_has 2 (some .boolean), Cond.fieldLink RX4 18 "StarConsole$Stars" "size" "I", Cond.methodLink RX3 141 yX3_outshines, Cond.instanceMethod yX3_outshines, Cond.selects RX3 yX3_outshines yX3_outshines, Cond.code yX3_outshines cX3_outshines 3 (some .boolean), Cond.methodLink RX3 145 yX2_glareOn, Cond.instanceMethod yX2_glareOn, Cond.selects RX2 yX2_glareOn yX2_glareOn]
def wsX5_foresee_r7 : List Cond := [Cond.code yX2_glareOn cX2_glareOn 5 (some .int), Cond.methodLink RX2 52 yJ9_floorMod_7cf53, Cond.methodLink RX3 110 yX3_cometsSeen, Cond.instanceMethod yX3_cometsSeen, Cond.selects RX3 yX3_cometsSeen yX3_cometsSeen, Cond.code yX3_cometsSeen cX3_cometsSeen 3 (some .int), Cond.methodLink RX3 138 yX3_cometSeen, Cond.instanceMethod yX3_cometSeen, Cond.selects RX3 yX3_cometSeen yX3_cometSeen, Cond.code yX3_cometSeen cX3_cometSeen 2 (some .boolean), Cond.fieldLink RX3 135 "StarConsole$Comets" "left" "[I", Cond.fieldLink RX3 129 "StarConsole$Comets" "angle" "[I", Cond.methodLink RX3 128 yX0_has, Cond.instanceMethod yX0_has, Cond.selects RX0 yX0_has yX0_has, Cond.code yX0_has cX0_has 2 (some .boolean)]
def wsX5_foresee : List Cond := .code yX5_foresee cX5_foresee 3 (some .int) :: ((wsX5_foresee_r1 ++ (wsX5_foresee_r2 ++ (wsX5_foresee_r3 ++ (wsX5_foresee_r4 ++ (wsX5_foresee_r5 ++ (wsX5_foresee_r6 ++ wsX5_foresee_r7)))))) ++ wsX50 ++ wsX30 ++ wsX20 ++ wsX00 ++ wsX10 ++ wsX40 ++ (vx_atS RX5 41 "java/lang/IllegalArgumentException" ["java/lang/RuntimeException", "java/lang/Exception"]).filter goodWord ++ (vx_atS RX5 75 "java/lang/IndexOutOfBoundsException" ["java/lang/RuntimeException", "java/lang/Exception"]).filter goodWord)
def wsX5_darkest : List Cond := .code yX5_darkest cX5_darkest 3 (some .int) :: ([.fieldLink RX5 26 "StarConsole" "show" "LStarConsole$Show;", .fieldLink RX5 48 "StarConsole$Show" "dimmers" "LStarConsole$Dimmers;", .methodLink RX5 129 yX2_glareOn, .instanceMethod yX2_glareOn, .selects RX2 yX2_glareOn yX2_glareOn, .initialized RX2, .code yX2_glareOn cX2_glareOn 5 (some .int), .fieldLink RX2 27 "StarConsole$Dimmers" "size" "I", .fieldLink RX2 9 "StarConsole$Dimmers" "part" "[I", .fieldLink RX2 15 "StarConsole$Dimmers" "level" "[I", .methodLink RX2 52 yJ9_floorMod_7cf53, .static yJ9_floorMod_7cf53, .initialized RJ9, .code yJ9_floorMod_7cf53 cJ9_floorMod_7cf53 3 (some .int)] ++ wsX50 ++ wsX30 ++ wsX20)
def wsX5_mean : List Cond := .code yX5_mean cX5_mean 3 (some .double) :: ([.fieldLink RX5 26 "StarConsole" "show" "LStarConsole$Show;", .fieldLink RX5 48 "StarConsole$Show" "dimmers" "LStarConsole$Dimmers;", .constantDouble RX5 188 (4622945017495814144), .methodLink RX5 129 yX2_glareOn, .instanceMethod yX2_glareOn, .selects RX2 yX2_glareOn yX2_glareOn, .initialized RX2, .code yX2_glareOn cX2_glareOn 5 (some .int), .fieldLink RX2 27 "StarConsole$Dimmers" "size" "I", .fieldLink RX2 9 "StarConsole$Dimmers" "part" "[I", .fieldLink RX2 15 "StarConsole$Dimmers" "level" "[I", .methodLink RX2 52 yJ9_floorMod_7cf53, .static yJ9_floorMod_7cf53, .initialized RJ9, .code yJ9_floorMod_7cf53 cJ9_floorMod_7cf53 3 (some .int)] ++ wsX50 ++ wsX30 ++ wsX20)
def wsX5_joined : List Cond := .code yX5_joined cX5_joined 3 (some .long) :: ([.constantLong RX5 211 (31)])
def wsX5_joinedDimmers : List Cond := .code yX5_joinedDimmers cX5_joinedDimmers 7 (some .long) :: ([.fieldLink RX5 26 "StarConsole" "show" "LStarConsole$Show;", .fieldLink RX5 48 "StarConsole$Show" "dimmers" "LStarConsole$Dimmers;", .fieldLink RX5 52 "StarConsole$Dimmers" "size" "I", .methodLink RX5 126 yX2_fact, .instanceMethod yX2_fact, .selects RX2 yX2_fact yX2_fact, .initialized RX2, .code yX2_fact cX2_fact 3 (some .int), .fieldLink RX2 9 "StarConsole$Dimmers" "part" "[I", .fieldLink RX2 15 "StarConsole$Dimmers" "level" "[I", .fieldLink RX2 18 "StarConsole$Dimmers" "aim" "[I", .fieldLink RX2 21 "StarConsole$Dimmers" "pace" "[I", .fieldLink RX2 24 "StarConsole$Dimmers" "life" "[I", .methodLink RX2 31 yX2_has, .instanceMethod yX2_has, .selects RX2 yX2_has yX2_has, .code yX2_has cX2_has 2 (some .boolean), .fieldLink RX2 27 "StarConsole$Dimmers" "size" "I", .methodLink RX5 192 yX5_joined, .static yX5_joined, .initialized RX5, .code yX5_joined cX5_joined 3 (some .long), .constantLong RX5 211 (31)] ++ wsX50 ++ wsX30 ++ wsX20)
def wsX5_joinedStars_r1 : List Cond := [Cond.fieldLink RX5 10 "StarConsole" "stars" "LStarConsole$Stars;", Cond.fieldLink RX5 84 "StarConsole$Stars" "size" "I", Cond.fieldLink RX5 26 "StarConsole" "show" "LStarConsole$Show;", Cond.methodLink RX5 138 yX3_factOfStar, Cond.instanceMethod yX3_factOfStar, Cond.selects RX3 yX3_factOfStar yX3_factOfStar, Cond.initialized RX3, Cond.code yX3_factOfStar cX3_factOfStar 4 (some .int), Cond.fieldLink RX3 118 "StarConsole$Stars" "degree" "[I", Cond.fieldLink RX3 121 "StarConsole$Stars" "light" "[I", Cond.fieldLink RX3 39 "StarConsole$Show" "ballAngle" "I", Cond.methodLink RX3 114 yX4_has, Cond.instanceMethod yX4_has, Cond.selects RX4 yX4_has yX4_has, Cond.initialized RX4, Cond.code yX4_has cX4_has 2 (some .boolean), Cond.fieldLink RX4 18 "StarConsole$Stars" "size" "I", Cond.static yX5_turned, Cond.initialized RX5, Cond.code yX5_turned cX5_turned 2 (some .int), Cond.methodLink RX5 213 yJ9_floorMod_7cf53, Cond.static yJ9_floorMod_7cf53, Cond.initialized RJ9, Cond.code yJ9_floorMod_7cf53 cJ9_floorMod_7cf53 3 (some .int)]
def wsX5_joinedStars_r2 : List Cond := [Cond.methodLink RX3 124 yX3_starSeen, Cond.instanceMethod yX3_starSeen, Cond.selects RX3 yX3_starSeen yX3_starSeen, Cond.code yX3_starSeen cX3_starSeen 3 (some .boolean), Cond.methodLink RX3 141 yX3_outshines, Cond.instanceMethod yX3_outshines, Cond.selects RX3 yX3_outshines yX3_outshines, Cond.code yX3_outshines cX3_outshines 3 (some .boolean), Cond.fieldLink RX3 18 "StarConsole$Show" "dimmers" "LStarConsole$Dimmers;", Cond.methodLink RX3 145 yX2_glareOn, Cond.instanceMethod yX2_glareOn, Cond.selects RX2 yX2_glareOn yX2_glareOn, Cond.initialized RX2, Cond.code yX2_glareOn cX2_glareOn 5 (some .int), Cond.fieldLink RX2 27 "StarConsole$Dimmers" "size" "I", Cond.fieldLink RX2 9 "StarConsole$Dimmers" "part" "[I", Cond.fieldLink RX2 15 "StarConsole$Dimmers" "level" "[I", Cond.methodLink RX2 52 yJ9_floorMod_7cf53, Cond.methodLink RX5 192 yX5_joined, Cond.static yX5_joined, Cond.code yX5_joined cX5_joined 3 (some .long), Cond.constantLong RX5 211 (31)]
def wsX5_joinedStars : List Cond := .code yX5_joinedStars cX5_joinedStars 7 (some .long) :: ((wsX5_joinedStars_r1 ++ wsX5_joinedStars_r2) ++ wsX50 ++ wsX40 ++ wsX30 ++ wsX20)
def wsX5_joinedComets_r1 : List Cond := [Cond.fieldLink RX5 26 "StarConsole" "show" "LStarConsole$Show;", Cond.fieldLink RX5 142 "StarConsole$Show" "comets" "LStarConsole$Comets;", Cond.fieldLink RX5 209 "StarConsole$Comets" "size" "I", Cond.methodLink RX5 151 yX3_factOfComet, Cond.instanceMethod yX3_factOfComet, Cond.selects RX3 yX3_factOfComet yX3_factOfComet, Cond.initialized RX3, Cond.code yX3_factOfComet cX3_factOfComet 3 (some .int), Cond.fieldLink RX3 25 "StarConsole$Show" "comets" "LStarConsole$Comets;", Cond.fieldLink RX3 129 "StarConsole$Comets" "angle" "[I", Cond.fieldLink RX3 132 "StarConsole$Comets" "speed" "[I", Cond.fieldLink RX3 135 "StarConsole$Comets" "left" "[I", Cond.methodLink RX3 128 yX0_has, Cond.instanceMethod yX0_has, Cond.selects RX0 yX0_has yX0_has, Cond.initialized RX0, Cond.code yX0_has cX0_has 2 (some .boolean), Cond.fieldLink RX0 21 "StarConsole$Comets" "size" "I", Cond.methodLink RX3 138 yX3_cometSeen, Cond.instanceMethod yX3_cometSeen, Cond.selects RX3 yX3_cometSeen yX3_cometSeen, Cond.code yX3_cometSeen cX3_cometSeen 2 (some .boolean), Cond.methodLink RX3 141 yX3_outshines, Cond.instanceMethod yX3_outshines]
def wsX5_joinedComets_r2 : List Cond := [Cond.selects RX3 yX3_outshines yX3_outshines, Cond.code yX3_outshines cX3_outshines 3 (some .boolean), Cond.fieldLink RX3 18 "StarConsole$Show" "dimmers" "LStarConsole$Dimmers;", Cond.methodLink RX3 145 yX2_glareOn, Cond.instanceMethod yX2_glareOn, Cond.selects RX2 yX2_glareOn yX2_glareOn, Cond.initialized RX2, Cond.code yX2_glareOn cX2_glareOn 5 (some .int), Cond.fieldLink RX2 27 "StarConsole$Dimmers" "size" "I", Cond.fieldLink RX2 9 "StarConsole$Dimmers" "part" "[I", Cond.fieldLink RX2 15 "StarConsole$Dimmers" "level" "[I", Cond.methodLink RX2 52 yJ9_floorMod_7cf53, Cond.static yJ9_floorMod_7cf53, Cond.initialized RJ9, Cond.code yJ9_floorMod_7cf53 cJ9_floorMod_7cf53 3 (some .int), Cond.methodLink RX5 192 yX5_joined, Cond.static yX5_joined, Cond.initialized RX5, Cond.code yX5_joined cX5_joined 3 (some .long), Cond.constantLong RX5 211 (31)]
def wsX5_joinedComets : List Cond := .code yX5_joinedComets cX5_joinedComets 7 (some .long) :: ((wsX5_joinedComets_r1 ++ wsX5_joinedComets_r2) ++ wsX50 ++ wsX30 ++ wsX00 ++ wsX20)
def wsX5_joinedCues : List Cond := .code yX5_joinedCues cX5_joinedCues 7 (some .long) :: ([.fieldLink RX5 19 "StarConsole" "cues" "LStarConsole$Cues;", .fieldLink RX5 98 "StarConsole$Cues" "size" "I", .methodLink RX5 210 yX1_fact, .instanceMethod yX1_fact, .selects RX1 yX1_fact yX1_fact, .initialized RX1, .code yX1_fact cX1_fact 3 (some .int), .fieldLink RX1 9 "StarConsole$Cues" "time" "[I", .fieldLink RX1 15 "StarConsole$Cues" "kind" "[I", .fieldLink RX1 18 "StarConsole$Cues" "a" "[I", .fieldLink RX1 21 "StarConsole$Cues" "b" "[I", .methodLink RX1 28 yX1_has, .instanceMethod yX1_has, .selects RX1 yX1_has yX1_has, .code yX1_has cX1_has 2 (some .boolean), .fieldLink RX1 24 "StarConsole$Cues" "size" "I", .methodLink RX5 192 yX5_joined, .static yX5_joined, .initialized RX5, .code yX5_joined cX5_joined 3 (some .long), .constantLong RX5 211 (31)] ++ wsX50 ++ wsX10)
def wsX5_digest_r1 : List Cond := [Cond.constantLong RX5 190 (1109), Cond.fieldLink RX5 26 "StarConsole" "show" "LStarConsole$Show;", Cond.fieldLink RX5 10 "StarConsole" "stars" "LStarConsole$Stars;", Cond.fieldLink RX5 19 "StarConsole" "cues" "LStarConsole$Cues;", Cond.fieldLink RX5 48 "StarConsole$Show" "dimmers" "LStarConsole$Dimmers;", Cond.methodLink RX5 156 yX3_fact, Cond.instanceMethod yX3_fact, Cond.selects RX3 yX3_fact yX3_fact, Cond.initialized RX3, Cond.code yX3_fact cX3_fact 4 (some .int), Cond.fieldLink RX3 29 "StarConsole$Show" "tick" "I", Cond.fieldLink RX3 32 "StarConsole$Show" "clock" "I", Cond.fieldLink RX3 35 "StarConsole$Show" "clockRuns" "Z", Cond.fieldLink RX3 18 "StarConsole$Show" "dimmers" "LStarConsole$Dimmers;", Cond.fieldLink RX3 101 "StarConsole$Dimmers" "size" "I", Cond.fieldLink RX3 102 "StarConsole$Stars" "size" "I", Cond.fieldLink RX3 25 "StarConsole$Show" "comets" "LStarConsole$Comets;", Cond.fieldLink RX3 105 "StarConsole$Comets" "size" "I", Cond.fieldLink RX3 72 "StarConsole$Cues" "size" "I", Cond.fieldLink RX3 9 "StarConsole$Show" "line" "I", Cond.fieldLink RX3 45 "StarConsole$Show" "speechLeft" "I", Cond.fieldLink RX3 39 "StarConsole$Show" "ballAngle" "I", Cond.fieldLink RX3 42 "StarConsole$Show" "ballSpeed" "I", Cond.methodLink RX3 106 yX3_starsSeen]
def wsX5_digest_r2 : List Cond := [Cond.instanceMethod yX3_starsSeen, Cond.selects RX3 yX3_starsSeen yX3_starsSeen, Cond.code yX3_starsSeen cX3_starsSeen 4 (some .int), Cond.methodLink RX3 124 yX3_starSeen, Cond.instanceMethod yX3_starSeen, Cond.selects RX3 yX3_starSeen yX3_starSeen, Cond.code yX3_starSeen cX3_starSeen 3 (some .boolean), Cond.fieldLink RX3 118 "StarConsole$Stars" "degree" "[I", Cond.fieldLink RX3 121 "StarConsole$Stars" "light" "[I", Cond.methodLink RX3 114 yX4_has, Cond.instanceMethod yX4_has, Cond.selects RX4 yX4_has yX4_has, Cond.initialized RX4, Cond.code yX4_has cX4_has 2 (some .boolean), Cond.fieldLink RX4 18 "StarConsole$Stars" "size" "I", Cond.static yX5_turned, Cond.initialized RX5, Cond.code yX5_turned cX5_turned 2 (some .int), Cond.methodLink RX5 213 yJ9_floorMod_7cf53, Cond.static yJ9_floorMod_7cf53, Cond.initialized RJ9, Cond.code yJ9_floorMod_7cf53 cJ9_floorMod_7cf53 3 (some .int), Cond.methodLink RX3 141 yX3_outshines, Cond.instanceMethod yX3_outshines]
def wsX5_digest_r3 : List Cond := [Cond.selects RX3 yX3_outshines yX3_outshines, Cond.code yX3_outshines cX3_outshines 3 (some .boolean), Cond.methodLink RX3 145 yX2_glareOn, Cond.instanceMethod yX2_glareOn, Cond.selects RX2 yX2_glareOn yX2_glareOn, Cond.initialized RX2, Cond.code yX2_glareOn cX2_glareOn 5 (some .int), Cond.fieldLink RX2 27 "StarConsole$Dimmers" "size" "I", Cond.fieldLink RX2 9 "StarConsole$Dimmers" "part" "[I", Cond.fieldLink RX2 15 "StarConsole$Dimmers" "level" "[I", Cond.methodLink RX2 52 yJ9_floorMod_7cf53, Cond.methodLink RX3 110 yX3_cometsSeen, Cond.instanceMethod yX3_cometsSeen, Cond.selects RX3 yX3_cometsSeen yX3_cometsSeen, Cond.code yX3_cometsSeen cX3_cometsSeen 3 (some .int), Cond.methodLink RX3 138 yX3_cometSeen, Cond.instanceMethod yX3_cometSeen, Cond.selects RX3 yX3_cometSeen yX3_cometSeen, Cond.code yX3_cometSeen cX3_cometSeen 2 (some .boolean), Cond.fieldLink RX3 135 "StarConsole$Comets" "left" "[I", Cond.fieldLink RX3 129 "StarConsole$Comets" "angle" "[I", Cond.methodLink RX3 128 yX0_has, Cond.instanceMethod yX0_has, Cond.selects RX0 yX0_has yX0_has]
def wsX5_digest_r4 : List Cond := [Cond.initialized RX0, Cond.code yX0_has cX0_has 2 (some .boolean), Cond.fieldLink RX0 21 "StarConsole$Comets" "size" "I", Cond.methodLink RX5 192 yX5_joined, Cond.static yX5_joined, Cond.code yX5_joined cX5_joined 3 (some .long), Cond.constantLong RX5 211 (31), Cond.methodLink RX5 129 yX2_glareOn, Cond.methodLink RX5 196 yX5_joinedDimmers, Cond.instanceMethod yX5_joinedDimmers, Cond.selects RX5 yX5_joinedDimmers yX5_joinedDimmers, Cond.code yX5_joinedDimmers cX5_joinedDimmers 7 (some .long), Cond.fieldLink RX5 52 "StarConsole$Dimmers" "size" "I", Cond.methodLink RX5 126 yX2_fact, Cond.instanceMethod yX2_fact, Cond.selects RX2 yX2_fact yX2_fact, Cond.code yX2_fact cX2_fact 3 (some .int), Cond.fieldLink RX2 18 "StarConsole$Dimmers" "aim" "[I", Cond.fieldLink RX2 21 "StarConsole$Dimmers" "pace" "[I", Cond.fieldLink RX2 24 "StarConsole$Dimmers" "life" "[I", Cond.methodLink RX2 31 yX2_has, Cond.instanceMethod yX2_has, Cond.selects RX2 yX2_has yX2_has, Cond.code yX2_has cX2_has 2 (some .boolean)]
def wsX5_digest_r5 : List Cond := [Cond.methodLink RX5 200 yX5_joinedStars, Cond.instanceMethod yX5_joinedStars, Cond.selects RX5 yX5_joinedStars yX5_joinedStars, Cond.code yX5_joinedStars cX5_joinedStars 7 (some .long), Cond.fieldLink RX5 84 "StarConsole$Stars" "size" "I", Cond.methodLink RX5 138 yX3_factOfStar, Cond.instanceMethod yX3_factOfStar, Cond.selects RX3 yX3_factOfStar yX3_factOfStar, Cond.code yX3_factOfStar cX3_factOfStar 4 (some .int), Cond.methodLink RX5 203 yX5_joinedComets, Cond.instanceMethod yX5_joinedComets, Cond.selects RX5 yX5_joinedComets yX5_joinedComets, Cond.code yX5_joinedComets cX5_joinedComets 7 (some .long), Cond.fieldLink RX5 142 "StarConsole$Show" "comets" "LStarConsole$Comets;", Cond.fieldLink RX5 209 "StarConsole$Comets" "size" "I", Cond.methodLink RX5 151 yX3_factOfComet, Cond.instanceMethod yX3_factOfComet, Cond.selects RX3 yX3_factOfComet yX3_factOfComet, Cond.code yX3_factOfComet cX3_factOfComet 3 (some .int), Cond.fieldLink RX3 132 "StarConsole$Comets" "speed" "[I", Cond.methodLink RX5 206 yX5_joinedCues, Cond.instanceMethod yX5_joinedCues, Cond.selects RX5 yX5_joinedCues yX5_joinedCues, Cond.code yX5_joinedCues cX5_joinedCues 7 (some .long)]
def wsX5_digest_r6 : List Cond := [Cond.fieldLink RX5 98 "StarConsole$Cues" "size" "I", Cond.methodLink RX5 210 yX1_fact, Cond.instanceMethod yX1_fact, Cond.selects RX1 yX1_fact yX1_fact, Cond.initialized RX1, Cond.code yX1_fact cX1_fact 3 (some .int), Cond.fieldLink RX1 9 "StarConsole$Cues" "time" "[I", Cond.fieldLink RX1 15 "StarConsole$Cues" "kind" "[I", Cond.fieldLink RX1 18 "StarConsole$Cues" "a" "[I", Cond.fieldLink RX1 21 "StarConsole$Cues" "b" "[I", Cond.methodLink RX1 28 yX1_has, Cond.instanceMethod yX1_has, Cond.selects RX1 yX1_has yX1_has, Cond.code yX1_has cX1_has 2 (some .boolean), Cond.fieldLink RX1 24 "StarConsole$Cues" "size" "I"]
def wsX5_digest : List Cond := .code yX5_digest cX5_digest 4 (some .long) :: ((wsX5_digest_r1 ++ (wsX5_digest_r2 ++ (wsX5_digest_r3 ++ (wsX5_digest_r4 ++ (wsX5_digest_r5 ++ wsX5_digest_r6))))) ++ wsX50 ++ wsX30 ++ wsX20 ++ wsX40 ++ wsX00 ++ wsX10)
def wsX6_init : List Cond := .code yX6_init cX6_init 1 none :: ([.methodLink RX6 1 objectInit, .instanceMethod objectInit, .code objectInit ⟨#[0xb1]⟩ 1 none, .arrayClass .int, .fieldLink RX6 9 "StarConsoleModel" "lamps" "[I", .fieldLink RX6 13 "StarConsoleModel" "sky" "[I", .fieldLink RX6 16 "StarConsoleModel" "tails" "[I", .fieldLink RX6 19 "StarConsoleModel" "show" "[I", .fieldLink RX6 22 "StarConsoleModel" "numbers" "[I"] ++ wsX60)
def wsX6_thrown : List Cond := .code yX6_thrown cX6_thrown 1 (some .int) :: ([.fieldLink RX6 25 "StarConsoleModel" "thrown" "I"] ++ wsX60)
def wsX6_fail : List Cond := .code yX6_fail cX6_fail 2 (some .int) :: ([.fieldLink RX6 25 "StarConsoleModel" "thrown" "I"] ++ wsX60)
def wsX6_isIn : List Cond := .code yX6_isIn cX6_isIn 3 (some .boolean) :: ([])
def wsX6_isDimmer : List Cond := .code yX6_isDimmer cX6_isDimmer 2 (some .boolean) :: ([.fieldLink RX6 29 "StarConsoleModel" "dimmers" "I", .methodLink RX6 32 yX6_isIn, .static yX6_isIn, .initialized RX6, .code yX6_isIn cX6_isIn 3 (some .boolean)] ++ wsX60)
def wsX6_la : List Cond := .code yX6_la cX6_la 3 (some .int) :: ([.fieldLink RX6 9 "StarConsoleModel" "lamps" "[I"] ++ wsX60)
def wsX6_put : List Cond := .code yX6_put cX6_put 4 none :: ([.fieldLink RX6 9 "StarConsoleModel" "lamps" "[I"] ++ wsX60)
def wsX6_dimmer : List Cond := .code yX6_dimmer cX6_dimmer 5 (some .int) :: ([.fieldLink RX6 25 "StarConsoleModel" "thrown" "I", .fieldLink RX6 29 "StarConsoleModel" "dimmers" "I", .arrayClass .int, .fieldLink RX6 9 "StarConsoleModel" "lamps" "[I", .methodLink RX6 40 arraycopyName, .native arraycopyName, .static arraycopyName, .initialized "java/lang/System", .methodLink RX6 32 yX6_isIn, .static yX6_isIn, .initialized RX6, .code yX6_isIn cX6_isIn 3 (some .boolean), .methodLink RX6 36 yX6_fail, .instanceMethod yX6_fail, .selects RX6 yX6_fail yX6_fail, .code yX6_fail cX6_fail 2 (some .int)] ++ wsX60)
def wsX6_lamp : List Cond := .code yX6_lamp cX6_lamp 4 (some .int) :: ([.fieldLink RX6 25 "StarConsoleModel" "thrown" "I", .methodLink RX6 46 yX6_isDimmer, .instanceMethod yX6_isDimmer, .selects RX6 yX6_isDimmer yX6_isDimmer, .initialized RX6, .code yX6_isDimmer cX6_isDimmer 2 (some .boolean), .fieldLink RX6 29 "StarConsoleModel" "dimmers" "I", .methodLink RX6 32 yX6_isIn, .static yX6_isIn, .code yX6_isIn cX6_isIn 3 (some .boolean), .methodLink RX6 36 yX6_fail, .instanceMethod yX6_fail, .selects RX6 yX6_fail yX6_fail, .code yX6_fail cX6_fail 2 (some .int), .methodLink RX6 50 yX6_la, .instanceMethod yX6_la, .selects RX6 yX6_la yX6_la, .code yX6_la cX6_la 3 (some .int), .fieldLink RX6 9 "StarConsoleModel" "lamps" "[I", .methodLink RX6 54 yX6_put, .instanceMethod yX6_put, .selects RX6 yX6_put yX6_put, .code yX6_put cX6_put 4 none] ++ wsX60)
def wsX6_star : List Cond := .code yX6_star cX6_star 3 (some .int) :: ([.fieldLink RX6 25 "StarConsoleModel" "thrown" "I", .fieldLink RX6 58 "StarConsoleModel" "stars" "I", .fieldLink RX6 13 "StarConsoleModel" "sky" "[I", .methodLink RX6 32 yX6_isIn, .static yX6_isIn, .initialized RX6, .code yX6_isIn cX6_isIn 3 (some .boolean), .methodLink RX6 36 yX6_fail, .instanceMethod yX6_fail, .selects RX6 yX6_fail yX6_fail, .code yX6_fail cX6_fail 2 (some .int)] ++ wsX60)
def wsX6_isCue : List Cond := .code yX6_isCue cX6_isCue 4 (some .boolean) :: ([.methodLink RX6 46 yX6_isDimmer, .instanceMethod yX6_isDimmer, .selects RX6 yX6_isDimmer yX6_isDimmer, .initialized RX6, .code yX6_isDimmer cX6_isDimmer 2 (some .boolean), .fieldLink RX6 29 "StarConsoleModel" "dimmers" "I", .methodLink RX6 32 yX6_isIn, .static yX6_isIn, .code yX6_isIn cX6_isIn 3 (some .boolean)] ++ wsX60)
def wsX6_cue_r1 : List Cond := [Cond.fieldLink RX6 25 "StarConsoleModel" "thrown" "I", Cond.fieldLink RX6 64 "StarConsoleModel" "cues" "I", Cond.arrayClass .int, Cond.fieldLink RX6 19 "StarConsoleModel" "show" "[I", Cond.methodLink RX6 40 arraycopyName, Cond.native arraycopyName, Cond.static arraycopyName, Cond.initialized "java/lang/System", Cond.methodLink RX6 32 yX6_isIn, Cond.static yX6_isIn, Cond.initialized RX6, Cond.code yX6_isIn cX6_isIn 3 (some .boolean), Cond.methodLink RX6 61 yX6_isCue, Cond.instanceMethod yX6_isCue, Cond.selects RX6 yX6_isCue yX6_isCue, Cond.code yX6_isCue cX6_isCue 4 (some .boolean), Cond.methodLink RX6 46 yX6_isDimmer, Cond.instanceMethod yX6_isDimmer, Cond.selects RX6 yX6_isDimmer yX6_isDimmer, Cond.code yX6_isDimmer cX6_isDimmer 2 (some .boolean), Cond.fieldLink RX6 29 "StarConsoleModel" "dimmers" "I", Cond.methodLink RX6 36 yX6_fail, Cond.instanceMethod yX6_fail, Cond.selects RX6 yX6_fail yX6_fail]
def wsX6_cue_r2 : List Cond := [Cond.code yX6_fail cX6_fail 2 (some .int)]
def wsX6_cue : List Cond := .code yX6_cue cX6_cue 6 (some .int) :: ((wsX6_cue_r1 ++ wsX6_cue_r2) ++ wsX60)
def wsX6_run : List Cond := .code yX6_run cX6_run 1 (some .boolean) :: ([.fieldLink RX6 25 "StarConsoleModel" "thrown" "I", .fieldLink RX6 22 "StarConsoleModel" "numbers" "[I"] ++ wsX60)
def wsX6_jump : List Cond := .code yX6_jump cX6_jump 3 (some .int) :: ([.fieldLink RX6 25 "StarConsoleModel" "thrown" "I", .fieldLink RX6 22 "StarConsoleModel" "numbers" "[I", .methodLink RX6 32 yX6_isIn, .static yX6_isIn, .initialized RX6, .code yX6_isIn cX6_isIn 3 (some .boolean), .methodLink RX6 36 yX6_fail, .instanceMethod yX6_fail, .selects RX6 yX6_fail yX6_fail, .code yX6_fail cX6_fail 2 (some .int)] ++ wsX60)
def wsX6_fade : List Cond := .code yX6_fade cX6_fade 4 (some .int) :: ([.fieldLink RX6 25 "StarConsoleModel" "thrown" "I", .methodLink RX6 46 yX6_isDimmer, .instanceMethod yX6_isDimmer, .selects RX6 yX6_isDimmer yX6_isDimmer, .initialized RX6, .code yX6_isDimmer cX6_isDimmer 2 (some .boolean), .fieldLink RX6 29 "StarConsoleModel" "dimmers" "I", .methodLink RX6 32 yX6_isIn, .static yX6_isIn, .code yX6_isIn cX6_isIn 3 (some .boolean), .methodLink RX6 36 yX6_fail, .instanceMethod yX6_fail, .selects RX6 yX6_fail yX6_fail, .code yX6_fail cX6_fail 2 (some .int), .methodLink RX6 50 yX6_la, .instanceMethod yX6_la, .selects RX6 yX6_la yX6_la, .code yX6_la cX6_la 3 (some .int), .fieldLink RX6 9 "StarConsoleModel" "lamps" "[I", .methodLink RX6 54 yX6_put, .instanceMethod yX6_put, .selects RX6 yX6_put yX6_put, .code yX6_put cX6_put 4 none] ++ wsX60)
def wsX6_carryOut : List Cond := .code yX6_carryOut cX6_carryOut 4 none :: ([.fieldLink RX6 19 "StarConsoleModel" "show" "[I", .fieldLink RX6 22 "StarConsoleModel" "numbers" "[I", .fieldLink RX6 16 "StarConsoleModel" "tails" "[I", .methodLink RX6 54 yX6_put, .instanceMethod yX6_put, .selects RX6 yX6_put yX6_put, .initialized RX6, .code yX6_put cX6_put 4 none, .fieldLink RX6 9 "StarConsoleModel" "lamps" "[I"] ++ wsX60)
def wsX6_round : List Cond := .code yX6_round cX6_round 1 (some .int) :: ([])
def wsX6_glow : List Cond := .code yX6_glow cX6_glow 5 none :: ([.methodLink RX6 67 Lib.Math.min.name, .static Lib.Math.min.name, .initialized "java/lang/Math", .code Lib.Math.min.name Lib.Math.min.code 2 (some .int), .methodLink RX6 72 Lib.Math.max.name, .static Lib.Math.max.name, .code Lib.Math.max.name Lib.Math.max.code 2 (some .int), .methodLink RX6 50 yX6_la, .instanceMethod yX6_la, .selects RX6 yX6_la yX6_la, .initialized RX6, .code yX6_la cX6_la 3 (some .int), .fieldLink RX6 9 "StarConsoleModel" "lamps" "[I", .methodLink RX6 54 yX6_put, .instanceMethod yX6_put, .selects RX6 yX6_put yX6_put, .code yX6_put cX6_put 4 none] ++ wsX60)
def wsX6_tickOn_r1 : List Cond := [Cond.fieldLink RX6 22 "StarConsoleModel" "numbers" "[I", Cond.fieldLink RX6 64 "StarConsoleModel" "cues" "I", Cond.fieldLink RX6 19 "StarConsoleModel" "show" "[I", Cond.fieldLink RX6 29 "StarConsoleModel" "dimmers" "I", Cond.fieldLink RX6 16 "StarConsoleModel" "tails" "[I", Cond.methodLink RX6 75 yX6_carryOut, Cond.instanceMethod yX6_carryOut, Cond.selects RX6 yX6_carryOut yX6_carryOut, Cond.initialized RX6, Cond.code yX6_carryOut cX6_carryOut 4 none, Cond.methodLink RX6 54 yX6_put, Cond.instanceMethod yX6_put, Cond.selects RX6 yX6_put yX6_put, Cond.code yX6_put cX6_put 4 none, Cond.fieldLink RX6 9 "StarConsoleModel" "lamps" "[I", Cond.methodLink RX6 79 yX6_glow, Cond.instanceMethod yX6_glow, Cond.selects RX6 yX6_glow yX6_glow, Cond.code yX6_glow cX6_glow 5 none, Cond.methodLink RX6 67 Lib.Math.min.name, Cond.static Lib.Math.min.name, Cond.initialized "java/lang/Math", Cond.code Lib.Math.min.name Lib.Math.min.code 2 (some .int), Cond.methodLink RX6 72 Lib.Math.max.name]
def wsX6_tickOn_r2 : List Cond := [Cond.static Lib.Math.max.name, Cond.code Lib.Math.max.name Lib.Math.max.code 2 (some .int), Cond.methodLink RX6 50 yX6_la, Cond.instanceMethod yX6_la, Cond.selects RX6 yX6_la yX6_la, Cond.code yX6_la cX6_la 3 (some .int), Cond.methodLink RX6 82 yX6_round, Cond.static yX6_round, Cond.code yX6_round cX6_round 1 (some .int)]
def wsX6_tickOn : List Cond := .code yX6_tickOn cX6_tickOn 4 (some .int) :: ((wsX6_tickOn_r1 ++ wsX6_tickOn_r2) ++ wsX60)
def wsX6_ticksOn_r1 : List Cond := [Cond.methodLink RX6 85 yX6_tickOn, Cond.instanceMethod yX6_tickOn, Cond.selects RX6 yX6_tickOn yX6_tickOn, Cond.initialized RX6, Cond.code yX6_tickOn cX6_tickOn 4 (some .int), Cond.fieldLink RX6 22 "StarConsoleModel" "numbers" "[I", Cond.fieldLink RX6 64 "StarConsoleModel" "cues" "I", Cond.fieldLink RX6 19 "StarConsoleModel" "show" "[I", Cond.fieldLink RX6 29 "StarConsoleModel" "dimmers" "I", Cond.fieldLink RX6 16 "StarConsoleModel" "tails" "[I", Cond.methodLink RX6 75 yX6_carryOut, Cond.instanceMethod yX6_carryOut, Cond.selects RX6 yX6_carryOut yX6_carryOut, Cond.code yX6_carryOut cX6_carryOut 4 none, Cond.methodLink RX6 54 yX6_put, Cond.instanceMethod yX6_put, Cond.selects RX6 yX6_put yX6_put, Cond.code yX6_put cX6_put 4 none, Cond.fieldLink RX6 9 "StarConsoleModel" "lamps" "[I", Cond.methodLink RX6 79 yX6_glow, Cond.instanceMethod yX6_glow, Cond.selects RX6 yX6_glow yX6_glow, Cond.code yX6_glow cX6_glow 5 none, Cond.methodLink RX6 67 Lib.Math.min.name]
def wsX6_ticksOn_r2 : List Cond := [Cond.static Lib.Math.min.name, Cond.initialized "java/lang/Math", Cond.code Lib.Math.min.name Lib.Math.min.code 2 (some .int), Cond.methodLink RX6 72 Lib.Math.max.name, Cond.static Lib.Math.max.name, Cond.code Lib.Math.max.name Lib.Math.max.code 2 (some .int), Cond.methodLink RX6 50 yX6_la, Cond.instanceMethod yX6_la, Cond.selects RX6 yX6_la yX6_la, Cond.code yX6_la cX6_la 3 (some .int), Cond.methodLink RX6 82 yX6_round, Cond.static yX6_round, Cond.code yX6_round cX6_round 1 (some .int)]
def wsX6_ticksOn : List Cond := .code yX6_ticksOn cX6_ticksOn 4 (some .int) :: ((wsX6_ticksOn_r1 ++ wsX6_ticksOn_r2) ++ wsX60)
def wsX6_pass_r1 : List Cond := [Cond.fieldLink RX6 25 "StarConsoleModel" "thrown" "I", Cond.methodLink RX6 32 yX6_isIn, Cond.static yX6_isIn, Cond.initialized RX6, Cond.code yX6_isIn cX6_isIn 3 (some .boolean), Cond.methodLink RX6 89 yX6_ticksOn, Cond.instanceMethod yX6_ticksOn, Cond.selects RX6 yX6_ticksOn yX6_ticksOn, Cond.code yX6_ticksOn cX6_ticksOn 4 (some .int), Cond.methodLink RX6 85 yX6_tickOn, Cond.instanceMethod yX6_tickOn, Cond.selects RX6 yX6_tickOn yX6_tickOn, Cond.code yX6_tickOn cX6_tickOn 4 (some .int), Cond.fieldLink RX6 22 "StarConsoleModel" "numbers" "[I", Cond.fieldLink RX6 64 "StarConsoleModel" "cues" "I", Cond.fieldLink RX6 19 "StarConsoleModel" "show" "[I", Cond.fieldLink RX6 29 "StarConsoleModel" "dimmers" "I", Cond.fieldLink RX6 16 "StarConsoleModel" "tails" "[I", Cond.methodLink RX6 75 yX6_carryOut, Cond.instanceMethod yX6_carryOut, Cond.selects RX6 yX6_carryOut yX6_carryOut, Cond.code yX6_carryOut cX6_carryOut 4 none, Cond.methodLink RX6 54 yX6_put, Cond.instanceMethod yX6_put]
def wsX6_pass_r2 : List Cond := [Cond.selects RX6 yX6_put yX6_put, Cond.code yX6_put cX6_put 4 none, Cond.fieldLink RX6 9 "StarConsoleModel" "lamps" "[I", Cond.methodLink RX6 79 yX6_glow, Cond.instanceMethod yX6_glow, Cond.selects RX6 yX6_glow yX6_glow, Cond.code yX6_glow cX6_glow 5 none, Cond.methodLink RX6 67 Lib.Math.min.name, Cond.static Lib.Math.min.name, Cond.initialized "java/lang/Math", Cond.code Lib.Math.min.name Lib.Math.min.code 2 (some .int), Cond.methodLink RX6 72 Lib.Math.max.name, Cond.static Lib.Math.max.name, Cond.code Lib.Math.max.name Lib.Math.max.code 2 (some .int), Cond.methodLink RX6 50 yX6_la, Cond.instanceMethod yX6_la, Cond.selects RX6 yX6_la yX6_la, Cond.code yX6_la cX6_la 3 (some .int), Cond.methodLink RX6 82 yX6_round, Cond.static yX6_round, Cond.code yX6_round cX6_round 1 (some .int), Cond.methodLink RX6 36 yX6_fail, Cond.instanceMethod yX6_fail, Cond.selects RX6 yX6_fail yX6_fail]
def wsX6_pass_r3 : List Cond := [Cond.code yX6_fail cX6_fail 2 (some .int)]
def wsX6_pass : List Cond := .code yX6_pass cX6_pass 2 (some .int) :: ((wsX6_pass_r1 ++ (wsX6_pass_r2 ++ wsX6_pass_r3)) ++ wsX60)
def wsX6_told : List Cond := .code yX6_told cX6_told 3 (some .int) :: ([.fieldLink RX6 25 "StarConsoleModel" "thrown" "I", .methodLink RX6 46 yX6_isDimmer, .instanceMethod yX6_isDimmer, .selects RX6 yX6_isDimmer yX6_isDimmer, .initialized RX6, .code yX6_isDimmer cX6_isDimmer 2 (some .boolean), .fieldLink RX6 29 "StarConsoleModel" "dimmers" "I", .methodLink RX6 32 yX6_isIn, .static yX6_isIn, .code yX6_isIn cX6_isIn 3 (some .boolean), .methodLink RX6 50 yX6_la, .instanceMethod yX6_la, .selects RX6 yX6_la yX6_la, .code yX6_la cX6_la 3 (some .int), .fieldLink RX6 9 "StarConsoleModel" "lamps" "[I", .methodLink RX6 36 yX6_fail, .instanceMethod yX6_fail, .selects RX6 yX6_fail yX6_fail, .code yX6_fail cX6_fail 2 (some .int)] ++ wsX60)
def wsX6_glareOf : List Cond := .code yX6_glareOf cX6_glareOf 5 (some .int) :: ([.fieldLink RX6 29 "StarConsoleModel" "dimmers" "I", .methodLink RX6 50 yX6_la, .instanceMethod yX6_la, .selects RX6 yX6_la yX6_la, .initialized RX6, .code yX6_la cX6_la 3 (some .int), .fieldLink RX6 9 "StarConsoleModel" "lamps" "[I"] ++ wsX60)
def wsX6_glare : List Cond := .code yX6_glare cX6_glare 2 (some .int) :: ([.fieldLink RX6 25 "StarConsoleModel" "thrown" "I", .methodLink RX6 32 yX6_isIn, .static yX6_isIn, .initialized RX6, .code yX6_isIn cX6_isIn 3 (some .boolean), .methodLink RX6 92 yX6_glareOf, .instanceMethod yX6_glareOf, .selects RX6 yX6_glareOf yX6_glareOf, .code yX6_glareOf cX6_glareOf 5 (some .int), .fieldLink RX6 29 "StarConsoleModel" "dimmers" "I", .methodLink RX6 50 yX6_la, .instanceMethod yX6_la, .selects RX6 yX6_la yX6_la, .code yX6_la cX6_la 3 (some .int), .fieldLink RX6 9 "StarConsoleModel" "lamps" "[I", .methodLink RX6 36 yX6_fail, .instanceMethod yX6_fail, .selects RX6 yX6_fail yX6_fail, .code yX6_fail cX6_fail 2 (some .int)] ++ wsX60)
def wsX6_stands : List Cond := .code yX6_stands cX6_stands 2 (some .int) :: ([.fieldLink RX6 13 "StarConsoleModel" "sky" "[I", .fieldLink RX6 22 "StarConsoleModel" "numbers" "[I"] ++ wsX60)
def wsX6_isSeen : List Cond := .code yX6_isSeen cX6_isSeen 3 (some .boolean) :: ([.methodLink RX6 92 yX6_glareOf, .instanceMethod yX6_glareOf, .selects RX6 yX6_glareOf yX6_glareOf, .initialized RX6, .code yX6_glareOf cX6_glareOf 5 (some .int), .fieldLink RX6 29 "StarConsoleModel" "dimmers" "I", .methodLink RX6 50 yX6_la, .instanceMethod yX6_la, .selects RX6 yX6_la yX6_la, .code yX6_la cX6_la 3 (some .int), .fieldLink RX6 9 "StarConsoleModel" "lamps" "[I"] ++ wsX60)
def wsX6_starTold : List Cond := .code yX6_starTold cX6_starTold 3 (some .int) :: ([.fieldLink RX6 13 "StarConsoleModel" "sky" "[I", .methodLink RX6 95 yX6_stands, .instanceMethod yX6_stands, .selects RX6 yX6_stands yX6_stands, .initialized RX6, .code yX6_stands cX6_stands 2 (some .int), .fieldLink RX6 22 "StarConsoleModel" "numbers" "[I", .methodLink RX6 98 yX6_isSeen, .instanceMethod yX6_isSeen, .selects RX6 yX6_isSeen yX6_isSeen, .code yX6_isSeen cX6_isSeen 3 (some .boolean), .methodLink RX6 92 yX6_glareOf, .instanceMethod yX6_glareOf, .selects RX6 yX6_glareOf yX6_glareOf, .code yX6_glareOf cX6_glareOf 5 (some .int), .fieldLink RX6 29 "StarConsoleModel" "dimmers" "I", .methodLink RX6 50 yX6_la, .instanceMethod yX6_la, .selects RX6 yX6_la yX6_la, .code yX6_la cX6_la 3 (some .int), .fieldLink RX6 9 "StarConsoleModel" "lamps" "[I"] ++ wsX60)
def wsX6_about_r1 : List Cond := [Cond.fieldLink RX6 25 "StarConsoleModel" "thrown" "I", Cond.fieldLink RX6 58 "StarConsoleModel" "stars" "I", Cond.methodLink RX6 32 yX6_isIn, Cond.static yX6_isIn, Cond.initialized RX6, Cond.code yX6_isIn cX6_isIn 3 (some .boolean), Cond.methodLink RX6 102 yX6_starTold, Cond.instanceMethod yX6_starTold, Cond.selects RX6 yX6_starTold yX6_starTold, Cond.code yX6_starTold cX6_starTold 3 (some .int), Cond.fieldLink RX6 13 "StarConsoleModel" "sky" "[I", Cond.methodLink RX6 95 yX6_stands, Cond.instanceMethod yX6_stands, Cond.selects RX6 yX6_stands yX6_stands, Cond.code yX6_stands cX6_stands 2 (some .int), Cond.fieldLink RX6 22 "StarConsoleModel" "numbers" "[I", Cond.methodLink RX6 98 yX6_isSeen, Cond.instanceMethod yX6_isSeen, Cond.selects RX6 yX6_isSeen yX6_isSeen, Cond.code yX6_isSeen cX6_isSeen 3 (some .boolean), Cond.methodLink RX6 92 yX6_glareOf, Cond.instanceMethod yX6_glareOf, Cond.selects RX6 yX6_glareOf yX6_glareOf, Cond.code yX6_glareOf cX6_glareOf 5 (some .int)]
def wsX6_about_r2 : List Cond := [Cond.fieldLink RX6 29 "StarConsoleModel" "dimmers" "I", Cond.methodLink RX6 50 yX6_la, Cond.instanceMethod yX6_la, Cond.selects RX6 yX6_la yX6_la, Cond.code yX6_la cX6_la 3 (some .int), Cond.fieldLink RX6 9 "StarConsoleModel" "lamps" "[I", Cond.methodLink RX6 36 yX6_fail, Cond.instanceMethod yX6_fail, Cond.selects RX6 yX6_fail yX6_fail, Cond.code yX6_fail cX6_fail 2 (some .int)]
def wsX6_about : List Cond := .code yX6_about cX6_about 3 (some .int) :: ((wsX6_about_r1 ++ wsX6_about_r2) ++ wsX60)
def wsX6_cometTold : List Cond := .code yX6_cometTold cX6_cometTold 3 (some .int) :: ([.fieldLink RX6 16 "StarConsoleModel" "tails" "[I", .methodLink RX6 98 yX6_isSeen, .instanceMethod yX6_isSeen, .selects RX6 yX6_isSeen yX6_isSeen, .initialized RX6, .code yX6_isSeen cX6_isSeen 3 (some .boolean), .methodLink RX6 92 yX6_glareOf, .instanceMethod yX6_glareOf, .selects RX6 yX6_glareOf yX6_glareOf, .code yX6_glareOf cX6_glareOf 5 (some .int), .fieldLink RX6 29 "StarConsoleModel" "dimmers" "I", .methodLink RX6 50 yX6_la, .instanceMethod yX6_la, .selects RX6 yX6_la yX6_la, .code yX6_la cX6_la 3 (some .int), .fieldLink RX6 9 "StarConsoleModel" "lamps" "[I"] ++ wsX60)
def wsX6_comet_r1 : List Cond := [Cond.fieldLink RX6 25 "StarConsoleModel" "thrown" "I", Cond.fieldLink RX6 22 "StarConsoleModel" "numbers" "[I", Cond.methodLink RX6 32 yX6_isIn, Cond.static yX6_isIn, Cond.initialized RX6, Cond.code yX6_isIn cX6_isIn 3 (some .boolean), Cond.methodLink RX6 105 yX6_cometTold, Cond.instanceMethod yX6_cometTold, Cond.selects RX6 yX6_cometTold yX6_cometTold, Cond.code yX6_cometTold cX6_cometTold 3 (some .int), Cond.fieldLink RX6 16 "StarConsoleModel" "tails" "[I", Cond.methodLink RX6 98 yX6_isSeen, Cond.instanceMethod yX6_isSeen, Cond.selects RX6 yX6_isSeen yX6_isSeen, Cond.code yX6_isSeen cX6_isSeen 3 (some .boolean), Cond.methodLink RX6 92 yX6_glareOf, Cond.instanceMethod yX6_glareOf, Cond.selects RX6 yX6_glareOf yX6_glareOf, Cond.code yX6_glareOf cX6_glareOf 5 (some .int), Cond.fieldLink RX6 29 "StarConsoleModel" "dimmers" "I", Cond.methodLink RX6 50 yX6_la, Cond.instanceMethod yX6_la, Cond.selects RX6 yX6_la yX6_la, Cond.code yX6_la cX6_la 3 (some .int)]
def wsX6_comet_r2 : List Cond := [Cond.fieldLink RX6 9 "StarConsoleModel" "lamps" "[I", Cond.methodLink RX6 36 yX6_fail, Cond.instanceMethod yX6_fail, Cond.selects RX6 yX6_fail yX6_fail, Cond.code yX6_fail cX6_fail 2 (some .int)]
def wsX6_comet : List Cond := .code yX6_comet cX6_comet 3 (some .int) :: ((wsX6_comet_r1 ++ wsX6_comet_r2) ++ wsX60)
def wsX6_counted_r1 : List Cond := [Cond.fieldLink RX6 22 "StarConsoleModel" "numbers" "[I", Cond.fieldLink RX6 29 "StarConsoleModel" "dimmers" "I", Cond.fieldLink RX6 58 "StarConsoleModel" "stars" "I", Cond.fieldLink RX6 64 "StarConsoleModel" "cues" "I", Cond.methodLink RX6 102 yX6_starTold, Cond.instanceMethod yX6_starTold, Cond.selects RX6 yX6_starTold yX6_starTold, Cond.initialized RX6, Cond.code yX6_starTold cX6_starTold 3 (some .int), Cond.fieldLink RX6 13 "StarConsoleModel" "sky" "[I", Cond.methodLink RX6 95 yX6_stands, Cond.instanceMethod yX6_stands, Cond.selects RX6 yX6_stands yX6_stands, Cond.code yX6_stands cX6_stands 2 (some .int), Cond.methodLink RX6 98 yX6_isSeen, Cond.instanceMethod yX6_isSeen, Cond.selects RX6 yX6_isSeen yX6_isSeen, Cond.code yX6_isSeen cX6_isSeen 3 (some .boolean), Cond.methodLink RX6 92 yX6_glareOf, Cond.instanceMethod yX6_glareOf, Cond.selects RX6 yX6_glareOf yX6_glareOf, Cond.code yX6_glareOf cX6_glareOf 5 (some .int), Cond.methodLink RX6 50 yX6_la, Cond.instanceMethod yX6_la]
def wsX6_counted_r2 : List Cond := [Cond.selects RX6 yX6_la yX6_la, Cond.code yX6_la cX6_la 3 (some .int), Cond.fieldLink RX6 9 "StarConsoleModel" "lamps" "[I", Cond.methodLink RX6 105 yX6_cometTold, Cond.instanceMethod yX6_cometTold, Cond.selects RX6 yX6_cometTold yX6_cometTold, Cond.code yX6_cometTold cX6_cometTold 3 (some .int), Cond.fieldLink RX6 16 "StarConsoleModel" "tails" "[I"]
def wsX6_counted : List Cond := .code yX6_counted cX6_counted 4 (some .int) :: ((wsX6_counted_r1 ++ wsX6_counted_r2) ++ wsX60)
def wsX6_count_r1 : List Cond := [Cond.fieldLink RX6 25 "StarConsoleModel" "thrown" "I", Cond.methodLink RX6 32 yX6_isIn, Cond.static yX6_isIn, Cond.initialized RX6, Cond.code yX6_isIn cX6_isIn 3 (some .boolean), Cond.methodLink RX6 108 yX6_counted, Cond.instanceMethod yX6_counted, Cond.selects RX6 yX6_counted yX6_counted, Cond.code yX6_counted cX6_counted 4 (some .int), Cond.fieldLink RX6 22 "StarConsoleModel" "numbers" "[I", Cond.fieldLink RX6 29 "StarConsoleModel" "dimmers" "I", Cond.fieldLink RX6 58 "StarConsoleModel" "stars" "I", Cond.fieldLink RX6 64 "StarConsoleModel" "cues" "I", Cond.methodLink RX6 102 yX6_starTold, Cond.instanceMethod yX6_starTold, Cond.selects RX6 yX6_starTold yX6_starTold, Cond.code yX6_starTold cX6_starTold 3 (some .int), Cond.fieldLink RX6 13 "StarConsoleModel" "sky" "[I", Cond.methodLink RX6 95 yX6_stands, Cond.instanceMethod yX6_stands, Cond.selects RX6 yX6_stands yX6_stands, Cond.code yX6_stands cX6_stands 2 (some .int), Cond.methodLink RX6 98 yX6_isSeen, Cond.instanceMethod yX6_isSeen]
def wsX6_count_r2 : List Cond := [Cond.selects RX6 yX6_isSeen yX6_isSeen, Cond.code yX6_isSeen cX6_isSeen 3 (some .boolean), Cond.methodLink RX6 92 yX6_glareOf, Cond.instanceMethod yX6_glareOf, Cond.selects RX6 yX6_glareOf yX6_glareOf, Cond.code yX6_glareOf cX6_glareOf 5 (some .int), Cond.methodLink RX6 50 yX6_la, Cond.instanceMethod yX6_la, Cond.selects RX6 yX6_la yX6_la, Cond.code yX6_la cX6_la 3 (some .int), Cond.fieldLink RX6 9 "StarConsoleModel" "lamps" "[I", Cond.methodLink RX6 105 yX6_cometTold, Cond.instanceMethod yX6_cometTold, Cond.selects RX6 yX6_cometTold yX6_cometTold, Cond.code yX6_cometTold cX6_cometTold 3 (some .int), Cond.fieldLink RX6 16 "StarConsoleModel" "tails" "[I", Cond.methodLink RX6 36 yX6_fail, Cond.instanceMethod yX6_fail, Cond.selects RX6 yX6_fail yX6_fail, Cond.code yX6_fail cX6_fail 2 (some .int)]
def wsX6_count : List Cond := .code yX6_count cX6_count 2 (some .int) :: ((wsX6_count_r1 ++ wsX6_count_r2) ++ wsX60)
def wsX6_next : List Cond := .code yX6_next cX6_next 3 (some .int) :: ([.fieldLink RX6 25 "StarConsoleModel" "thrown" "I", .fieldLink RX6 64 "StarConsoleModel" "cues" "I", .fieldLink RX6 19 "StarConsoleModel" "show" "[I", .fieldLink RX6 22 "StarConsoleModel" "numbers" "[I"] ++ wsX60)
def wsX6_when : List Cond := .code yX6_when cX6_when 4 (some .int) :: ([.fieldLink RX6 25 "StarConsoleModel" "thrown" "I", .fieldLink RX6 64 "StarConsoleModel" "cues" "I", .fieldLink RX6 19 "StarConsoleModel" "show" "[I", .fieldLink RX6 22 "StarConsoleModel" "numbers" "[I", .methodLink RX6 32 yX6_isIn, .static yX6_isIn, .initialized RX6, .code yX6_isIn cX6_isIn 3 (some .boolean), .methodLink RX6 36 yX6_fail, .instanceMethod yX6_fail, .selects RX6 yX6_fail yX6_fail, .code yX6_fail cX6_fail 2 (some .int)] ++ wsX60)
def wsX6_kept : List Cond := .code yX6_kept cX6_kept 1 (some (.array (.array .int))) :: ([.classLink RX6 111 "[I", .fieldLink RX6 9 "StarConsoleModel" "lamps" "[I", .methodLink RX6 112 ⟨"[I", "clone", "()Ljava/lang/Object;"⟩, .sameMethod "[I" "java/lang/Object" "clone" "()Ljava/lang/Object;", .native ⟨"java/lang/Object", "clone", "()Ljava/lang/Object;"⟩, .instanceMethod ⟨"java/lang/Object", "clone", "()Ljava/lang/Object;"⟩, .selects "[I" ⟨"[I", "clone", "()Ljava/lang/Object;"⟩ ⟨"java/lang/Object", "clone", "()Ljava/lang/Object;"⟩, .fieldLink RX6 16 "StarConsoleModel" "tails" "[I", .fieldLink RX6 22 "StarConsoleModel" "numbers" "[I"] ++ wsX60)
def wsX6_bringBack : List Cond := .code yX6_bringBack cX6_bringBack 2 none :: ([.fieldLink RX6 9 "StarConsoleModel" "lamps" "[I", .methodLink RX6 40 arraycopyName, .native arraycopyName, .static arraycopyName, .initialized "java/lang/System", .fieldLink RX6 16 "StarConsoleModel" "tails" "[I", .fieldLink RX6 22 "StarConsoleModel" "numbers" "[I"] ++ wsX60)
def wsX6_lasts_r1 : List Cond := [Cond.fieldLink RX6 25 "StarConsoleModel" "thrown" "I", Cond.methodLink RX6 46 yX6_isDimmer, Cond.instanceMethod yX6_isDimmer, Cond.selects RX6 yX6_isDimmer yX6_isDimmer, Cond.initialized RX6, Cond.code yX6_isDimmer cX6_isDimmer 2 (some .boolean), Cond.fieldLink RX6 29 "StarConsoleModel" "dimmers" "I", Cond.methodLink RX6 32 yX6_isIn, Cond.static yX6_isIn, Cond.code yX6_isIn cX6_isIn 3 (some .boolean), Cond.methodLink RX6 36 yX6_fail, Cond.instanceMethod yX6_fail, Cond.selects RX6 yX6_fail yX6_fail, Cond.code yX6_fail cX6_fail 2 (some .int), Cond.methodLink RX6 116 yX6_kept, Cond.instanceMethod yX6_kept, Cond.selects RX6 yX6_kept yX6_kept, Cond.code yX6_kept cX6_kept 1 (some (.array (.array .int))), Cond.classLink RX6 111 "[I", Cond.fieldLink RX6 9 "StarConsoleModel" "lamps" "[I", Cond.methodLink RX6 112 ⟨"[I", "clone", "()Ljava/lang/Object;"⟩, Cond.sameMethod "[I" "java/lang/Object" "clone" "()Ljava/lang/Object;", Cond.native ⟨"java/lang/Object", "clone", "()Ljava/lang/Object;"⟩, Cond.instanceMethod ⟨"java/lang/Object", "clone", "()Ljava/lang/Object;"⟩]
def wsX6_lasts_r2 : List Cond := [Cond.selects "[I" ⟨"[I", "clone", "()Ljava/lang/Object;"⟩ ⟨"java/lang/Object", "clone", "()Ljava/lang/Object;"⟩, Cond.fieldLink RX6 16 "StarConsoleModel" "tails" "[I", Cond.fieldLink RX6 22 "StarConsoleModel" "numbers" "[I", Cond.methodLink RX6 50 yX6_la, Cond.instanceMethod yX6_la, Cond.selects RX6 yX6_la yX6_la, Cond.code yX6_la cX6_la 3 (some .int), Cond.methodLink RX6 85 yX6_tickOn, Cond.instanceMethod yX6_tickOn, Cond.selects RX6 yX6_tickOn yX6_tickOn, Cond.code yX6_tickOn cX6_tickOn 4 (some .int), Cond.fieldLink RX6 64 "StarConsoleModel" "cues" "I", Cond.fieldLink RX6 19 "StarConsoleModel" "show" "[I", Cond.methodLink RX6 75 yX6_carryOut, Cond.instanceMethod yX6_carryOut, Cond.selects RX6 yX6_carryOut yX6_carryOut, Cond.code yX6_carryOut cX6_carryOut 4 none, Cond.methodLink RX6 54 yX6_put, Cond.instanceMethod yX6_put, Cond.selects RX6 yX6_put yX6_put, Cond.code yX6_put cX6_put 4 none, Cond.methodLink RX6 79 yX6_glow, Cond.instanceMethod yX6_glow, Cond.selects RX6 yX6_glow yX6_glow]
def wsX6_lasts_r3 : List Cond := [Cond.code yX6_glow cX6_glow 5 none, Cond.methodLink RX6 67 Lib.Math.min.name, Cond.static Lib.Math.min.name, Cond.initialized "java/lang/Math", Cond.code Lib.Math.min.name Lib.Math.min.code 2 (some .int), Cond.methodLink RX6 72 Lib.Math.max.name, Cond.static Lib.Math.max.name, Cond.code Lib.Math.max.name Lib.Math.max.code 2 (some .int), Cond.methodLink RX6 82 yX6_round, Cond.static yX6_round, Cond.code yX6_round cX6_round 1 (some .int), Cond.methodLink RX6 120 yX6_bringBack, Cond.instanceMethod yX6_bringBack, Cond.selects RX6 yX6_bringBack yX6_bringBack, Cond.code yX6_bringBack cX6_bringBack 2 none, Cond.methodLink RX6 40 arraycopyName, Cond.native arraycopyName, Cond.static arraycopyName, Cond.initialized "java/lang/System"]
def wsX6_lasts : List Cond := .code yX6_lasts cX6_lasts 4 (some .int) :: ((wsX6_lasts_r1 ++ (wsX6_lasts_r2 ++ wsX6_lasts_r3)) ++ wsX60)
def wsX6_foresee_r1 : List Cond := [Cond.fieldLink RX6 25 "StarConsoleModel" "thrown" "I", Cond.methodLink RX6 32 yX6_isIn, Cond.static yX6_isIn, Cond.initialized RX6, Cond.code yX6_isIn cX6_isIn 3 (some .boolean), Cond.methodLink RX6 36 yX6_fail, Cond.instanceMethod yX6_fail, Cond.selects RX6 yX6_fail yX6_fail, Cond.code yX6_fail cX6_fail 2 (some .int), Cond.methodLink RX6 116 yX6_kept, Cond.instanceMethod yX6_kept, Cond.selects RX6 yX6_kept yX6_kept, Cond.code yX6_kept cX6_kept 1 (some (.array (.array .int))), Cond.classLink RX6 111 "[I", Cond.fieldLink RX6 9 "StarConsoleModel" "lamps" "[I", Cond.methodLink RX6 112 ⟨"[I", "clone", "()Ljava/lang/Object;"⟩, Cond.sameMethod "[I" "java/lang/Object" "clone" "()Ljava/lang/Object;", Cond.native ⟨"java/lang/Object", "clone", "()Ljava/lang/Object;"⟩, Cond.instanceMethod ⟨"java/lang/Object", "clone", "()Ljava/lang/Object;"⟩, Cond.selects "[I" ⟨"[I", "clone", "()Ljava/lang/Object;"⟩ ⟨"java/lang/Object", "clone", "()Ljava/lang/Object;"⟩, Cond.fieldLink RX6 16 "StarConsoleModel" "tails" "[I", Cond.fieldLink RX6 22 "StarConsoleModel" "numbers" "[I", Cond.methodLink RX6 89 yX6_ticksOn, Cond.instanceMethod yX6_ticksOn]
def wsX6_foresee_r2 : List Cond := [Cond.selects RX6 yX6_ticksOn yX6_ticksOn, Cond.code yX6_ticksOn cX6_ticksOn 4 (some .int), Cond.methodLink RX6 85 yX6_tickOn, Cond.instanceMethod yX6_tickOn, Cond.selects RX6 yX6_tickOn yX6_tickOn, Cond.code yX6_tickOn cX6_tickOn 4 (some .int), Cond.fieldLink RX6 64 "StarConsoleModel" "cues" "I", Cond.fieldLink RX6 19 "StarConsoleModel" "show" "[I", Cond.fieldLink RX6 29 "StarConsoleModel" "dimmers" "I", Cond.methodLink RX6 75 yX6_carryOut, Cond.instanceMethod yX6_carryOut, Cond.selects RX6 yX6_carryOut yX6_carryOut, Cond.code yX6_carryOut cX6_carryOut 4 none, Cond.methodLink RX6 54 yX6_put, Cond.instanceMethod yX6_put, Cond.selects RX6 yX6_put yX6_put, Cond.code yX6_put cX6_put 4 none, Cond.methodLink RX6 79 yX6_glow, Cond.instanceMethod yX6_glow, Cond.selects RX6 yX6_glow yX6_glow, Cond.code yX6_glow cX6_glow 5 none, Cond.methodLink RX6 67 Lib.Math.min.name, Cond.static Lib.Math.min.name, Cond.initialized "java/lang/Math"]
def wsX6_foresee_r3 : List Cond := [Cond.code Lib.Math.min.name Lib.Math.min.code 2 (some .int), Cond.methodLink RX6 72 Lib.Math.max.name, Cond.static Lib.Math.max.name, Cond.code Lib.Math.max.name Lib.Math.max.code 2 (some .int), Cond.methodLink RX6 50 yX6_la, Cond.instanceMethod yX6_la, Cond.selects RX6 yX6_la yX6_la, Cond.code yX6_la cX6_la 3 (some .int), Cond.methodLink RX6 82 yX6_round, Cond.static yX6_round, Cond.code yX6_round cX6_round 1 (some .int), Cond.methodLink RX6 108 yX6_counted, Cond.instanceMethod yX6_counted, Cond.selects RX6 yX6_counted yX6_counted, Cond.code yX6_counted cX6_counted 4 (some .int), Cond.fieldLink RX6 58 "StarConsoleModel" "stars" "I", Cond.methodLink RX6 102 yX6_starTold, Cond.instanceMethod yX6_starTold, Cond.selects RX6 yX6_starTold yX6_starTold, Cond.code yX6_starTold cX6_starTold 3 (some .int), Cond.fieldLink RX6 13 "StarConsoleModel" "sky" "[I", Cond.methodLink RX6 95 yX6_stands, Cond.instanceMethod yX6_stands, Cond.selects RX6 yX6_stands yX6_stands]
def wsX6_foresee_r4 : List Cond := [Cond.code yX6_stands cX6_stands 2 (some .int), Cond.methodLink RX6 98 yX6_isSeen, Cond.instanceMethod yX6_isSeen, Cond.selects RX6 yX6_isSeen yX6_isSeen, Cond.code yX6_isSeen cX6_isSeen 3 (some .boolean), Cond.methodLink RX6 92 yX6_glareOf, Cond.instanceMethod yX6_glareOf, Cond.selects RX6 yX6_glareOf yX6_glareOf, Cond.code yX6_glareOf cX6_glareOf 5 (some .int), Cond.methodLink RX6 105 yX6_cometTold, Cond.instanceMethod yX6_cometTold, Cond.selects RX6 yX6_cometTold yX6_cometTold, Cond.code yX6_cometTold cX6_cometTold 3 (some .int), Cond.methodLink RX6 120 yX6_bringBack, Cond.instanceMethod yX6_bringBack, Cond.selects RX6 yX6_bringBack yX6_bringBack, Cond.code yX6_bringBack cX6_bringBack 2 none, Cond.methodLink RX6 40 arraycopyName, Cond.native arraycopyName, Cond.static arraycopyName, Cond.initialized "java/lang/System"]
def wsX6_foresee : List Cond := .code yX6_foresee cX6_foresee 5 (some .int) :: ((wsX6_foresee_r1 ++ (wsX6_foresee_r2 ++ (wsX6_foresee_r3 ++ wsX6_foresee_r4))) ++ wsX60)
def wsX6_darkest : List Cond := .code yX6_darkest cX6_darkest 3 (some .int) :: ([.fieldLink RX6 25 "StarConsoleModel" "thrown" "I", .methodLink RX6 92 yX6_glareOf, .instanceMethod yX6_glareOf, .selects RX6 yX6_glareOf yX6_glareOf, .initialized RX6, .code yX6_glareOf cX6_glareOf 5 (some .int), .fieldLink RX6 29 "StarConsoleModel" "dimmers" "I", .methodLink RX6 50 yX6_la, .instanceMethod yX6_la, .selects RX6 yX6_la yX6_la, .code yX6_la cX6_la 3 (some .int), .fieldLink RX6 9 "StarConsoleModel" "lamps" "[I"] ++ wsX60)
def wsX6_mean : List Cond := .code yX6_mean cX6_mean 3 (some .double) :: ([.fieldLink RX6 25 "StarConsoleModel" "thrown" "I", .constantDouble RX6 124 (4622945017495814144), .methodLink RX6 92 yX6_glareOf, .instanceMethod yX6_glareOf, .selects RX6 yX6_glareOf yX6_glareOf, .initialized RX6, .code yX6_glareOf cX6_glareOf 5 (some .int), .fieldLink RX6 29 "StarConsoleModel" "dimmers" "I", .methodLink RX6 50 yX6_la, .instanceMethod yX6_la, .selects RX6 yX6_la yX6_la, .code yX6_la cX6_la 3 (some .int), .fieldLink RX6 9 "StarConsoleModel" "lamps" "[I"] ++ wsX60)
def wsX6_digest_r1 : List Cond := [Cond.fieldLink RX6 25 "StarConsoleModel" "thrown" "I", Cond.constantLong RX6 126 (1109), Cond.constantLong RX6 128 (31), Cond.fieldLink RX6 29 "StarConsoleModel" "dimmers" "I", Cond.fieldLink RX6 9 "StarConsoleModel" "lamps" "[I", Cond.fieldLink RX6 58 "StarConsoleModel" "stars" "I", Cond.fieldLink RX6 22 "StarConsoleModel" "numbers" "[I", Cond.fieldLink RX6 64 "StarConsoleModel" "cues" "I", Cond.fieldLink RX6 19 "StarConsoleModel" "show" "[I", Cond.methodLink RX6 108 yX6_counted, Cond.instanceMethod yX6_counted, Cond.selects RX6 yX6_counted yX6_counted, Cond.initialized RX6, Cond.code yX6_counted cX6_counted 4 (some .int), Cond.methodLink RX6 102 yX6_starTold, Cond.instanceMethod yX6_starTold, Cond.selects RX6 yX6_starTold yX6_starTold, Cond.code yX6_starTold cX6_starTold 3 (some .int), Cond.fieldLink RX6 13 "StarConsoleModel" "sky" "[I", Cond.methodLink RX6 95 yX6_stands, Cond.instanceMethod yX6_stands, Cond.selects RX6 yX6_stands yX6_stands, Cond.code yX6_stands cX6_stands 2 (some .int), Cond.methodLink RX6 98 yX6_isSeen]
def wsX6_digest_r2 : List Cond := [Cond.instanceMethod yX6_isSeen, Cond.selects RX6 yX6_isSeen yX6_isSeen, Cond.code yX6_isSeen cX6_isSeen 3 (some .boolean), Cond.methodLink RX6 92 yX6_glareOf, Cond.instanceMethod yX6_glareOf, Cond.selects RX6 yX6_glareOf yX6_glareOf, Cond.code yX6_glareOf cX6_glareOf 5 (some .int), Cond.methodLink RX6 50 yX6_la, Cond.instanceMethod yX6_la, Cond.selects RX6 yX6_la yX6_la, Cond.code yX6_la cX6_la 3 (some .int), Cond.methodLink RX6 105 yX6_cometTold, Cond.instanceMethod yX6_cometTold, Cond.selects RX6 yX6_cometTold yX6_cometTold, Cond.code yX6_cometTold cX6_cometTold 3 (some .int), Cond.fieldLink RX6 16 "StarConsoleModel" "tails" "[I"]
def wsX6_digest : List Cond := .code yX6_digest cX6_digest 5 (some .long) :: ((wsX6_digest_r1 ++ wsX6_digest_r2) ++ wsX60)
def wsJ9_max_7cf53 : List Cond := .code yJ9_max_7cf53 cJ9_max_7cf53 2 (some .int) :: ([])
def wsJ9_min_7cf53 : List Cond := .code yJ9_min_7cf53 cJ9_min_7cf53 2 (some .int) :: ([])
def wsL_dimmer_r1 : List Cond := [Cond.classLink RL 13 "java/lang/IllegalArgumentException", Cond.classLink RL 15 "java/lang/IllegalStateException", Cond.methodLink RL 7 yX5_dimmer, Cond.instanceMethod yX5_dimmer, Cond.selects RX5 yX5_dimmer yX5_dimmer, Cond.initialized RX5, Cond.code yX5_dimmer cX5_dimmer 4 (some .int), Cond.classLink RX5 37 "java/lang/IllegalArgumentException", Cond.initialized "java/lang/IllegalArgumentException", Cond.classLink RX5 58 "java/lang/IllegalStateException", Cond.initialized "java/lang/IllegalStateException", Cond.fieldLink RX5 26 "StarConsole" "show" "LStarConsole$Show;", Cond.fieldLink RX5 48 "StarConsole$Show" "dimmers" "LStarConsole$Dimmers;", Cond.fieldLink RX5 52 "StarConsole$Dimmers" "size" "I", Cond.methodLink RX5 33 yX5_within, Cond.static yX5_within, Cond.code yX5_within cX5_within 3 (some .boolean), Cond.methodLink RX5 63 yX2_add, Cond.instanceMethod yX2_add, Cond.selects RX2 yX2_add yX2_add, Cond.initialized RX2, Cond.code yX2_add cX2_add 5 (some .int), Cond.fieldLink RX2 27 "StarConsole$Dimmers" "size" "I", Cond.fieldLink RX2 9 "StarConsole$Dimmers" "part" "[I"]
def wsL_dimmer_r2 : List Cond := [Cond.fieldLink RX2 15 "StarConsole$Dimmers" "level" "[I", Cond.fieldLink RX2 18 "StarConsole$Dimmers" "aim" "[I", Cond.fieldLink RX2 21 "StarConsole$Dimmers" "pace" "[I", Cond.fieldLink RX2 24 "StarConsole$Dimmers" "life" "[I"]
def wsL_dimmer : List Cond := .codeWith yL_dimmer cL_dimmer 6 (some .int) [(0, 12, 15, 13), (0, 12, 19, 15)] :: ((wsL_dimmer_r1 ++ wsL_dimmer_r2) ++ wsX50 ++ wsX30 ++ wsX20 ++ (vx_atS RX5 41 "java/lang/IllegalArgumentException" ["java/lang/RuntimeException", "java/lang/Exception"]).filter goodWord ++ (vx_atS RX5 62 "java/lang/IllegalStateException" ["java/lang/RuntimeException", "java/lang/Exception"]).filter goodWord)
def wsL_lamp_r1 : List Cond := [Cond.classLink RL 21 "java/lang/IndexOutOfBoundsException", Cond.classLink RL 13 "java/lang/IllegalArgumentException", Cond.methodLink RL 17 yX5_lamp, Cond.instanceMethod yX5_lamp, Cond.selects RX5 yX5_lamp yX5_lamp, Cond.initialized RX5, Cond.code yX5_lamp cX5_lamp 3 (some .int), Cond.classLink RX5 71 "java/lang/IndexOutOfBoundsException", Cond.initialized "java/lang/IndexOutOfBoundsException", Cond.classLink RX5 37 "java/lang/IllegalArgumentException", Cond.initialized "java/lang/IllegalArgumentException", Cond.fieldLink RX5 26 "StarConsole" "show" "LStarConsole$Show;", Cond.fieldLink RX5 48 "StarConsole$Show" "dimmers" "LStarConsole$Dimmers;", Cond.methodLink RX5 67 yX2_has, Cond.instanceMethod yX2_has, Cond.selects RX2 yX2_has yX2_has, Cond.initialized RX2, Cond.code yX2_has cX2_has 2 (some .boolean), Cond.fieldLink RX2 27 "StarConsole$Dimmers" "size" "I", Cond.methodLink RX5 33 yX5_within, Cond.static yX5_within, Cond.code yX5_within cX5_within 3 (some .boolean), Cond.methodLink RX5 76 yX2_changeLamp, Cond.instanceMethod yX2_changeLamp]
def wsL_lamp_r2 : List Cond := [Cond.selects RX2 yX2_changeLamp yX2_changeLamp, Cond.code yX2_changeLamp cX2_changeLamp 4 (some .int), Cond.fieldLink RX2 24 "StarConsole$Dimmers" "life" "[I", Cond.methodLink RX2 31 yX2_has, Cond.methodLink RX2 35 yX2_darkenWithoutLife, Cond.instanceMethod yX2_darkenWithoutLife, Cond.selects RX2 yX2_darkenWithoutLife yX2_darkenWithoutLife, Cond.code yX2_darkenWithoutLife cX2_darkenWithoutLife 2 none, Cond.fieldLink RX2 15 "StarConsole$Dimmers" "level" "[I"]
def wsL_lamp : List Cond := .codeWith yL_lamp cL_lamp 5 (some .int) [(0, 10, 13, 21), (0, 10, 17, 13)] :: ((wsL_lamp_r1 ++ wsL_lamp_r2) ++ wsX50 ++ wsX30 ++ wsX20 ++ (vx_atS RX5 75 "java/lang/IndexOutOfBoundsException" ["java/lang/RuntimeException", "java/lang/Exception"]).filter goodWord ++ (vx_atS RX5 41 "java/lang/IllegalArgumentException" ["java/lang/RuntimeException", "java/lang/Exception"]).filter goodWord)
def wsL_star : List Cond := .codeWith yL_star cL_star 5 (some .int) [(0, 10, 13, 13), (0, 10, 17, 15)] :: ([.classLink RL 13 "java/lang/IllegalArgumentException", .classLink RL 15 "java/lang/IllegalStateException", .methodLink RL 23 yX5_star, .instanceMethod yX5_star, .selects RX5 yX5_star yX5_star, .initialized RX5, .code yX5_star cX5_star 3 (some .int), .classLink RX5 37 "java/lang/IllegalArgumentException", .initialized "java/lang/IllegalArgumentException", .classLink RX5 58 "java/lang/IllegalStateException", .initialized "java/lang/IllegalStateException", .fieldLink RX5 10 "StarConsole" "stars" "LStarConsole$Stars;", .fieldLink RX5 84 "StarConsole$Stars" "size" "I", .methodLink RX5 33 yX5_within, .static yX5_within, .code yX5_within cX5_within 3 (some .boolean), .methodLink RX5 87 yX4_add, .instanceMethod yX4_add, .selects RX4 yX4_add yX4_add, .initialized RX4, .code yX4_add cX4_add 4 (some .int), .fieldLink RX4 18 "StarConsole$Stars" "size" "I", .fieldLink RX4 9 "StarConsole$Stars" "degree" "[I", .fieldLink RX4 15 "StarConsole$Stars" "light" "[I"] ++ wsX50 ++ wsX40 ++ (vx_atS RX5 41 "java/lang/IllegalArgumentException" ["java/lang/RuntimeException", "java/lang/Exception"]).filter goodWord ++ (vx_atS RX5 62 "java/lang/IllegalStateException" ["java/lang/RuntimeException", "java/lang/Exception"]).filter goodWord)
def wsL_cue_r1 : List Cond := [Cond.classLink RL 13 "java/lang/IllegalArgumentException", Cond.classLink RL 15 "java/lang/IllegalStateException", Cond.methodLink RL 26 yX5_cue, Cond.instanceMethod yX5_cue, Cond.selects RX5 yX5_cue yX5_cue, Cond.initialized RX5, Cond.code yX5_cue cX5_cue 5 (some .int), Cond.classLink RX5 37 "java/lang/IllegalArgumentException", Cond.initialized "java/lang/IllegalArgumentException", Cond.classLink RX5 58 "java/lang/IllegalStateException", Cond.initialized "java/lang/IllegalStateException", Cond.fieldLink RX5 19 "StarConsole" "cues" "LStarConsole$Cues;", Cond.fieldLink RX5 98 "StarConsole$Cues" "size" "I", Cond.methodLink RX5 33 yX5_within, Cond.static yX5_within, Cond.code yX5_within cX5_within 3 (some .boolean), Cond.methodLink RX5 93 yX5_suits, Cond.instanceMethod yX5_suits, Cond.selects RX5 yX5_suits yX5_suits, Cond.code yX5_suits cX5_suits 4 (some .boolean), Cond.fieldLink RX5 26 "StarConsole" "show" "LStarConsole$Show;", Cond.fieldLink RX5 48 "StarConsole$Show" "dimmers" "LStarConsole$Dimmers;", Cond.methodLink RX5 67 yX2_has, Cond.instanceMethod yX2_has]
def wsL_cue_r2 : List Cond := [Cond.selects RX2 yX2_has yX2_has, Cond.initialized RX2, Cond.code yX2_has cX2_has 2 (some .boolean), Cond.fieldLink RX2 27 "StarConsole$Dimmers" "size" "I", Cond.methodLink RX5 101 yX1_add, Cond.instanceMethod yX1_add, Cond.selects RX1 yX1_add yX1_add, Cond.initialized RX1, Cond.code yX1_add cX1_add 6 (some .int), Cond.fieldLink RX1 24 "StarConsole$Cues" "size" "I", Cond.fieldLink RX1 9 "StarConsole$Cues" "time" "[I", Cond.fieldLink RX1 15 "StarConsole$Cues" "kind" "[I", Cond.fieldLink RX1 18 "StarConsole$Cues" "a" "[I", Cond.fieldLink RX1 21 "StarConsole$Cues" "b" "[I"]
def wsL_cue : List Cond := .codeWith yL_cue cL_cue 7 (some .int) [(0, 14, 17, 13), (0, 14, 21, 15)] :: ((wsL_cue_r1 ++ wsL_cue_r2) ++ wsX50 ++ wsX10 ++ wsX30 ++ wsX20 ++ (vx_atS RX5 41 "java/lang/IllegalArgumentException" ["java/lang/RuntimeException", "java/lang/Exception"]).filter goodWord ++ (vx_atS RX5 62 "java/lang/IllegalStateException" ["java/lang/RuntimeException", "java/lang/Exception"]).filter goodWord)
def wsL_jump : List Cond := .codeWith yL_jump cL_jump 4 (some .int) [(0, 9, 12, 13)] :: ([.classLink RL 13 "java/lang/IllegalArgumentException", .methodLink RL 30 yX5_jump, .instanceMethod yX5_jump, .selects RX5 yX5_jump yX5_jump, .initialized RX5, .code yX5_jump cX5_jump 3 (some .int), .classLink RX5 37 "java/lang/IllegalArgumentException", .initialized "java/lang/IllegalArgumentException", .fieldLink RX5 26 "StarConsole" "show" "LStarConsole$Show;", .fieldLink RX5 110 "StarConsole$Show" "clock" "I", .methodLink RX5 33 yX5_within, .static yX5_within, .code yX5_within cX5_within 3 (some .boolean)] ++ wsX50 ++ wsX30 ++ (vx_atS RX5 41 "java/lang/IllegalArgumentException" ["java/lang/RuntimeException", "java/lang/Exception"]).filter goodWord)
def wsL_fade_r1 : List Cond := [Cond.classLink RL 21 "java/lang/IndexOutOfBoundsException", Cond.classLink RL 13 "java/lang/IllegalArgumentException", Cond.methodLink RL 34 yX5_fade, Cond.instanceMethod yX5_fade, Cond.selects RX5 yX5_fade yX5_fade, Cond.initialized RX5, Cond.code yX5_fade cX5_fade 3 (some .int), Cond.classLink RX5 71 "java/lang/IndexOutOfBoundsException", Cond.initialized "java/lang/IndexOutOfBoundsException", Cond.classLink RX5 37 "java/lang/IllegalArgumentException", Cond.initialized "java/lang/IllegalArgumentException", Cond.fieldLink RX5 26 "StarConsole" "show" "LStarConsole$Show;", Cond.fieldLink RX5 48 "StarConsole$Show" "dimmers" "LStarConsole$Dimmers;", Cond.methodLink RX5 67 yX2_has, Cond.instanceMethod yX2_has, Cond.selects RX2 yX2_has yX2_has, Cond.initialized RX2, Cond.code yX2_has cX2_has 2 (some .boolean), Cond.fieldLink RX2 27 "StarConsole$Dimmers" "size" "I", Cond.methodLink RX5 33 yX5_within, Cond.static yX5_within, Cond.code yX5_within cX5_within 3 (some .boolean), Cond.methodLink RX5 115 yX2_changeAim, Cond.instanceMethod yX2_changeAim]
def wsL_fade_r2 : List Cond := [Cond.selects RX2 yX2_changeAim yX2_changeAim, Cond.code yX2_changeAim cX2_changeAim 4 (some .int), Cond.fieldLink RX2 18 "StarConsole$Dimmers" "aim" "[I", Cond.methodLink RX2 31 yX2_has]
def wsL_fade : List Cond := .codeWith yL_fade cL_fade 5 (some .int) [(0, 10, 13, 21), (0, 10, 17, 13)] :: ((wsL_fade_r1 ++ wsL_fade_r2) ++ wsX50 ++ wsX30 ++ wsX20 ++ (vx_atS RX5 75 "java/lang/IndexOutOfBoundsException" ["java/lang/RuntimeException", "java/lang/Exception"]).filter goodWord ++ (vx_atS RX5 41 "java/lang/IllegalArgumentException" ["java/lang/RuntimeException", "java/lang/Exception"]).filter goodWord)
def wsL_pass_r1 : List Cond := [Cond.classLink RL 13 "java/lang/IllegalArgumentException", Cond.methodLink RL 37 yX5_pass, Cond.instanceMethod yX5_pass, Cond.selects RX5 yX5_pass yX5_pass, Cond.initialized RX5, Cond.code yX5_pass cX5_pass 2 (some .int), Cond.classLink RX5 37 "java/lang/IllegalArgumentException", Cond.initialized "java/lang/IllegalArgumentException", Cond.fieldLink RX5 26 "StarConsole" "show" "LStarConsole$Show;", Cond.fieldLink RX5 19 "StarConsole" "cues" "LStarConsole$Cues;", Cond.methodLink RX5 33 yX5_within, Cond.static yX5_within, Cond.code yX5_within cX5_within 3 (some .boolean), Cond.methodLink RX5 120 yX3_goOnFor, Cond.instanceMethod yX3_goOnFor, Cond.selects RX3 yX3_goOnFor yX3_goOnFor, Cond.initialized RX3, Cond.code yX3_goOnFor cX3_goOnFor 5 (some .int), Cond.methodLink RX3 55 yX3_goOn, Cond.instanceMethod yX3_goOn, Cond.selects RX3 yX3_goOn yX3_goOn, Cond.code yX3_goOn cX3_goOn 3 (some .int), Cond.fieldLink RX3 35 "StarConsole$Show" "clockRuns" "Z", Cond.fieldLink RX3 18 "StarConsole$Show" "dimmers" "LStarConsole$Dimmers;"]
def wsL_pass_r2 : List Cond := [Cond.fieldLink RX3 39 "StarConsole$Show" "ballAngle" "I", Cond.fieldLink RX3 42 "StarConsole$Show" "ballSpeed" "I", Cond.fieldLink RX3 25 "StarConsole$Show" "comets" "LStarConsole$Comets;", Cond.fieldLink RX3 29 "StarConsole$Show" "tick" "I", Cond.methodLink RX3 59 yX3_runCues, Cond.instanceMethod yX3_runCues, Cond.selects RX3 yX3_runCues yX3_runCues, Cond.code yX3_runCues cX3_runCues 4 (some .int), Cond.fieldLink RX3 72 "StarConsole$Cues" "size" "I", Cond.fieldLink RX3 77 "StarConsole$Cues" "time" "[I", Cond.fieldLink RX3 32 "StarConsole$Show" "clock" "I", Cond.fieldLink RX3 81 "StarConsole$Cues" "kind" "[I", Cond.fieldLink RX3 84 "StarConsole$Cues" "a" "[I", Cond.fieldLink RX3 87 "StarConsole$Cues" "b" "[I", Cond.methodLink RX3 90 yX3_obey, Cond.instanceMethod yX3_obey, Cond.selects RX3 yX3_obey yX3_obey, Cond.code yX3_obey cX3_obey 4 none, Cond.fieldLink RX3 9 "StarConsole$Show" "line" "I", Cond.fieldLink RX3 45 "StarConsole$Show" "speechLeft" "I", Cond.methodLink RX3 94 yX2_changeAim, Cond.instanceMethod yX2_changeAim, Cond.selects RX2 yX2_changeAim yX2_changeAim, Cond.initialized RX2]
def wsL_pass_r3 : List Cond := [Cond.code yX2_changeAim cX2_changeAim 4 (some .int), Cond.fieldLink RX2 18 "StarConsole$Dimmers" "aim" "[I", Cond.methodLink RX2 31 yX2_has, Cond.instanceMethod yX2_has, Cond.selects RX2 yX2_has yX2_has, Cond.code yX2_has cX2_has 2 (some .boolean), Cond.fieldLink RX2 27 "StarConsole$Dimmers" "size" "I", Cond.methodLink RX3 97 yX0_addIfRoom, Cond.instanceMethod yX0_addIfRoom, Cond.selects RX0 yX0_addIfRoom yX0_addIfRoom, Cond.initialized RX0, Cond.code yX0_addIfRoom cX0_addIfRoom 4 none, Cond.fieldLink RX0 21 "StarConsole$Comets" "size" "I", Cond.fieldLink RX0 9 "StarConsole$Comets" "angle" "[I", Cond.fieldLink RX0 15 "StarConsole$Comets" "speed" "[I", Cond.fieldLink RX0 18 "StarConsole$Comets" "left" "[I", Cond.methodLink RX3 62 yX2_goOn, Cond.instanceMethod yX2_goOn, Cond.selects RX2 yX2_goOn yX2_goOn, Cond.code yX2_goOn cX2_goOn 2 none, Cond.fieldLink RX2 15 "StarConsole$Dimmers" "level" "[I", Cond.fieldLink RX2 21 "StarConsole$Dimmers" "pace" "[I", Cond.fieldLink RX2 24 "StarConsole$Dimmers" "life" "[I", Cond.methodLink RX2 43 Lib.Math.max.name]
def wsL_pass_r4 : List Cond := [Cond.static Lib.Math.max.name, Cond.initialized "java/lang/Math", Cond.code Lib.Math.max.name Lib.Math.max.code 2 (some .int), Cond.methodLink RX2 39 yX2_approached, Cond.static yX2_approached, Cond.code yX2_approached cX2_approached 3 (some .int), Cond.methodLink RX2 49 Lib.Math.min.name, Cond.static Lib.Math.min.name, Cond.code Lib.Math.min.name Lib.Math.min.code 2 (some .int), Cond.methodLink RX2 35 yX2_darkenWithoutLife, Cond.instanceMethod yX2_darkenWithoutLife, Cond.selects RX2 yX2_darkenWithoutLife yX2_darkenWithoutLife, Cond.code yX2_darkenWithoutLife cX2_darkenWithoutLife 2 none, Cond.static yX5_turned, Cond.code yX5_turned cX5_turned 2 (some .int), Cond.methodLink RX5 213 yJ9_floorMod_7cf53, Cond.static yJ9_floorMod_7cf53, Cond.initialized RJ9, Cond.code yJ9_floorMod_7cf53 cJ9_floorMod_7cf53 3 (some .int), Cond.methodLink RX3 68 yX0_goOn, Cond.instanceMethod yX0_goOn, Cond.selects RX0 yX0_goOn yX0_goOn, Cond.code yX0_goOn cX0_goOn 2 none, Cond.methodLink RX3 69 yX3_speakOn]
def wsL_pass_r5 : List Cond := [Cond.instanceMethod yX3_speakOn, Cond.selects RX3 yX3_speakOn yX3_speakOn, Cond.code yX3_speakOn cX3_speakOn 1 none]
def wsL_pass : List Cond := .codeWith yL_pass cL_pass 4 (some .int) [(0, 9, 12, 13)] :: ((wsL_pass_r1 ++ (wsL_pass_r2 ++ (wsL_pass_r3 ++ (wsL_pass_r4 ++ wsL_pass_r5)))) ++ wsX50 ++ wsX30 ++ wsX10 ++ wsX20 ++ wsX00 ++ (vx_atS RX5 41 "java/lang/IllegalArgumentException" ["java/lang/RuntimeException", "java/lang/Exception"]).filter goodWord)
def wsL_told_r1 : List Cond := [Cond.classLink RL 21 "java/lang/IndexOutOfBoundsException", Cond.methodLink RL 40 yX5_told, Cond.instanceMethod yX5_told, Cond.selects RX5 yX5_told yX5_told, Cond.initialized RX5, Cond.code yX5_told cX5_told 3 (some .int), Cond.classLink RX5 71 "java/lang/IndexOutOfBoundsException", Cond.initialized "java/lang/IndexOutOfBoundsException", Cond.fieldLink RX5 26 "StarConsole" "show" "LStarConsole$Show;", Cond.fieldLink RX5 48 "StarConsole$Show" "dimmers" "LStarConsole$Dimmers;", Cond.methodLink RX5 67 yX2_has, Cond.instanceMethod yX2_has, Cond.selects RX2 yX2_has yX2_has, Cond.initialized RX2, Cond.code yX2_has cX2_has 2 (some .boolean), Cond.fieldLink RX2 27 "StarConsole$Dimmers" "size" "I", Cond.methodLink RX5 33 yX5_within, Cond.static yX5_within, Cond.code yX5_within cX5_within 3 (some .boolean), Cond.methodLink RX5 126 yX2_fact, Cond.instanceMethod yX2_fact, Cond.selects RX2 yX2_fact yX2_fact, Cond.code yX2_fact cX2_fact 3 (some .int), Cond.fieldLink RX2 9 "StarConsole$Dimmers" "part" "[I"]
def wsL_told_r2 : List Cond := [Cond.fieldLink RX2 15 "StarConsole$Dimmers" "level" "[I", Cond.fieldLink RX2 18 "StarConsole$Dimmers" "aim" "[I", Cond.fieldLink RX2 21 "StarConsole$Dimmers" "pace" "[I", Cond.fieldLink RX2 24 "StarConsole$Dimmers" "life" "[I", Cond.methodLink RX2 31 yX2_has]
def wsL_told : List Cond := .codeWith yL_told cL_told 5 (some .int) [(0, 10, 13, 21)] :: ((wsL_told_r1 ++ wsL_told_r2) ++ wsX50 ++ wsX30 ++ wsX20 ++ (vx_atS RX5 75 "java/lang/IndexOutOfBoundsException" ["java/lang/RuntimeException", "java/lang/Exception"]).filter goodWord)
def wsL_glare_r1 : List Cond := [Cond.classLink RL 21 "java/lang/IndexOutOfBoundsException", Cond.methodLink RL 43 yX5_glare, Cond.instanceMethod yX5_glare, Cond.selects RX5 yX5_glare yX5_glare, Cond.initialized RX5, Cond.code yX5_glare cX5_glare 2 (some .int), Cond.classLink RX5 71 "java/lang/IndexOutOfBoundsException", Cond.initialized "java/lang/IndexOutOfBoundsException", Cond.fieldLink RX5 26 "StarConsole" "show" "LStarConsole$Show;", Cond.fieldLink RX5 48 "StarConsole$Show" "dimmers" "LStarConsole$Dimmers;", Cond.methodLink RX5 33 yX5_within, Cond.static yX5_within, Cond.code yX5_within cX5_within 3 (some .boolean), Cond.methodLink RX5 129 yX2_glareOn, Cond.instanceMethod yX2_glareOn, Cond.selects RX2 yX2_glareOn yX2_glareOn, Cond.initialized RX2, Cond.code yX2_glareOn cX2_glareOn 5 (some .int), Cond.fieldLink RX2 27 "StarConsole$Dimmers" "size" "I", Cond.fieldLink RX2 9 "StarConsole$Dimmers" "part" "[I", Cond.fieldLink RX2 15 "StarConsole$Dimmers" "level" "[I", Cond.methodLink RX2 52 yJ9_floorMod_7cf53, Cond.static yJ9_floorMod_7cf53, Cond.initialized RJ9]
def wsL_glare_r2 : List Cond := [Cond.code yJ9_floorMod_7cf53 cJ9_floorMod_7cf53 3 (some .int)]
def wsL_glare : List Cond := .codeWith yL_glare cL_glare 4 (some .int) [(0, 9, 12, 21)] :: ((wsL_glare_r1 ++ wsL_glare_r2) ++ wsX50 ++ wsX30 ++ wsX20 ++ (vx_atS RX5 75 "java/lang/IndexOutOfBoundsException" ["java/lang/RuntimeException", "java/lang/Exception"]).filter goodWord)
def wsL_about_r1 : List Cond := [Cond.classLink RL 21 "java/lang/IndexOutOfBoundsException", Cond.methodLink RL 46 yX5_about, Cond.instanceMethod yX5_about, Cond.selects RX5 yX5_about yX5_about, Cond.initialized RX5, Cond.code yX5_about cX5_about 3 (some .int), Cond.classLink RX5 71 "java/lang/IndexOutOfBoundsException", Cond.initialized "java/lang/IndexOutOfBoundsException", Cond.fieldLink RX5 10 "StarConsole" "stars" "LStarConsole$Stars;", Cond.fieldLink RX5 26 "StarConsole" "show" "LStarConsole$Show;", Cond.methodLink RX5 133 yX4_has, Cond.instanceMethod yX4_has, Cond.selects RX4 yX4_has yX4_has, Cond.initialized RX4, Cond.code yX4_has cX4_has 2 (some .boolean), Cond.fieldLink RX4 18 "StarConsole$Stars" "size" "I", Cond.methodLink RX5 33 yX5_within, Cond.static yX5_within, Cond.code yX5_within cX5_within 3 (some .boolean), Cond.methodLink RX5 138 yX3_factOfStar, Cond.instanceMethod yX3_factOfStar, Cond.selects RX3 yX3_factOfStar yX3_factOfStar, Cond.initialized RX3, Cond.code yX3_factOfStar cX3_factOfStar 4 (some .int)]
def wsL_about_r2 : List Cond := [Cond.fieldLink RX3 118 "StarConsole$Stars" "degree" "[I", Cond.fieldLink RX3 121 "StarConsole$Stars" "light" "[I", Cond.fieldLink RX3 39 "StarConsole$Show" "ballAngle" "I", Cond.methodLink RX3 114 yX4_has, Cond.static yX5_turned, Cond.code yX5_turned cX5_turned 2 (some .int), Cond.methodLink RX5 213 yJ9_floorMod_7cf53, Cond.static yJ9_floorMod_7cf53, Cond.initialized RJ9, Cond.code yJ9_floorMod_7cf53 cJ9_floorMod_7cf53 3 (some .int), Cond.methodLink RX3 124 yX3_starSeen, Cond.instanceMethod yX3_starSeen, Cond.selects RX3 yX3_starSeen yX3_starSeen, Cond.code yX3_starSeen cX3_starSeen 3 (some .boolean), Cond.methodLink RX3 141 yX3_outshines, Cond.instanceMethod yX3_outshines, Cond.selects RX3 yX3_outshines yX3_outshines, Cond.code yX3_outshines cX3_outshines 3 (some .boolean), Cond.fieldLink RX3 18 "StarConsole$Show" "dimmers" "LStarConsole$Dimmers;", Cond.methodLink RX3 145 yX2_glareOn, Cond.instanceMethod yX2_glareOn, Cond.selects RX2 yX2_glareOn yX2_glareOn, Cond.initialized RX2, Cond.code yX2_glareOn cX2_glareOn 5 (some .int)]
def wsL_about_r3 : List Cond := [Cond.fieldLink RX2 27 "StarConsole$Dimmers" "size" "I", Cond.fieldLink RX2 9 "StarConsole$Dimmers" "part" "[I", Cond.fieldLink RX2 15 "StarConsole$Dimmers" "level" "[I", Cond.methodLink RX2 52 yJ9_floorMod_7cf53]
def wsL_about : List Cond := .codeWith yL_about cL_about 5 (some .int) [(0, 10, 13, 21)] :: ((wsL_about_r1 ++ (wsL_about_r2 ++ wsL_about_r3)) ++ wsX50 ++ wsX40 ++ wsX30 ++ wsX20 ++ (vx_atS RX5 75 "java/lang/IndexOutOfBoundsException" ["java/lang/RuntimeException", "java/lang/Exception"]).filter goodWord)
def wsL_comet_r1 : List Cond := [Cond.classLink RL 21 "java/lang/IndexOutOfBoundsException", Cond.methodLink RL 49 yX5_comet, Cond.instanceMethod yX5_comet, Cond.selects RX5 yX5_comet yX5_comet, Cond.initialized RX5, Cond.code yX5_comet cX5_comet 3 (some .int), Cond.classLink RX5 71 "java/lang/IndexOutOfBoundsException", Cond.initialized "java/lang/IndexOutOfBoundsException", Cond.fieldLink RX5 26 "StarConsole" "show" "LStarConsole$Show;", Cond.fieldLink RX5 142 "StarConsole$Show" "comets" "LStarConsole$Comets;", Cond.methodLink RX5 146 yX0_has, Cond.instanceMethod yX0_has, Cond.selects RX0 yX0_has yX0_has, Cond.initialized RX0, Cond.code yX0_has cX0_has 2 (some .boolean), Cond.fieldLink RX0 21 "StarConsole$Comets" "size" "I", Cond.methodLink RX5 33 yX5_within, Cond.static yX5_within, Cond.code yX5_within cX5_within 3 (some .boolean), Cond.methodLink RX5 151 yX3_factOfComet, Cond.instanceMethod yX3_factOfComet, Cond.selects RX3 yX3_factOfComet yX3_factOfComet, Cond.initialized RX3, Cond.code yX3_factOfComet cX3_factOfComet 3 (some .int)]
def wsL_comet_r2 : List Cond := [Cond.fieldLink RX3 25 "StarConsole$Show" "comets" "LStarConsole$Comets;", Cond.fieldLink RX3 129 "StarConsole$Comets" "angle" "[I", Cond.fieldLink RX3 132 "StarConsole$Comets" "speed" "[I", Cond.fieldLink RX3 135 "StarConsole$Comets" "left" "[I", Cond.methodLink RX3 128 yX0_has, Cond.methodLink RX3 138 yX3_cometSeen, Cond.instanceMethod yX3_cometSeen, Cond.selects RX3 yX3_cometSeen yX3_cometSeen, Cond.code yX3_cometSeen cX3_cometSeen 2 (some .boolean), Cond.methodLink RX3 141 yX3_outshines, Cond.instanceMethod yX3_outshines, Cond.selects RX3 yX3_outshines yX3_outshines, Cond.code yX3_outshines cX3_outshines 3 (some .boolean), Cond.fieldLink RX3 18 "StarConsole$Show" "dimmers" "LStarConsole$Dimmers;", Cond.methodLink RX3 145 yX2_glareOn, Cond.instanceMethod yX2_glareOn, Cond.selects RX2 yX2_glareOn yX2_glareOn, Cond.initialized RX2, Cond.code yX2_glareOn cX2_glareOn 5 (some .int), Cond.fieldLink RX2 27 "StarConsole$Dimmers" "size" "I", Cond.fieldLink RX2 9 "StarConsole$Dimmers" "part" "[I", Cond.fieldLink RX2 15 "StarConsole$Dimmers" "level" "[I", Cond.methodLink RX2 52 yJ9_floorMod_7cf53, Cond.static yJ9_floorMod_7cf53]
def wsL_comet_r3 : List Cond := [Cond.initialized RJ9, Cond.code yJ9_floorMod_7cf53 cJ9_floorMod_7cf53 3 (some .int)]
def wsL_comet : List Cond := .codeWith yL_comet cL_comet 5 (some .int) [(0, 10, 13, 21)] :: ((wsL_comet_r1 ++ (wsL_comet_r2 ++ wsL_comet_r3)) ++ wsX50 ++ wsX30 ++ wsX00 ++ wsX20 ++ (vx_atS RX5 75 "java/lang/IndexOutOfBoundsException" ["java/lang/RuntimeException", "java/lang/Exception"]).filter goodWord)
def wsL_count_r1 : List Cond := [Cond.classLink RL 21 "java/lang/IndexOutOfBoundsException", Cond.methodLink RL 52 yX5_count, Cond.instanceMethod yX5_count, Cond.selects RX5 yX5_count yX5_count, Cond.initialized RX5, Cond.code yX5_count cX5_count 2 (some .int), Cond.classLink RX5 71 "java/lang/IndexOutOfBoundsException", Cond.initialized "java/lang/IndexOutOfBoundsException", Cond.fieldLink RX5 26 "StarConsole" "show" "LStarConsole$Show;", Cond.fieldLink RX5 10 "StarConsole" "stars" "LStarConsole$Stars;", Cond.fieldLink RX5 19 "StarConsole" "cues" "LStarConsole$Cues;", Cond.methodLink RX5 33 yX5_within, Cond.static yX5_within, Cond.code yX5_within cX5_within 3 (some .boolean), Cond.methodLink RX5 156 yX3_fact, Cond.instanceMethod yX3_fact, Cond.selects RX3 yX3_fact yX3_fact, Cond.initialized RX3, Cond.code yX3_fact cX3_fact 4 (some .int), Cond.fieldLink RX3 29 "StarConsole$Show" "tick" "I", Cond.fieldLink RX3 32 "StarConsole$Show" "clock" "I", Cond.fieldLink RX3 35 "StarConsole$Show" "clockRuns" "Z", Cond.fieldLink RX3 18 "StarConsole$Show" "dimmers" "LStarConsole$Dimmers;", Cond.fieldLink RX3 101 "StarConsole$Dimmers" "size" "I"]
def wsL_count_r2 : List Cond := [Cond.fieldLink RX3 102 "StarConsole$Stars" "size" "I", Cond.fieldLink RX3 25 "StarConsole$Show" "comets" "LStarConsole$Comets;", Cond.fieldLink RX3 105 "StarConsole$Comets" "size" "I", Cond.fieldLink RX3 72 "StarConsole$Cues" "size" "I", Cond.fieldLink RX3 9 "StarConsole$Show" "line" "I", Cond.fieldLink RX3 45 "StarConsole$Show" "speechLeft" "I", Cond.fieldLink RX3 39 "StarConsole$Show" "ballAngle" "I", Cond.fieldLink RX3 42 "StarConsole$Show" "ballSpeed" "I", Cond.methodLink RX3 106 yX3_starsSeen, Cond.instanceMethod yX3_starsSeen, Cond.selects RX3 yX3_starsSeen yX3_starsSeen, Cond.code yX3_starsSeen cX3_starsSeen 4 (some .int), Cond.methodLink RX3 124 yX3_starSeen, Cond.instanceMethod yX3_starSeen, Cond.selects RX3 yX3_starSeen yX3_starSeen, Cond.code yX3_starSeen cX3_starSeen 3 (some .boolean), Cond.fieldLink RX3 118 "StarConsole$Stars" "degree" "[I", Cond.fieldLink RX3 121 "StarConsole$Stars" "light" "[I", Cond.methodLink RX3 114 yX4_has, Cond.instanceMethod yX4_has, Cond.selects RX4 yX4_has yX4_has, Cond.initialized RX4, Cond.code yX4_has cX4_has 2 (some .boolean), Cond.fieldLink RX4 18 "StarConsole$Stars" "size" "I"]
def wsL_count_r3 : List Cond := [Cond.static yX5_turned, Cond.code yX5_turned cX5_turned 2 (some .int), Cond.methodLink RX5 213 yJ9_floorMod_7cf53, Cond.static yJ9_floorMod_7cf53, Cond.initialized RJ9, Cond.code yJ9_floorMod_7cf53 cJ9_floorMod_7cf53 3 (some .int), Cond.methodLink RX3 141 yX3_outshines, Cond.instanceMethod yX3_outshines, Cond.selects RX3 yX3_outshines yX3_outshines, Cond.code yX3_outshines cX3_outshines 3 (some .boolean), Cond.methodLink RX3 145 yX2_glareOn, Cond.instanceMethod yX2_glareOn, Cond.selects RX2 yX2_glareOn yX2_glareOn, Cond.initialized RX2, Cond.code yX2_glareOn cX2_glareOn 5 (some .int), Cond.fieldLink RX2 27 "StarConsole$Dimmers" "size" "I", Cond.fieldLink RX2 9 "StarConsole$Dimmers" "part" "[I", Cond.fieldLink RX2 15 "StarConsole$Dimmers" "level" "[I", Cond.methodLink RX2 52 yJ9_floorMod_7cf53, Cond.methodLink RX3 110 yX3_cometsSeen, Cond.instanceMethod yX3_cometsSeen, Cond.selects RX3 yX3_cometsSeen yX3_cometsSeen, Cond.code yX3_cometsSeen cX3_cometsSeen 3 (some .int), Cond.methodLink RX3 138 yX3_cometSeen]
def wsL_count_r4 : List Cond := [Cond.instanceMethod yX3_cometSeen, Cond.selects RX3 yX3_cometSeen yX3_cometSeen, Cond.code yX3_cometSeen cX3_cometSeen 2 (some .boolean), Cond.fieldLink RX3 135 "StarConsole$Comets" "left" "[I", Cond.fieldLink RX3 129 "StarConsole$Comets" "angle" "[I", Cond.methodLink RX3 128 yX0_has, Cond.instanceMethod yX0_has, Cond.selects RX0 yX0_has yX0_has, Cond.initialized RX0, Cond.code yX0_has cX0_has 2 (some .boolean), Cond.fieldLink RX0 21 "StarConsole$Comets" "size" "I"]
def wsL_count : List Cond := .codeWith yL_count cL_count 4 (some .int) [(0, 9, 12, 21)] :: ((wsL_count_r1 ++ (wsL_count_r2 ++ (wsL_count_r3 ++ wsL_count_r4))) ++ wsX50 ++ wsX30 ++ wsX20 ++ wsX40 ++ wsX00 ++ wsX10 ++ (vx_atS RX5 75 "java/lang/IndexOutOfBoundsException" ["java/lang/RuntimeException", "java/lang/Exception"]).filter goodWord)
def wsL_when_r1 : List Cond := [Cond.classLink RL 21 "java/lang/IndexOutOfBoundsException", Cond.methodLink RL 55 yX5_when, Cond.instanceMethod yX5_when, Cond.selects RX5 yX5_when yX5_when, Cond.initialized RX5, Cond.code yX5_when cX5_when 3 (some .int), Cond.classLink RX5 71 "java/lang/IndexOutOfBoundsException", Cond.initialized "java/lang/IndexOutOfBoundsException", Cond.fieldLink RX5 19 "StarConsole" "cues" "LStarConsole$Cues;", Cond.fieldLink RX5 26 "StarConsole" "show" "LStarConsole$Show;", Cond.fieldLink RX5 104 "StarConsole$Show" "clockRuns" "Z", Cond.fieldLink RX5 110 "StarConsole$Show" "clock" "I", Cond.methodLink RX5 162 yX1_has, Cond.instanceMethod yX1_has, Cond.selects RX1 yX1_has yX1_has, Cond.initialized RX1, Cond.code yX1_has cX1_has 2 (some .boolean), Cond.fieldLink RX1 24 "StarConsole$Cues" "size" "I", Cond.methodLink RX5 165 yX1_timeOf, Cond.instanceMethod yX1_timeOf, Cond.selects RX1 yX1_timeOf yX1_timeOf, Cond.code yX1_timeOf cX1_timeOf 2 (some .int), Cond.fieldLink RX1 9 "StarConsole$Cues" "time" "[I", Cond.methodLink RX1 28 yX1_has]
def wsL_when_r2 : List Cond := [Cond.methodLink RX5 168 yX1_holdWithin, Cond.instanceMethod yX1_holdWithin, Cond.selects RX1 yX1_holdWithin yX1_holdWithin, Cond.code yX1_holdWithin cX1_holdWithin 4 (some .boolean), Cond.fieldLink RX1 15 "StarConsole$Cues" "kind" "[I"]
def wsL_when : List Cond := .codeWith yL_when cL_when 4 (some .int) [(0, 9, 12, 21)] :: ((wsL_when_r1 ++ wsL_when_r2) ++ wsX50 ++ wsX30 ++ wsX10 ++ (vx_atS RX5 75 "java/lang/IndexOutOfBoundsException" ["java/lang/RuntimeException", "java/lang/Exception"]).filter goodWord)
def wsL_lasts_r1 : List Cond := [Cond.classLink RL 21 "java/lang/IndexOutOfBoundsException", Cond.methodLink RL 58 yX5_lasts, Cond.instanceMethod yX5_lasts, Cond.selects RX5 yX5_lasts yX5_lasts, Cond.initialized RX5, Cond.code yX5_lasts cX5_lasts 3 (some .int), Cond.classLink RX5 71 "java/lang/IndexOutOfBoundsException", Cond.initialized "java/lang/IndexOutOfBoundsException", Cond.fieldLink RX5 26 "StarConsole" "show" "LStarConsole$Show;", Cond.fieldLink RX5 48 "StarConsole$Show" "dimmers" "LStarConsole$Dimmers;", Cond.fieldLink RX5 30 "StarConsole" "ahead" "LStarConsole$Show;", Cond.fieldLink RX5 19 "StarConsole" "cues" "LStarConsole$Cues;", Cond.methodLink RX5 67 yX2_has, Cond.instanceMethod yX2_has, Cond.selects RX2 yX2_has yX2_has, Cond.initialized RX2, Cond.code yX2_has cX2_has 2 (some .boolean), Cond.fieldLink RX2 27 "StarConsole$Dimmers" "size" "I", Cond.methodLink RX5 172 yX3_become, Cond.instanceMethod yX3_become, Cond.selects RX3 yX3_become yX3_become, Cond.initialized RX3, Cond.code yX3_become cX3_become 2 none, Cond.fieldLink RX3 29 "StarConsole$Show" "tick" "I"]
def wsL_lasts_r2 : List Cond := [Cond.fieldLink RX3 32 "StarConsole$Show" "clock" "I", Cond.fieldLink RX3 35 "StarConsole$Show" "clockRuns" "Z", Cond.fieldLink RX3 39 "StarConsole$Show" "ballAngle" "I", Cond.fieldLink RX3 42 "StarConsole$Show" "ballSpeed" "I", Cond.fieldLink RX3 9 "StarConsole$Show" "line" "I", Cond.fieldLink RX3 45 "StarConsole$Show" "speechLeft" "I", Cond.fieldLink RX3 18 "StarConsole$Show" "dimmers" "LStarConsole$Dimmers;", Cond.fieldLink RX3 25 "StarConsole$Show" "comets" "LStarConsole$Comets;", Cond.methodLink RX3 48 yX2_become, Cond.instanceMethod yX2_become, Cond.selects RX2 yX2_become yX2_become, Cond.code yX2_become cX2_become 3 none, Cond.fieldLink RX2 9 "StarConsole$Dimmers" "part" "[I", Cond.fieldLink RX2 15 "StarConsole$Dimmers" "level" "[I", Cond.fieldLink RX2 18 "StarConsole$Dimmers" "aim" "[I", Cond.fieldLink RX2 21 "StarConsole$Dimmers" "pace" "[I", Cond.fieldLink RX2 24 "StarConsole$Dimmers" "life" "[I", Cond.methodLink RX3 52 yX0_become, Cond.instanceMethod yX0_become, Cond.selects RX0 yX0_become yX0_become, Cond.initialized RX0, Cond.code yX0_become cX0_become 3 none, Cond.fieldLink RX0 9 "StarConsole$Comets" "angle" "[I", Cond.fieldLink RX0 15 "StarConsole$Comets" "speed" "[I"]
def wsL_lasts_r3 : List Cond := [Cond.fieldLink RX0 18 "StarConsole$Comets" "left" "[I", Cond.fieldLink RX0 21 "StarConsole$Comets" "size" "I", Cond.methodLink RX5 176 yX2_hasLife, Cond.instanceMethod yX2_hasLife, Cond.selects RX2 yX2_hasLife yX2_hasLife, Cond.code yX2_hasLife cX2_hasLife 2 (some .boolean), Cond.methodLink RX2 31 yX2_has, Cond.methodLink RX5 179 yX3_goOn, Cond.instanceMethod yX3_goOn, Cond.selects RX3 yX3_goOn yX3_goOn, Cond.code yX3_goOn cX3_goOn 3 (some .int), Cond.methodLink RX3 59 yX3_runCues, Cond.instanceMethod yX3_runCues, Cond.selects RX3 yX3_runCues yX3_runCues, Cond.code yX3_runCues cX3_runCues 4 (some .int), Cond.fieldLink RX3 72 "StarConsole$Cues" "size" "I", Cond.fieldLink RX3 77 "StarConsole$Cues" "time" "[I", Cond.fieldLink RX3 81 "StarConsole$Cues" "kind" "[I", Cond.fieldLink RX3 84 "StarConsole$Cues" "a" "[I", Cond.fieldLink RX3 87 "StarConsole$Cues" "b" "[I", Cond.methodLink RX3 90 yX3_obey, Cond.instanceMethod yX3_obey, Cond.selects RX3 yX3_obey yX3_obey, Cond.code yX3_obey cX3_obey 4 none]
def wsL_lasts_r4 : List Cond := [Cond.methodLink RX3 94 yX2_changeAim, Cond.instanceMethod yX2_changeAim, Cond.selects RX2 yX2_changeAim yX2_changeAim, Cond.code yX2_changeAim cX2_changeAim 4 (some .int), Cond.methodLink RX3 97 yX0_addIfRoom, Cond.instanceMethod yX0_addIfRoom, Cond.selects RX0 yX0_addIfRoom yX0_addIfRoom, Cond.code yX0_addIfRoom cX0_addIfRoom 4 none, Cond.methodLink RX3 62 yX2_goOn, Cond.instanceMethod yX2_goOn, Cond.selects RX2 yX2_goOn yX2_goOn, Cond.code yX2_goOn cX2_goOn 2 none, Cond.methodLink RX2 43 Lib.Math.max.name, Cond.static Lib.Math.max.name, Cond.initialized "java/lang/Math", Cond.code Lib.Math.max.name Lib.Math.max.code 2 (some .int), Cond.methodLink RX2 39 yX2_approached, Cond.static yX2_approached, Cond.code yX2_approached cX2_approached 3 (some .int), Cond.methodLink RX2 49 Lib.Math.min.name, Cond.static Lib.Math.min.name, Cond.code Lib.Math.min.name Lib.Math.min.code 2 (some .int), Cond.methodLink RX2 35 yX2_darkenWithoutLife, Cond.instanceMethod yX2_darkenWithoutLife]
def wsL_lasts_r5 : List Cond := [Cond.selects RX2 yX2_darkenWithoutLife yX2_darkenWithoutLife, Cond.code yX2_darkenWithoutLife cX2_darkenWithoutLife 2 none, Cond.static yX5_turned, Cond.code yX5_turned cX5_turned 2 (some .int), Cond.methodLink RX5 213 yJ9_floorMod_7cf53, Cond.static yJ9_floorMod_7cf53, Cond.initialized RJ9, Cond.code yJ9_floorMod_7cf53 cJ9_floorMod_7cf53 3 (some .int), Cond.methodLink RX3 68 yX0_goOn, Cond.instanceMethod yX0_goOn, Cond.selects RX0 yX0_goOn yX0_goOn, Cond.code yX0_goOn cX0_goOn 2 none, Cond.methodLink RX3 69 yX3_speakOn, Cond.instanceMethod yX3_speakOn, Cond.selects RX3 yX3_speakOn yX3_speakOn, Cond.code yX3_speakOn cX3_speakOn 1 none]
def wsL_lasts : List Cond := .codeWith yL_lasts cL_lasts 4 (some .int) [(0, 9, 12, 21)] :: ((wsL_lasts_r1 ++ (wsL_lasts_r2 ++ (wsL_lasts_r3 ++ (wsL_lasts_r4 ++ wsL_lasts_r5)))) ++ wsX50 ++ wsX30 ++ wsX20 ++ wsX00 ++ wsX10 ++ (vx_atS RX5 75 "java/lang/IndexOutOfBoundsException" ["java/lang/RuntimeException", "java/lang/Exception"]).filter goodWord)
def wsL_foresee_r1 : List Cond := [Cond.classLink RL 13 "java/lang/IllegalArgumentException", Cond.classLink RL 21 "java/lang/IndexOutOfBoundsException", Cond.methodLink RL 61 yX5_foresee, Cond.instanceMethod yX5_foresee, Cond.selects RX5 yX5_foresee yX5_foresee, Cond.initialized RX5, Cond.code yX5_foresee cX5_foresee 3 (some .int), Cond.classLink RX5 37 "java/lang/IllegalArgumentException", Cond.initialized "java/lang/IllegalArgumentException", Cond.classLink RX5 71 "java/lang/IndexOutOfBoundsException", Cond.initialized "java/lang/IndexOutOfBoundsException", Cond.fieldLink RX5 30 "StarConsole" "ahead" "LStarConsole$Show;", Cond.fieldLink RX5 26 "StarConsole" "show" "LStarConsole$Show;", Cond.fieldLink RX5 19 "StarConsole" "cues" "LStarConsole$Cues;", Cond.fieldLink RX5 10 "StarConsole" "stars" "LStarConsole$Stars;", Cond.methodLink RX5 33 yX5_within, Cond.static yX5_within, Cond.code yX5_within cX5_within 3 (some .boolean), Cond.methodLink RX5 183 yX5_foreseeable, Cond.static yX5_foreseeable, Cond.code yX5_foreseeable cX5_foreseeable 1 (some .boolean), Cond.methodLink RX5 172 yX3_become, Cond.instanceMethod yX3_become, Cond.selects RX3 yX3_become yX3_become]
def wsL_foresee_r2 : List Cond := [Cond.initialized RX3, Cond.code yX3_become cX3_become 2 none, Cond.fieldLink RX3 29 "StarConsole$Show" "tick" "I", Cond.fieldLink RX3 32 "StarConsole$Show" "clock" "I", Cond.fieldLink RX3 35 "StarConsole$Show" "clockRuns" "Z", Cond.fieldLink RX3 39 "StarConsole$Show" "ballAngle" "I", Cond.fieldLink RX3 42 "StarConsole$Show" "ballSpeed" "I", Cond.fieldLink RX3 9 "StarConsole$Show" "line" "I", Cond.fieldLink RX3 45 "StarConsole$Show" "speechLeft" "I", Cond.fieldLink RX3 18 "StarConsole$Show" "dimmers" "LStarConsole$Dimmers;", Cond.fieldLink RX3 25 "StarConsole$Show" "comets" "LStarConsole$Comets;", Cond.methodLink RX3 48 yX2_become, Cond.instanceMethod yX2_become, Cond.selects RX2 yX2_become yX2_become, Cond.initialized RX2, Cond.code yX2_become cX2_become 3 none, Cond.fieldLink RX2 9 "StarConsole$Dimmers" "part" "[I", Cond.fieldLink RX2 15 "StarConsole$Dimmers" "level" "[I", Cond.fieldLink RX2 18 "StarConsole$Dimmers" "aim" "[I", Cond.fieldLink RX2 21 "StarConsole$Dimmers" "pace" "[I", Cond.fieldLink RX2 24 "StarConsole$Dimmers" "life" "[I", Cond.fieldLink RX2 27 "StarConsole$Dimmers" "size" "I", Cond.methodLink RX3 52 yX0_become, Cond.instanceMethod yX0_become]
def wsL_foresee_r3 : List Cond := [Cond.selects RX0 yX0_become yX0_become, Cond.initialized RX0, Cond.code yX0_become cX0_become 3 none, Cond.fieldLink RX0 9 "StarConsole$Comets" "angle" "[I", Cond.fieldLink RX0 15 "StarConsole$Comets" "speed" "[I", Cond.fieldLink RX0 18 "StarConsole$Comets" "left" "[I", Cond.fieldLink RX0 21 "StarConsole$Comets" "size" "I", Cond.methodLink RX5 120 yX3_goOnFor, Cond.instanceMethod yX3_goOnFor, Cond.selects RX3 yX3_goOnFor yX3_goOnFor, Cond.code yX3_goOnFor cX3_goOnFor 5 (some .int), Cond.methodLink RX3 55 yX3_goOn, Cond.instanceMethod yX3_goOn, Cond.selects RX3 yX3_goOn yX3_goOn, Cond.code yX3_goOn cX3_goOn 3 (some .int), Cond.methodLink RX3 59 yX3_runCues, Cond.instanceMethod yX3_runCues, Cond.selects RX3 yX3_runCues yX3_runCues, Cond.code yX3_runCues cX3_runCues 4 (some .int), Cond.fieldLink RX3 72 "StarConsole$Cues" "size" "I", Cond.fieldLink RX3 77 "StarConsole$Cues" "time" "[I", Cond.fieldLink RX3 81 "StarConsole$Cues" "kind" "[I", Cond.fieldLink RX3 84 "StarConsole$Cues" "a" "[I", Cond.fieldLink RX3 87 "StarConsole$Cues" "b" "[I"]
def wsL_foresee_r4 : List Cond := [Cond.methodLink RX3 90 yX3_obey, Cond.instanceMethod yX3_obey, Cond.selects RX3 yX3_obey yX3_obey, Cond.code yX3_obey cX3_obey 4 none, Cond.methodLink RX3 94 yX2_changeAim, Cond.instanceMethod yX2_changeAim, Cond.selects RX2 yX2_changeAim yX2_changeAim, Cond.code yX2_changeAim cX2_changeAim 4 (some .int), Cond.methodLink RX2 31 yX2_has, Cond.instanceMethod yX2_has, Cond.selects RX2 yX2_has yX2_has, Cond.code yX2_has cX2_has 2 (some .boolean), Cond.methodLink RX3 97 yX0_addIfRoom, Cond.instanceMethod yX0_addIfRoom, Cond.selects RX0 yX0_addIfRoom yX0_addIfRoom, Cond.code yX0_addIfRoom cX0_addIfRoom 4 none, Cond.methodLink RX3 62 yX2_goOn, Cond.instanceMethod yX2_goOn, Cond.selects RX2 yX2_goOn yX2_goOn, Cond.code yX2_goOn cX2_goOn 2 none, Cond.methodLink RX2 43 Lib.Math.max.name, Cond.static Lib.Math.max.name, Cond.initialized "java/lang/Math", Cond.code Lib.Math.max.name Lib.Math.max.code 2 (some .int)]
def wsL_foresee_r5 : List Cond := [Cond.methodLink RX2 39 yX2_approached, Cond.static yX2_approached, Cond.code yX2_approached cX2_approached 3 (some .int), Cond.methodLink RX2 49 Lib.Math.min.name, Cond.static Lib.Math.min.name, Cond.code Lib.Math.min.name Lib.Math.min.code 2 (some .int), Cond.methodLink RX2 35 yX2_darkenWithoutLife, Cond.instanceMethod yX2_darkenWithoutLife, Cond.selects RX2 yX2_darkenWithoutLife yX2_darkenWithoutLife, Cond.code yX2_darkenWithoutLife cX2_darkenWithoutLife 2 none, Cond.static yX5_turned, Cond.code yX5_turned cX5_turned 2 (some .int), Cond.methodLink RX5 213 yJ9_floorMod_7cf53, Cond.static yJ9_floorMod_7cf53, Cond.initialized RJ9, Cond.code yJ9_floorMod_7cf53 cJ9_floorMod_7cf53 3 (some .int), Cond.methodLink RX3 68 yX0_goOn, Cond.instanceMethod yX0_goOn, Cond.selects RX0 yX0_goOn yX0_goOn, Cond.code yX0_goOn cX0_goOn 2 none, Cond.methodLink RX3 69 yX3_speakOn, Cond.instanceMethod yX3_speakOn, Cond.selects RX3 yX3_speakOn yX3_speakOn, Cond.code yX3_speakOn cX3_speakOn 1 none]
def wsL_foresee_r6 : List Cond := [Cond.methodLink RX5 156 yX3_fact, Cond.instanceMethod yX3_fact, Cond.selects RX3 yX3_fact yX3_fact, Cond.code yX3_fact cX3_fact 4 (some .int), Cond.fieldLink RX3 101 "StarConsole$Dimmers" "size" "I", Cond.fieldLink RX3 102 "StarConsole$Stars" "size" "I", Cond.fieldLink RX3 105 "StarConsole$Comets" "size" "I", Cond.methodLink RX3 106 yX3_starsSeen, Cond.instanceMethod yX3_starsSeen, Cond.selects RX3 yX3_starsSeen yX3_starsSeen, Cond.code yX3_starsSeen cX3_starsSeen 4 (some .int), Cond.methodLink RX3 124 yX3_starSeen, Cond.instanceMethod yX3_starSeen, Cond.selects RX3 yX3_starSeen yX3_starSeen, Cond.code yX3_starSeen cX3_starSeen 3 (some .boolean), Cond.fieldLink RX3 118 "StarConsole$Stars" "degree" "[I", Cond.fieldLink RX3 121 "StarConsole$Stars" "light" "[I", Cond.methodLink RX3 114 yX4_has, Cond.instanceMethod yX4_has, Cond.selects RX4 yX4_has yX4_has, Cond.initialized RX4, Cond.code yX4_has cX4_has 2 (some .boolean), Cond.fieldLink RX4 18 "StarConsole$Stars" "size" "I", Cond.methodLink RX3 141 yX3_outshines]
def wsL_foresee_r7 : List Cond := [Cond.instanceMethod yX3_outshines, Cond.selects RX3 yX3_outshines yX3_outshines, Cond.code yX3_outshines cX3_outshines 3 (some .boolean), Cond.methodLink RX3 145 yX2_glareOn, Cond.instanceMethod yX2_glareOn, Cond.selects RX2 yX2_glareOn yX2_glareOn, Cond.code yX2_glareOn cX2_glareOn 5 (some .int), Cond.methodLink RX2 52 yJ9_floorMod_7cf53, Cond.methodLink RX3 110 yX3_cometsSeen, Cond.instanceMethod yX3_cometsSeen, Cond.selects RX3 yX3_cometsSeen yX3_cometsSeen, Cond.code yX3_cometsSeen cX3_cometsSeen 3 (some .int), Cond.methodLink RX3 138 yX3_cometSeen, Cond.instanceMethod yX3_cometSeen, Cond.selects RX3 yX3_cometSeen yX3_cometSeen, Cond.code yX3_cometSeen cX3_cometSeen 2 (some .boolean), Cond.fieldLink RX3 135 "StarConsole$Comets" "left" "[I", Cond.fieldLink RX3 129 "StarConsole$Comets" "angle" "[I", Cond.methodLink RX3 128 yX0_has, Cond.instanceMethod yX0_has, Cond.selects RX0 yX0_has yX0_has, Cond.code yX0_has cX0_has 2 (some .boolean)]
def wsL_foresee : List Cond := .codeWith yL_foresee cL_foresee 5 (some .int) [(0, 10, 13, 13), (0, 10, 17, 21)] :: ((wsL_foresee_r1 ++ (wsL_foresee_r2 ++ (wsL_foresee_r3 ++ (wsL_foresee_r4 ++ (wsL_foresee_r5 ++ (wsL_foresee_r6 ++ wsL_foresee_r7)))))) ++ wsX50 ++ wsX30 ++ wsX20 ++ wsX00 ++ wsX10 ++ wsX40 ++ (vx_atS RX5 41 "java/lang/IllegalArgumentException" ["java/lang/RuntimeException", "java/lang/Exception"]).filter goodWord ++ (vx_atS RX5 75 "java/lang/IndexOutOfBoundsException" ["java/lang/RuntimeException", "java/lang/Exception"]).filter goodWord)
def wsL_law0_r1 : List Cond := [Cond.classLink RL 8 RX5, Cond.instantiable RX5 4, Cond.initialized RX5, Cond.classLink RL 65 RX6, Cond.instantiable RX6 9, Cond.initialized RX6, Cond.arrayClass .long, Cond.methodLink RL 64 yX5_init, Cond.instanceMethod yX5_init, Cond.code yX5_init cX5_init 1 none, Cond.methodLink RX5 1 objectInit, Cond.instanceMethod objectInit, Cond.code objectInit ⟨#[0xb1]⟩ 1 none, Cond.classLink RX5 7 RX4, Cond.instantiable RX4 3, Cond.initialized RX4, Cond.fieldLink RX5 10 "StarConsole" "stars" "LStarConsole$Stars;", Cond.classLink RX5 16 RX1, Cond.instantiable RX1 5, Cond.initialized RX1, Cond.fieldLink RX5 19 "StarConsole" "cues" "LStarConsole$Cues;", Cond.classLink RX5 23 RX3, Cond.instantiable RX3 9, Cond.initialized RX3]
def wsL_law0_r2 : List Cond := [Cond.fieldLink RX5 26 "StarConsole" "show" "LStarConsole$Show;", Cond.fieldLink RX5 30 "StarConsole" "ahead" "LStarConsole$Show;", Cond.instanceMethod yX4_init, Cond.code yX4_init cX4_init 1 none, Cond.methodLink RX4 3 objectInit, Cond.arrayClass .int, Cond.fieldLink RX4 9 "StarConsole$Stars" "degree" "[I", Cond.fieldLink RX4 15 "StarConsole$Stars" "light" "[I", Cond.instanceMethod yX1_init, Cond.code yX1_init cX1_init 1 none, Cond.methodLink RX1 3 objectInit, Cond.fieldLink RX1 9 "StarConsole$Cues" "time" "[I", Cond.fieldLink RX1 15 "StarConsole$Cues" "kind" "[I", Cond.fieldLink RX1 18 "StarConsole$Cues" "a" "[I", Cond.fieldLink RX1 21 "StarConsole$Cues" "b" "[I", Cond.instanceMethod yX3_init, Cond.code yX3_init cX3_init 1 none, Cond.methodLink RX3 3 objectInit, Cond.fieldLink RX3 9 "StarConsole$Show" "line" "I", Cond.classLink RX3 15 RX2, Cond.instantiable RX2 6, Cond.initialized RX2, Cond.fieldLink RX3 18 "StarConsole$Show" "dimmers" "LStarConsole$Dimmers;", Cond.classLink RX3 22 RX0]
def wsL_law0_r3 : List Cond := [Cond.instantiable RX0 4, Cond.initialized RX0, Cond.fieldLink RX3 25 "StarConsole$Show" "comets" "LStarConsole$Comets;", Cond.instanceMethod yX2_init, Cond.code yX2_init cX2_init 1 none, Cond.methodLink RX2 3 objectInit, Cond.fieldLink RX2 9 "StarConsole$Dimmers" "part" "[I", Cond.fieldLink RX2 15 "StarConsole$Dimmers" "level" "[I", Cond.fieldLink RX2 18 "StarConsole$Dimmers" "aim" "[I", Cond.fieldLink RX2 21 "StarConsole$Dimmers" "pace" "[I", Cond.fieldLink RX2 24 "StarConsole$Dimmers" "life" "[I", Cond.instanceMethod yX0_init, Cond.code yX0_init cX0_init 1 none, Cond.methodLink RX0 3 objectInit, Cond.fieldLink RX0 9 "StarConsole$Comets" "angle" "[I", Cond.fieldLink RX0 15 "StarConsole$Comets" "speed" "[I", Cond.fieldLink RX0 18 "StarConsole$Comets" "left" "[I", Cond.methodLink RL 67 yX6_init, Cond.instanceMethod yX6_init, Cond.code yX6_init cX6_init 1 none, Cond.methodLink RX6 1 objectInit, Cond.fieldLink RX6 9 "StarConsoleModel" "lamps" "[I", Cond.fieldLink RX6 13 "StarConsoleModel" "sky" "[I", Cond.fieldLink RX6 16 "StarConsoleModel" "tails" "[I"]
def wsL_law0_r4 : List Cond := [Cond.fieldLink RX6 19 "StarConsoleModel" "show" "[I", Cond.fieldLink RX6 22 "StarConsoleModel" "numbers" "[I", Cond.methodLink RL 68 yL_dimmer, Cond.static yL_dimmer, Cond.initialized RL, Cond.codeWith yL_dimmer cL_dimmer 6 (some .int) [(0, 12, 15, 13), (0, 12, 19, 15)], Cond.classLink RL 13 "java/lang/IllegalArgumentException", Cond.classLink RL 15 "java/lang/IllegalStateException", Cond.methodLink RL 7 yX5_dimmer, Cond.instanceMethod yX5_dimmer, Cond.selects RX5 yX5_dimmer yX5_dimmer, Cond.code yX5_dimmer cX5_dimmer 4 (some .int), Cond.classLink RX5 37 "java/lang/IllegalArgumentException", Cond.initialized "java/lang/IllegalArgumentException", Cond.classLink RX5 58 "java/lang/IllegalStateException", Cond.initialized "java/lang/IllegalStateException", Cond.fieldLink RX5 48 "StarConsole$Show" "dimmers" "LStarConsole$Dimmers;", Cond.fieldLink RX5 52 "StarConsole$Dimmers" "size" "I", Cond.methodLink RX5 33 yX5_within, Cond.static yX5_within, Cond.code yX5_within cX5_within 3 (some .boolean), Cond.methodLink RX5 63 yX2_add, Cond.instanceMethod yX2_add, Cond.selects RX2 yX2_add yX2_add]
def wsL_law0_r5 : List Cond := [Cond.code yX2_add cX2_add 5 (some .int), Cond.fieldLink RX2 27 "StarConsole$Dimmers" "size" "I", Cond.methodLink RL 73 yX6_dimmer, Cond.instanceMethod yX6_dimmer, Cond.selects RX6 yX6_dimmer yX6_dimmer, Cond.code yX6_dimmer cX6_dimmer 5 (some .int), Cond.fieldLink RX6 25 "StarConsoleModel" "thrown" "I", Cond.fieldLink RX6 29 "StarConsoleModel" "dimmers" "I", Cond.methodLink RX6 40 arraycopyName, Cond.native arraycopyName, Cond.static arraycopyName, Cond.initialized "java/lang/System", Cond.methodLink RX6 32 yX6_isIn, Cond.static yX6_isIn, Cond.code yX6_isIn cX6_isIn 3 (some .boolean), Cond.methodLink RX6 36 yX6_fail, Cond.instanceMethod yX6_fail, Cond.selects RX6 yX6_fail yX6_fail, Cond.code yX6_fail cX6_fail 2 (some .int), Cond.methodLink RL 74 yX6_thrown, Cond.instanceMethod yX6_thrown, Cond.selects RX6 yX6_thrown yX6_thrown, Cond.code yX6_thrown cX6_thrown 1 (some .int), Cond.methodLink RL 78 yL_lamp]
def wsL_law0_r6 : List Cond := [Cond.static yL_lamp, Cond.codeWith yL_lamp cL_lamp 5 (some .int) [(0, 10, 13, 21), (0, 10, 17, 13)], Cond.classLink RL 21 "java/lang/IndexOutOfBoundsException", Cond.methodLink RL 17 yX5_lamp, Cond.instanceMethod yX5_lamp, Cond.selects RX5 yX5_lamp yX5_lamp, Cond.code yX5_lamp cX5_lamp 3 (some .int), Cond.classLink RX5 71 "java/lang/IndexOutOfBoundsException", Cond.initialized "java/lang/IndexOutOfBoundsException", Cond.methodLink RX5 67 yX2_has, Cond.instanceMethod yX2_has, Cond.selects RX2 yX2_has yX2_has, Cond.code yX2_has cX2_has 2 (some .boolean), Cond.methodLink RX5 76 yX2_changeLamp, Cond.instanceMethod yX2_changeLamp, Cond.selects RX2 yX2_changeLamp yX2_changeLamp, Cond.code yX2_changeLamp cX2_changeLamp 4 (some .int), Cond.methodLink RX2 31 yX2_has, Cond.methodLink RX2 35 yX2_darkenWithoutLife, Cond.instanceMethod yX2_darkenWithoutLife, Cond.selects RX2 yX2_darkenWithoutLife yX2_darkenWithoutLife, Cond.code yX2_darkenWithoutLife cX2_darkenWithoutLife 2 none, Cond.methodLink RL 81 yX6_lamp, Cond.instanceMethod yX6_lamp]
def wsL_law0_r7 : List Cond := [Cond.selects RX6 yX6_lamp yX6_lamp, Cond.code yX6_lamp cX6_lamp 4 (some .int), Cond.methodLink RX6 46 yX6_isDimmer, Cond.instanceMethod yX6_isDimmer, Cond.selects RX6 yX6_isDimmer yX6_isDimmer, Cond.code yX6_isDimmer cX6_isDimmer 2 (some .boolean), Cond.methodLink RX6 50 yX6_la, Cond.instanceMethod yX6_la, Cond.selects RX6 yX6_la yX6_la, Cond.code yX6_la cX6_la 3 (some .int), Cond.methodLink RX6 54 yX6_put, Cond.instanceMethod yX6_put, Cond.selects RX6 yX6_put yX6_put, Cond.code yX6_put cX6_put 4 none, Cond.methodLink RL 82 yL_star, Cond.static yL_star, Cond.codeWith yL_star cL_star 5 (some .int) [(0, 10, 13, 13), (0, 10, 17, 15)], Cond.methodLink RL 23 yX5_star, Cond.instanceMethod yX5_star, Cond.selects RX5 yX5_star yX5_star, Cond.code yX5_star cX5_star 3 (some .int), Cond.fieldLink RX5 84 "StarConsole$Stars" "size" "I", Cond.methodLink RX5 87 yX4_add, Cond.instanceMethod yX4_add]
def wsL_law0_r8 : List Cond := [Cond.selects RX4 yX4_add yX4_add, Cond.code yX4_add cX4_add 4 (some .int), Cond.fieldLink RX4 18 "StarConsole$Stars" "size" "I", Cond.methodLink RL 84 yX6_star, Cond.instanceMethod yX6_star, Cond.selects RX6 yX6_star yX6_star, Cond.code yX6_star cX6_star 3 (some .int), Cond.fieldLink RX6 58 "StarConsoleModel" "stars" "I", Cond.methodLink RL 85 yL_cue, Cond.static yL_cue, Cond.codeWith yL_cue cL_cue 7 (some .int) [(0, 14, 17, 13), (0, 14, 21, 15)], Cond.methodLink RL 26 yX5_cue, Cond.instanceMethod yX5_cue, Cond.selects RX5 yX5_cue yX5_cue, Cond.code yX5_cue cX5_cue 5 (some .int), Cond.fieldLink RX5 98 "StarConsole$Cues" "size" "I", Cond.methodLink RX5 93 yX5_suits, Cond.instanceMethod yX5_suits, Cond.selects RX5 yX5_suits yX5_suits, Cond.code yX5_suits cX5_suits 4 (some .boolean), Cond.methodLink RX5 101 yX1_add, Cond.instanceMethod yX1_add, Cond.selects RX1 yX1_add yX1_add, Cond.code yX1_add cX1_add 6 (some .int)]
def wsL_law0_r9 : List Cond := [Cond.fieldLink RX1 24 "StarConsole$Cues" "size" "I", Cond.methodLink RL 88 yX6_cue, Cond.instanceMethod yX6_cue, Cond.selects RX6 yX6_cue yX6_cue, Cond.code yX6_cue cX6_cue 6 (some .int), Cond.fieldLink RX6 64 "StarConsoleModel" "cues" "I", Cond.methodLink RX6 61 yX6_isCue, Cond.instanceMethod yX6_isCue, Cond.selects RX6 yX6_isCue yX6_isCue, Cond.code yX6_isCue cX6_isCue 4 (some .boolean), Cond.methodLink RL 89 yX5_run, Cond.instanceMethod yX5_run, Cond.selects RX5 yX5_run yX5_run, Cond.code yX5_run cX5_run 1 (some .boolean), Cond.fieldLink RX5 104 "StarConsole$Show" "clockRuns" "Z", Cond.methodLink RL 93 yX6_run, Cond.instanceMethod yX6_run, Cond.selects RX6 yX6_run yX6_run, Cond.code yX6_run cX6_run 1 (some .boolean), Cond.methodLink RL 94 yL_jump, Cond.static yL_jump, Cond.codeWith yL_jump cL_jump 4 (some .int) [(0, 9, 12, 13)], Cond.methodLink RL 30 yX5_jump, Cond.instanceMethod yX5_jump]
def wsL_law0_r10 : List Cond := [Cond.selects RX5 yX5_jump yX5_jump, Cond.code yX5_jump cX5_jump 3 (some .int), Cond.fieldLink RX5 110 "StarConsole$Show" "clock" "I", Cond.methodLink RL 97 yX6_jump, Cond.instanceMethod yX6_jump, Cond.selects RX6 yX6_jump yX6_jump, Cond.code yX6_jump cX6_jump 3 (some .int), Cond.methodLink RL 98 yL_fade, Cond.static yL_fade, Cond.codeWith yL_fade cL_fade 5 (some .int) [(0, 10, 13, 21), (0, 10, 17, 13)], Cond.methodLink RL 34 yX5_fade, Cond.instanceMethod yX5_fade, Cond.selects RX5 yX5_fade yX5_fade, Cond.code yX5_fade cX5_fade 3 (some .int), Cond.methodLink RX5 115 yX2_changeAim, Cond.instanceMethod yX2_changeAim, Cond.selects RX2 yX2_changeAim yX2_changeAim, Cond.code yX2_changeAim cX2_changeAim 4 (some .int), Cond.methodLink RL 100 yX6_fade, Cond.instanceMethod yX6_fade, Cond.selects RX6 yX6_fade yX6_fade, Cond.code yX6_fade cX6_fade 4 (some .int), Cond.methodLink RL 101 yL_pass, Cond.static yL_pass]
def wsL_law0_r11 : List Cond := [Cond.codeWith yL_pass cL_pass 4 (some .int) [(0, 9, 12, 13)], Cond.methodLink RL 37 yX5_pass, Cond.instanceMethod yX5_pass, Cond.selects RX5 yX5_pass yX5_pass, Cond.code yX5_pass cX5_pass 2 (some .int), Cond.methodLink RX5 120 yX3_goOnFor, Cond.instanceMethod yX3_goOnFor, Cond.selects RX3 yX3_goOnFor yX3_goOnFor, Cond.code yX3_goOnFor cX3_goOnFor 5 (some .int), Cond.methodLink RX3 55 yX3_goOn, Cond.instanceMethod yX3_goOn, Cond.selects RX3 yX3_goOn yX3_goOn, Cond.code yX3_goOn cX3_goOn 3 (some .int), Cond.fieldLink RX3 35 "StarConsole$Show" "clockRuns" "Z", Cond.fieldLink RX3 39 "StarConsole$Show" "ballAngle" "I", Cond.fieldLink RX3 42 "StarConsole$Show" "ballSpeed" "I", Cond.fieldLink RX3 29 "StarConsole$Show" "tick" "I", Cond.methodLink RX3 59 yX3_runCues, Cond.instanceMethod yX3_runCues, Cond.selects RX3 yX3_runCues yX3_runCues, Cond.code yX3_runCues cX3_runCues 4 (some .int), Cond.fieldLink RX3 72 "StarConsole$Cues" "size" "I", Cond.fieldLink RX3 77 "StarConsole$Cues" "time" "[I", Cond.fieldLink RX3 32 "StarConsole$Show" "clock" "I"]
def wsL_law0_r12 : List Cond := [Cond.fieldLink RX3 81 "StarConsole$Cues" "kind" "[I", Cond.fieldLink RX3 84 "StarConsole$Cues" "a" "[I", Cond.fieldLink RX3 87 "StarConsole$Cues" "b" "[I", Cond.methodLink RX3 90 yX3_obey, Cond.instanceMethod yX3_obey, Cond.selects RX3 yX3_obey yX3_obey, Cond.code yX3_obey cX3_obey 4 none, Cond.fieldLink RX3 45 "StarConsole$Show" "speechLeft" "I", Cond.methodLink RX3 94 yX2_changeAim, Cond.methodLink RX3 97 yX0_addIfRoom, Cond.instanceMethod yX0_addIfRoom, Cond.selects RX0 yX0_addIfRoom yX0_addIfRoom, Cond.code yX0_addIfRoom cX0_addIfRoom 4 none, Cond.fieldLink RX0 21 "StarConsole$Comets" "size" "I", Cond.methodLink RX3 62 yX2_goOn, Cond.instanceMethod yX2_goOn, Cond.selects RX2 yX2_goOn yX2_goOn, Cond.code yX2_goOn cX2_goOn 2 none, Cond.methodLink RX2 43 Lib.Math.max.name, Cond.static Lib.Math.max.name, Cond.initialized "java/lang/Math", Cond.code Lib.Math.max.name Lib.Math.max.code 2 (some .int), Cond.methodLink RX2 39 yX2_approached, Cond.static yX2_approached]
def wsL_law0_r13 : List Cond := [Cond.code yX2_approached cX2_approached 3 (some .int), Cond.methodLink RX2 49 Lib.Math.min.name, Cond.static Lib.Math.min.name, Cond.code Lib.Math.min.name Lib.Math.min.code 2 (some .int), Cond.static yX5_turned, Cond.code yX5_turned cX5_turned 2 (some .int), Cond.methodLink RX5 213 yJ9_floorMod_7cf53, Cond.static yJ9_floorMod_7cf53, Cond.initialized RJ9, Cond.code yJ9_floorMod_7cf53 cJ9_floorMod_7cf53 3 (some .int), Cond.methodLink RX3 68 yX0_goOn, Cond.instanceMethod yX0_goOn, Cond.selects RX0 yX0_goOn yX0_goOn, Cond.code yX0_goOn cX0_goOn 2 none, Cond.methodLink RX3 69 yX3_speakOn, Cond.instanceMethod yX3_speakOn, Cond.selects RX3 yX3_speakOn yX3_speakOn, Cond.code yX3_speakOn cX3_speakOn 1 none, Cond.methodLink RL 103 yX6_pass, Cond.instanceMethod yX6_pass, Cond.selects RX6 yX6_pass yX6_pass, Cond.code yX6_pass cX6_pass 2 (some .int), Cond.methodLink RX6 89 yX6_ticksOn, Cond.instanceMethod yX6_ticksOn]
def wsL_law0_r14 : List Cond := [Cond.selects RX6 yX6_ticksOn yX6_ticksOn, Cond.code yX6_ticksOn cX6_ticksOn 4 (some .int), Cond.methodLink RX6 85 yX6_tickOn, Cond.instanceMethod yX6_tickOn, Cond.selects RX6 yX6_tickOn yX6_tickOn, Cond.code yX6_tickOn cX6_tickOn 4 (some .int), Cond.methodLink RX6 75 yX6_carryOut, Cond.instanceMethod yX6_carryOut, Cond.selects RX6 yX6_carryOut yX6_carryOut, Cond.code yX6_carryOut cX6_carryOut 4 none, Cond.methodLink RX6 79 yX6_glow, Cond.instanceMethod yX6_glow, Cond.selects RX6 yX6_glow yX6_glow, Cond.code yX6_glow cX6_glow 5 none, Cond.methodLink RX6 67 Lib.Math.min.name, Cond.methodLink RX6 72 Lib.Math.max.name, Cond.methodLink RX6 82 yX6_round, Cond.static yX6_round, Cond.code yX6_round cX6_round 1 (some .int), Cond.methodLink RL 104 yL_told, Cond.static yL_told, Cond.codeWith yL_told cL_told 5 (some .int) [(0, 10, 13, 21)], Cond.methodLink RL 40 yX5_told, Cond.instanceMethod yX5_told]
def wsL_law0_r15 : List Cond := [Cond.selects RX5 yX5_told yX5_told, Cond.code yX5_told cX5_told 3 (some .int), Cond.methodLink RX5 126 yX2_fact, Cond.instanceMethod yX2_fact, Cond.selects RX2 yX2_fact yX2_fact, Cond.code yX2_fact cX2_fact 3 (some .int), Cond.methodLink RL 106 yX6_told, Cond.instanceMethod yX6_told, Cond.selects RX6 yX6_told yX6_told, Cond.code yX6_told cX6_told 3 (some .int), Cond.methodLink RL 107 yL_glare, Cond.static yL_glare, Cond.codeWith yL_glare cL_glare 4 (some .int) [(0, 9, 12, 21)], Cond.methodLink RL 43 yX5_glare, Cond.instanceMethod yX5_glare, Cond.selects RX5 yX5_glare yX5_glare, Cond.code yX5_glare cX5_glare 2 (some .int), Cond.methodLink RX5 129 yX2_glareOn, Cond.instanceMethod yX2_glareOn, Cond.selects RX2 yX2_glareOn yX2_glareOn, Cond.code yX2_glareOn cX2_glareOn 5 (some .int), Cond.methodLink RX2 52 yJ9_floorMod_7cf53, Cond.methodLink RL 109 yX6_glare, Cond.instanceMethod yX6_glare]
def wsL_law0_r16 : List Cond := [Cond.selects RX6 yX6_glare yX6_glare, Cond.code yX6_glare cX6_glare 2 (some .int), Cond.methodLink RX6 92 yX6_glareOf, Cond.instanceMethod yX6_glareOf, Cond.selects RX6 yX6_glareOf yX6_glareOf, Cond.code yX6_glareOf cX6_glareOf 5 (some .int), Cond.methodLink RL 110 yL_about, Cond.static yL_about, Cond.codeWith yL_about cL_about 5 (some .int) [(0, 10, 13, 21)], Cond.methodLink RL 46 yX5_about, Cond.instanceMethod yX5_about, Cond.selects RX5 yX5_about yX5_about, Cond.code yX5_about cX5_about 3 (some .int), Cond.methodLink RX5 133 yX4_has, Cond.instanceMethod yX4_has, Cond.selects RX4 yX4_has yX4_has, Cond.code yX4_has cX4_has 2 (some .boolean), Cond.methodLink RX5 138 yX3_factOfStar, Cond.instanceMethod yX3_factOfStar, Cond.selects RX3 yX3_factOfStar yX3_factOfStar, Cond.code yX3_factOfStar cX3_factOfStar 4 (some .int), Cond.fieldLink RX3 118 "StarConsole$Stars" "degree" "[I", Cond.fieldLink RX3 121 "StarConsole$Stars" "light" "[I", Cond.methodLink RX3 114 yX4_has]
def wsL_law0_r17 : List Cond := [Cond.methodLink RX3 124 yX3_starSeen, Cond.instanceMethod yX3_starSeen, Cond.selects RX3 yX3_starSeen yX3_starSeen, Cond.code yX3_starSeen cX3_starSeen 3 (some .boolean), Cond.methodLink RX3 141 yX3_outshines, Cond.instanceMethod yX3_outshines, Cond.selects RX3 yX3_outshines yX3_outshines, Cond.code yX3_outshines cX3_outshines 3 (some .boolean), Cond.methodLink RX3 145 yX2_glareOn, Cond.methodLink RL 112 yX6_about, Cond.instanceMethod yX6_about, Cond.selects RX6 yX6_about yX6_about, Cond.code yX6_about cX6_about 3 (some .int), Cond.methodLink RX6 102 yX6_starTold, Cond.instanceMethod yX6_starTold, Cond.selects RX6 yX6_starTold yX6_starTold, Cond.code yX6_starTold cX6_starTold 3 (some .int), Cond.methodLink RX6 95 yX6_stands, Cond.instanceMethod yX6_stands, Cond.selects RX6 yX6_stands yX6_stands, Cond.code yX6_stands cX6_stands 2 (some .int), Cond.methodLink RX6 98 yX6_isSeen, Cond.instanceMethod yX6_isSeen, Cond.selects RX6 yX6_isSeen yX6_isSeen]
def wsL_law0_r18 : List Cond := [Cond.code yX6_isSeen cX6_isSeen 3 (some .boolean), Cond.methodLink RL 113 yL_comet, Cond.static yL_comet, Cond.codeWith yL_comet cL_comet 5 (some .int) [(0, 10, 13, 21)], Cond.methodLink RL 49 yX5_comet, Cond.instanceMethod yX5_comet, Cond.selects RX5 yX5_comet yX5_comet, Cond.code yX5_comet cX5_comet 3 (some .int), Cond.fieldLink RX5 142 "StarConsole$Show" "comets" "LStarConsole$Comets;", Cond.methodLink RX5 146 yX0_has, Cond.instanceMethod yX0_has, Cond.selects RX0 yX0_has yX0_has, Cond.code yX0_has cX0_has 2 (some .boolean), Cond.methodLink RX5 151 yX3_factOfComet, Cond.instanceMethod yX3_factOfComet, Cond.selects RX3 yX3_factOfComet yX3_factOfComet, Cond.code yX3_factOfComet cX3_factOfComet 3 (some .int), Cond.fieldLink RX3 129 "StarConsole$Comets" "angle" "[I", Cond.fieldLink RX3 132 "StarConsole$Comets" "speed" "[I", Cond.fieldLink RX3 135 "StarConsole$Comets" "left" "[I", Cond.methodLink RX3 128 yX0_has, Cond.methodLink RX3 138 yX3_cometSeen, Cond.instanceMethod yX3_cometSeen, Cond.selects RX3 yX3_cometSeen yX3_cometSeen]
def wsL_law0_r19 : List Cond := [Cond.code yX3_cometSeen cX3_cometSeen 2 (some .boolean), Cond.methodLink RL 115 yX6_comet, Cond.instanceMethod yX6_comet, Cond.selects RX6 yX6_comet yX6_comet, Cond.code yX6_comet cX6_comet 3 (some .int), Cond.methodLink RX6 105 yX6_cometTold, Cond.instanceMethod yX6_cometTold, Cond.selects RX6 yX6_cometTold yX6_cometTold, Cond.code yX6_cometTold cX6_cometTold 3 (some .int), Cond.methodLink RL 116 yL_count, Cond.static yL_count, Cond.codeWith yL_count cL_count 4 (some .int) [(0, 9, 12, 21)], Cond.methodLink RL 52 yX5_count, Cond.instanceMethod yX5_count, Cond.selects RX5 yX5_count yX5_count, Cond.code yX5_count cX5_count 2 (some .int), Cond.methodLink RX5 156 yX3_fact, Cond.instanceMethod yX3_fact, Cond.selects RX3 yX3_fact yX3_fact, Cond.code yX3_fact cX3_fact 4 (some .int), Cond.fieldLink RX3 101 "StarConsole$Dimmers" "size" "I", Cond.fieldLink RX3 102 "StarConsole$Stars" "size" "I", Cond.fieldLink RX3 105 "StarConsole$Comets" "size" "I", Cond.methodLink RX3 106 yX3_starsSeen]
def wsL_law0_r20 : List Cond := [Cond.instanceMethod yX3_starsSeen, Cond.selects RX3 yX3_starsSeen yX3_starsSeen, Cond.code yX3_starsSeen cX3_starsSeen 4 (some .int), Cond.methodLink RX3 110 yX3_cometsSeen, Cond.instanceMethod yX3_cometsSeen, Cond.selects RX3 yX3_cometsSeen yX3_cometsSeen, Cond.code yX3_cometsSeen cX3_cometsSeen 3 (some .int), Cond.methodLink RL 118 yX6_count, Cond.instanceMethod yX6_count, Cond.selects RX6 yX6_count yX6_count, Cond.code yX6_count cX6_count 2 (some .int), Cond.methodLink RX6 108 yX6_counted, Cond.instanceMethod yX6_counted, Cond.selects RX6 yX6_counted yX6_counted, Cond.code yX6_counted cX6_counted 4 (some .int), Cond.methodLink RL 119 yX5_next, Cond.instanceMethod yX5_next, Cond.selects RX5 yX5_next yX5_next, Cond.code yX5_next cX5_next 1 (some .int), Cond.methodLink RX5 159 yX1_firstFrom, Cond.instanceMethod yX1_firstFrom, Cond.selects RX1 yX1_firstFrom yX1_firstFrom, Cond.code yX1_firstFrom cX1_firstFrom 4 (some .int), Cond.methodLink RX1 32 yX1_timeOf]
def wsL_law0_r21 : List Cond := [Cond.instanceMethod yX1_timeOf, Cond.selects RX1 yX1_timeOf yX1_timeOf, Cond.code yX1_timeOf cX1_timeOf 2 (some .int), Cond.methodLink RX1 28 yX1_has, Cond.instanceMethod yX1_has, Cond.selects RX1 yX1_has yX1_has, Cond.code yX1_has cX1_has 2 (some .boolean), Cond.methodLink RL 122 yX6_next, Cond.instanceMethod yX6_next, Cond.selects RX6 yX6_next yX6_next, Cond.code yX6_next cX6_next 3 (some .int), Cond.methodLink RL 123 yL_when, Cond.static yL_when, Cond.codeWith yL_when cL_when 4 (some .int) [(0, 9, 12, 21)], Cond.methodLink RL 55 yX5_when, Cond.instanceMethod yX5_when, Cond.selects RX5 yX5_when yX5_when, Cond.code yX5_when cX5_when 3 (some .int), Cond.methodLink RX5 162 yX1_has, Cond.methodLink RX5 165 yX1_timeOf, Cond.methodLink RX5 168 yX1_holdWithin, Cond.instanceMethod yX1_holdWithin, Cond.selects RX1 yX1_holdWithin yX1_holdWithin, Cond.code yX1_holdWithin cX1_holdWithin 4 (some .boolean)]
def wsL_law0_r22 : List Cond := [Cond.methodLink RL 125 yX6_when, Cond.instanceMethod yX6_when, Cond.selects RX6 yX6_when yX6_when, Cond.code yX6_when cX6_when 4 (some .int), Cond.methodLink RL 126 yL_lasts, Cond.static yL_lasts, Cond.codeWith yL_lasts cL_lasts 4 (some .int) [(0, 9, 12, 21)], Cond.methodLink RL 58 yX5_lasts, Cond.instanceMethod yX5_lasts, Cond.selects RX5 yX5_lasts yX5_lasts, Cond.code yX5_lasts cX5_lasts 3 (some .int), Cond.methodLink RX5 172 yX3_become, Cond.instanceMethod yX3_become, Cond.selects RX3 yX3_become yX3_become, Cond.code yX3_become cX3_become 2 none, Cond.methodLink RX3 48 yX2_become, Cond.instanceMethod yX2_become, Cond.selects RX2 yX2_become yX2_become, Cond.code yX2_become cX2_become 3 none, Cond.methodLink RX3 52 yX0_become, Cond.instanceMethod yX0_become, Cond.selects RX0 yX0_become yX0_become, Cond.code yX0_become cX0_become 3 none, Cond.methodLink RX5 176 yX2_hasLife]
def wsL_law0_r23 : List Cond := [Cond.instanceMethod yX2_hasLife, Cond.selects RX2 yX2_hasLife yX2_hasLife, Cond.code yX2_hasLife cX2_hasLife 2 (some .boolean), Cond.methodLink RX5 179 yX3_goOn, Cond.methodLink RL 128 yX6_lasts, Cond.instanceMethod yX6_lasts, Cond.selects RX6 yX6_lasts yX6_lasts, Cond.code yX6_lasts cX6_lasts 4 (some .int), Cond.methodLink RX6 116 yX6_kept, Cond.instanceMethod yX6_kept, Cond.selects RX6 yX6_kept yX6_kept, Cond.code yX6_kept cX6_kept 1 (some (.array (.array .int))), Cond.classLink RX6 111 "[I", Cond.methodLink RX6 112 ⟨"[I", "clone", "()Ljava/lang/Object;"⟩, Cond.sameMethod "[I" "java/lang/Object" "clone" "()Ljava/lang/Object;", Cond.native ⟨"java/lang/Object", "clone", "()Ljava/lang/Object;"⟩, Cond.instanceMethod ⟨"java/lang/Object", "clone", "()Ljava/lang/Object;"⟩, Cond.selects "[I" ⟨"[I", "clone", "()Ljava/lang/Object;"⟩ ⟨"java/lang/Object", "clone", "()Ljava/lang/Object;"⟩, Cond.methodLink RX6 120 yX6_bringBack, Cond.instanceMethod yX6_bringBack, Cond.selects RX6 yX6_bringBack yX6_bringBack, Cond.code yX6_bringBack cX6_bringBack 2 none, Cond.methodLink RL 129 yL_foresee, Cond.static yL_foresee]
def wsL_law0_r24 : List Cond := [Cond.codeWith yL_foresee cL_foresee 5 (some .int) [(0, 10, 13, 13), (0, 10, 17, 21)], Cond.methodLink RL 61 yX5_foresee, Cond.instanceMethod yX5_foresee, Cond.selects RX5 yX5_foresee yX5_foresee, Cond.code yX5_foresee cX5_foresee 3 (some .int), Cond.methodLink RX5 183 yX5_foreseeable, Cond.static yX5_foreseeable, Cond.code yX5_foreseeable cX5_foreseeable 1 (some .boolean), Cond.methodLink RL 131 yX6_foresee, Cond.instanceMethod yX6_foresee, Cond.selects RX6 yX6_foresee yX6_foresee, Cond.code yX6_foresee cX6_foresee 5 (some .int), Cond.methodLink RL 132 yX5_darkest, Cond.instanceMethod yX5_darkest, Cond.selects RX5 yX5_darkest yX5_darkest, Cond.code yX5_darkest cX5_darkest 3 (some .int), Cond.methodLink RL 135 yX6_darkest, Cond.instanceMethod yX6_darkest, Cond.selects RX6 yX6_darkest yX6_darkest, Cond.code yX6_darkest cX6_darkest 3 (some .int), Cond.methodLink RL 136 yX5_mean, Cond.instanceMethod yX5_mean, Cond.selects RX5 yX5_mean yX5_mean, Cond.code yX5_mean cX5_mean 3 (some .double)]
def wsL_law0_r25 : List Cond := [Cond.constantDouble RX5 188 (4622945017495814144), Cond.methodLink RL 140 yX6_mean, Cond.instanceMethod yX6_mean, Cond.selects RX6 yX6_mean yX6_mean, Cond.code yX6_mean cX6_mean 3 (some .double), Cond.constantDouble RX6 124 (4622945017495814144), Cond.methodLink RL 141 yX5_digest, Cond.instanceMethod yX5_digest, Cond.selects RX5 yX5_digest yX5_digest, Cond.code yX5_digest cX5_digest 4 (some .long), Cond.constantLong RX5 190 (1109), Cond.methodLink RX5 192 yX5_joined, Cond.static yX5_joined, Cond.code yX5_joined cX5_joined 3 (some .long), Cond.constantLong RX5 211 (31), Cond.methodLink RX5 196 yX5_joinedDimmers, Cond.instanceMethod yX5_joinedDimmers, Cond.selects RX5 yX5_joinedDimmers yX5_joinedDimmers, Cond.code yX5_joinedDimmers cX5_joinedDimmers 7 (some .long), Cond.methodLink RX5 200 yX5_joinedStars, Cond.instanceMethod yX5_joinedStars, Cond.selects RX5 yX5_joinedStars yX5_joinedStars, Cond.code yX5_joinedStars cX5_joinedStars 7 (some .long), Cond.methodLink RX5 203 yX5_joinedComets]
def wsL_law0_r26 : List Cond := [Cond.instanceMethod yX5_joinedComets, Cond.selects RX5 yX5_joinedComets yX5_joinedComets, Cond.code yX5_joinedComets cX5_joinedComets 7 (some .long), Cond.fieldLink RX5 209 "StarConsole$Comets" "size" "I", Cond.methodLink RX5 206 yX5_joinedCues, Cond.instanceMethod yX5_joinedCues, Cond.selects RX5 yX5_joinedCues yX5_joinedCues, Cond.code yX5_joinedCues cX5_joinedCues 7 (some .long), Cond.methodLink RX5 210 yX1_fact, Cond.instanceMethod yX1_fact, Cond.selects RX1 yX1_fact yX1_fact, Cond.code yX1_fact cX1_fact 3 (some .int), Cond.methodLink RL 145 yX6_digest, Cond.instanceMethod yX6_digest, Cond.selects RX6 yX6_digest yX6_digest, Cond.code yX6_digest cX6_digest 5 (some .long), Cond.constantLong RX6 126 (1109), Cond.constantLong RX6 128 (31)]
def wsL_law0 : List Cond := (wsL_law0_r1 ++ (wsL_law0_r2 ++ (wsL_law0_r3 ++ (wsL_law0_r4 ++ (wsL_law0_r5 ++ (wsL_law0_r6 ++ (wsL_law0_r7 ++ (wsL_law0_r8 ++ (wsL_law0_r9 ++ (wsL_law0_r10 ++ (wsL_law0_r11 ++ (wsL_law0_r12 ++ (wsL_law0_r13 ++ (wsL_law0_r14 ++ (wsL_law0_r15 ++ (wsL_law0_r16 ++ (wsL_law0_r17 ++ (wsL_law0_r18 ++ (wsL_law0_r19 ++ (wsL_law0_r20 ++ (wsL_law0_r21 ++ (wsL_law0_r22 ++ (wsL_law0_r23 ++ (wsL_law0_r24 ++ (wsL_law0_r25 ++ wsL_law0_r26))))))))))))))))))))))))) ++ wsX50 ++ wsX60 ++ wsX40 ++ wsX10 ++ wsX30 ++ wsX20 ++ wsX00 ++ ([] : List Cond)
def wsL_law : List Cond := wsL_law0 ++ (vx_atS RX5 41 "java/lang/IllegalArgumentException" ["java/lang/RuntimeException", "java/lang/Exception"]).filter goodWord ++ (vx_atS RX5 62 "java/lang/IllegalStateException" ["java/lang/RuntimeException", "java/lang/Exception"]).filter goodWord ++ (vx_atS RX5 75 "java/lang/IndexOutOfBoundsException" ["java/lang/RuntimeException", "java/lang/Exception"]).filter goodWord
set_option maxRecDepth 20000 in
theorem wsL_law_in0_1 : ∀ w ∈ wsL_law0_r1, w ∈ lw_tbl := fun w h => (goodIn_p wsL_law0_r1 [52, 55] (by decide +kernel) (by decide +kernel) w h).1
theorem wsL_law_in0_2 : ∀ w ∈ wsL_law0_r2, w ∈ lw_tbl := fun w h => (goodIn_p wsL_law0_r2 [60, 81, 109] (by decide +kernel) (by decide +kernel) w h).1
theorem wsL_law_in0_3 : ∀ w ∈ wsL_law0_r3, w ∈ lw_tbl := fun w h => (goodIn_p wsL_law0_r3 [115, 142, 659] (by decide +kernel) (by decide +kernel) w h).1
theorem wsL_law_in0_4 : ∀ w ∈ wsL_law0_r4, w ∈ lw_tbl := fun w h => (goodIn_p wsL_law0_r4 [333, 336] (by decide +kernel) (by decide +kernel) w h).1
theorem wsL_law_in0_5 : ∀ w ∈ wsL_law0_r5, w ∈ lw_tbl := fun w h => (goodIn_p wsL_law0_r5 [426, 696, 699, 703, 692] (by decide +kernel) (by decide +kernel) w h).1
theorem wsL_law_in0_6 : ∀ w ∈ wsL_law0_r6, w ∈ lw_tbl := fun w h => (goodIn_p wsL_law0_r6 [434, 300, 455, 459] (by decide +kernel) (by decide +kernel) w h).1
theorem wsL_law_in0_7 : ∀ w ∈ wsL_law0_r7, w ∈ lw_tbl := fun w h => (goodIn_p wsL_law0_r7 [710, 714, 718, 722, 466] (by decide +kernel) (by decide +kernel) w h).1
theorem wsL_law_in0_8 : ∀ w ∈ wsL_law0_r8, w ∈ lw_tbl := fun w h => (goodIn_p wsL_law0_r8 [473, 726, 480, 486, 492] (by decide +kernel) (by decide +kernel) w h).1
theorem wsL_law_in0_9 : ∀ w ∈ wsL_law0_r9, w ∈ lw_tbl := fun w h => (goodIn_p wsL_law0_r9 [730, 734, 210, 738] (by decide +kernel) (by decide +kernel) w h).1
theorem wsL_law_in0_10 : ∀ w ∈ wsL_law0_r10, w ∈ lw_tbl := fun w h => (goodIn_p wsL_law0_r10 [499, 742, 507, 512, 746] (by decide +kernel) (by decide +kernel) w h).1
theorem wsL_law_in0_11 : ∀ w ∈ wsL_law0_r11, w ∈ lw_tbl := fun w h => (goodIn_p wsL_law0_r11 [519, 524, 528, 532] (by decide +kernel) (by decide +kernel) w h).1
theorem wsL_law_in0_12 : ∀ w ∈ wsL_law0_r12, w ∈ lw_tbl := fun w h => (goodIn_p wsL_law0_r12 [536, 541, 545, 554] (by decide +kernel) (by decide +kernel) w h).1
theorem wsL_law_in0_13 : ∀ w ∈ wsL_law0_r13, w ∈ lw_tbl := fun w h => (goodIn_p wsL_law0_r13 [548, 551, 266, 237, 558, 563, 750] (by decide +kernel) (by decide +kernel) w h).1
theorem wsL_law_in0_14 : ∀ w ∈ wsL_law0_r14, w ∈ lw_tbl := fun w h => (goodIn_p wsL_law0_r14 [754, 758, 762, 766, 771] (by decide +kernel) (by decide +kernel) w h).1
theorem wsL_law_in0_15 : ∀ w ∈ wsL_law0_r15, w ∈ lw_tbl := fun w h => (goodIn_p wsL_law0_r15 [570, 296, 775, 578, 234] (by decide +kernel) (by decide +kernel) w h).1
theorem wsL_law_in0_16 : ∀ w ∈ wsL_law0_r16, w ∈ lw_tbl := fun w h => (goodIn_p wsL_law0_r16 [779, 783, 585, 263, 308] (by decide +kernel) (by decide +kernel) w h).1
theorem wsL_law_in0_17 : ∀ w ∈ wsL_law0_r17, w ∈ lw_tbl := fun w h => (goodIn_p wsL_law0_r17 [259, 271, 787, 791, 795] (by decide +kernel) (by decide +kernel) w h).1
theorem wsL_law_in0_18 : ∀ w ∈ wsL_law0_r18, w ∈ lw_tbl := fun w h => (goodIn_p wsL_law0_r18 [799, 595, 284, 316] (by decide +kernel) (by decide +kernel) w h).1
theorem wsL_law_in0_19 : ∀ w ∈ wsL_law0_r19, w ∈ lw_tbl := fun w h => (goodIn_p wsL_law0_r19 [280, 803, 807, 604, 251] (by decide +kernel) (by decide +kernel) w h).1
theorem wsL_law_in0_20 : ∀ w ∈ wsL_law0_r20, w ∈ lw_tbl := fun w h => (goodIn_p wsL_law0_r20 [255, 276, 811, 815, 214, 218] (by decide +kernel) (by decide +kernel) w h).1
theorem wsL_law_in0_21 : ∀ w ∈ wsL_law0_r21, w ∈ lw_tbl := fun w h => (goodIn_p wsL_law0_r21 [222, 226, 819, 612, 619] (by decide +kernel) (by decide +kernel) w h).1
theorem wsL_law_in0_22 : ∀ w ∈ wsL_law0_r22, w ∈ lw_tbl := fun w h => (goodIn_p wsL_law0_r22 [823, 626, 630, 634, 638] (by decide +kernel) (by decide +kernel) w h).1
theorem wsL_law_in0_23 : ∀ w ∈ wsL_law0_r23, w ∈ lw_tbl := fun w h => (goodIn_p wsL_law0_r23 [642, 827, 831, 843] (by decide +kernel) (by decide +kernel) w h).1
theorem wsL_law_in0_24 : ∀ w ∈ wsL_law0_r24, w ∈ lw_tbl := fun w h => (goodIn_p wsL_law0_r24 [650, 653, 847, 230, 851, 241] (by decide +kernel) (by decide +kernel) w h).1
theorem wsL_law_in0_25 : ∀ w ∈ wsL_law0_r25, w ∈ lw_tbl := fun w h => (goodIn_p wsL_law0_r25 [855, 246, 287, 292, 304] (by decide +kernel) (by decide +kernel) w h).1
theorem wsL_law_in0_26 : ∀ w ∈ wsL_law0_r26, w ∈ lw_tbl := fun w h => (goodIn_p wsL_law0_r26 [312, 320, 324, 860] (by decide +kernel) (by decide +kernel) w h).1
theorem wsL_law_kX5 : ∀ w ∈ wsX50, w ∈ lw_tbl := fun w h => (goodIn_p wsX50 [] (by decide +kernel) (by decide +kernel) w h).1
theorem wsL_law_kX6 : ∀ w ∈ wsX60, w ∈ lw_tbl := fun w h => (goodIn_p wsX60 [] (by decide +kernel) (by decide +kernel) w h).1
theorem wsL_law_kX4 : ∀ w ∈ wsX40, w ∈ lw_tbl := fun w h => (goodIn_p wsX40 [] (by decide +kernel) (by decide +kernel) w h).1
theorem wsL_law_kX1 : ∀ w ∈ wsX10, w ∈ lw_tbl := fun w h => (goodIn_p wsX10 [] (by decide +kernel) (by decide +kernel) w h).1
theorem wsL_law_kX3 : ∀ w ∈ wsX30, w ∈ lw_tbl := fun w h => (goodIn_p wsX30 [] (by decide +kernel) (by decide +kernel) w h).1
theorem wsL_law_kX2 : ∀ w ∈ wsX20, w ∈ lw_tbl := fun w h => (goodIn_p wsX20 [] (by decide +kernel) (by decide +kernel) w h).1
theorem wsL_law_kX0 : ∀ w ∈ wsX00, w ∈ lw_tbl := fun w h => (goodIn_p wsX00 [] (by decide +kernel) (by decide +kernel) w h).1
theorem wsL_law_in0 : ∀ w ∈ wsL_law0, w ∈ lw_tbl := fun w h => (List.mem_append.mp h).elim (fun h => (List.mem_append.mp h).elim (fun h => (List.mem_append.mp h).elim (fun h => (List.mem_append.mp h).elim (fun h => (List.mem_append.mp h).elim (fun h => (List.mem_append.mp h).elim (fun h => (List.mem_append.mp h).elim (fun h => (List.mem_append.mp h).elim (fun h => (List.mem_append.mp h).elim (fun h => wsL_law_in0_1 w h) (fun h => (List.mem_append.mp h).elim (fun h => wsL_law_in0_2 w h) (fun h => (List.mem_append.mp h).elim (fun h => wsL_law_in0_3 w h) (fun h => (List.mem_append.mp h).elim (fun h => wsL_law_in0_4 w h) (fun h => (List.mem_append.mp h).elim (fun h => wsL_law_in0_5 w h) (fun h => (List.mem_append.mp h).elim (fun h => wsL_law_in0_6 w h) (fun h => (List.mem_append.mp h).elim (fun h => wsL_law_in0_7 w h) (fun h => (List.mem_append.mp h).elim (fun h => wsL_law_in0_8 w h) (fun h => (List.mem_append.mp h).elim (fun h => wsL_law_in0_9 w h) (fun h => (List.mem_append.mp h).elim (fun h => wsL_law_in0_10 w h) (fun h => (List.mem_append.mp h).elim (fun h => wsL_law_in0_11 w h) (fun h => (List.mem_append.mp h).elim (fun h => wsL_law_in0_12 w h) (fun h => (List.mem_append.mp h).elim (fun h => wsL_law_in0_13 w h) (fun h => (List.mem_append.mp h).elim (fun h => wsL_law_in0_14 w h) (fun h => (List.mem_append.mp h).elim (fun h => wsL_law_in0_15 w h) (fun h => (List.mem_append.mp h).elim (fun h => wsL_law_in0_16 w h) (fun h => (List.mem_append.mp h).elim (fun h => wsL_law_in0_17 w h) (fun h => (List.mem_append.mp h).elim (fun h => wsL_law_in0_18 w h) (fun h => (List.mem_append.mp h).elim (fun h => wsL_law_in0_19 w h) (fun h => (List.mem_append.mp h).elim (fun h => wsL_law_in0_20 w h) (fun h => (List.mem_append.mp h).elim (fun h => wsL_law_in0_21 w h) (fun h => (List.mem_append.mp h).elim (fun h => wsL_law_in0_22 w h) (fun h => (List.mem_append.mp h).elim (fun h => wsL_law_in0_23 w h) (fun h => (List.mem_append.mp h).elim (fun h => wsL_law_in0_24 w h) (fun h => (List.mem_append.mp h).elim (fun h => wsL_law_in0_25 w h) (fun h => wsL_law_in0_26 w h)))))))))))))))))))))))))) (fun h => wsL_law_kX5 w h)) (fun h => wsL_law_kX6 w h)) (fun h => wsL_law_kX4 w h)) (fun h => wsL_law_kX1 w h)) (fun h => wsL_law_kX3 w h)) (fun h => wsL_law_kX2 w h)) (fun h => wsL_law_kX0 w h)) (fun h => absurd h List.not_mem_nil)
theorem wsL_law_x0 : ∀ w ∈ (vx_atS RX5 41 "java/lang/IllegalArgumentException" ["java/lang/RuntimeException", "java/lang/Exception"]).filter goodWord, w ∈ lw_tbl := by decide +kernel
theorem wsL_law_x1 : ∀ w ∈ (vx_atS RX5 62 "java/lang/IllegalStateException" ["java/lang/RuntimeException", "java/lang/Exception"]).filter goodWord, w ∈ lw_tbl := by decide +kernel
theorem wsL_law_x2 : ∀ w ∈ (vx_atS RX5 75 "java/lang/IndexOutOfBoundsException" ["java/lang/RuntimeException", "java/lang/Exception"]).filter goodWord, w ∈ lw_tbl := by decide +kernel
theorem wsL_law_in : ∀ w ∈ wsL_law, w ∈ lw_tbl := fun w h => (List.mem_append.mp h).elim (fun h => (List.mem_append.mp h).elim (fun h => (List.mem_append.mp h).elim (fun h => wsL_law_in0 w h) (fun h => wsL_law_x0 w h)) (fun h => wsL_law_x1 w h)) (fun h => wsL_law_x2 w h)
theorem inlX0 : ∀ w ∈ wsX00, w ∈ wsL_law := fun _ h => List.mem_append_left _ (List.mem_append_left _ (List.mem_append_left _ (List.mem_append_left _ (List.mem_append_right _ h))))
theorem inX0 : ∀ w ∈ wsX00, w ∈ lw_tbl := fun w h => wsL_law_in w (inlX0 w h)
theorem inlX1 : ∀ w ∈ wsX10, w ∈ wsL_law := fun _ h => List.mem_append_left _ (List.mem_append_left _ (List.mem_append_left _ (List.mem_append_left _ (List.mem_append_left _ (List.mem_append_left _ (List.mem_append_left _ (List.mem_append_right _ h)))))))
theorem inX1 : ∀ w ∈ wsX10, w ∈ lw_tbl := fun w h => wsL_law_in w (inlX1 w h)
theorem inlX2 : ∀ w ∈ wsX20, w ∈ wsL_law := fun _ h => List.mem_append_left _ (List.mem_append_left _ (List.mem_append_left _ (List.mem_append_left _ (List.mem_append_left _ (List.mem_append_right _ h)))))
theorem inX2 : ∀ w ∈ wsX20, w ∈ lw_tbl := fun w h => wsL_law_in w (inlX2 w h)
theorem inlX3 : ∀ w ∈ wsX30, w ∈ wsL_law := fun _ h => List.mem_append_left _ (List.mem_append_left _ (List.mem_append_left _ (List.mem_append_left _ (List.mem_append_left _ (List.mem_append_left _ (List.mem_append_right _ h))))))
theorem inX3 : ∀ w ∈ wsX30, w ∈ lw_tbl := fun w h => wsL_law_in w (inlX3 w h)
theorem inlX4 : ∀ w ∈ wsX40, w ∈ wsL_law := fun _ h => List.mem_append_left _ (List.mem_append_left _ (List.mem_append_left _ (List.mem_append_left _ (List.mem_append_left _ (List.mem_append_left _ (List.mem_append_left _ (List.mem_append_left _ (List.mem_append_right _ h))))))))
theorem inX4 : ∀ w ∈ wsX40, w ∈ lw_tbl := fun w h => wsL_law_in w (inlX4 w h)
theorem inlX5 : ∀ w ∈ wsX50, w ∈ wsL_law := fun _ h => List.mem_append_left _ (List.mem_append_left _ (List.mem_append_left _ (List.mem_append_left _ (List.mem_append_left _ (List.mem_append_left _ (List.mem_append_left _ (List.mem_append_left _ (List.mem_append_left _ (List.mem_append_left _ (List.mem_append_right _ h))))))))))
theorem inX5 : ∀ w ∈ wsX50, w ∈ lw_tbl := fun w h => wsL_law_in w (inlX5 w h)
theorem inlX6 : ∀ w ∈ wsX60, w ∈ wsL_law := fun _ h => List.mem_append_left _ (List.mem_append_left _ (List.mem_append_left _ (List.mem_append_left _ (List.mem_append_left _ (List.mem_append_left _ (List.mem_append_left _ (List.mem_append_left _ (List.mem_append_left _ (List.mem_append_right _ h)))))))))
theorem inX6 : ∀ w ∈ wsX60, w ∈ lw_tbl := fun w h => wsL_law_in w (inlX6 w h)
theorem inJx8e188 : ∀ w ∈ wsJx8e1880, w ∈ lw_tbl := by decide +kernel
theorem inJ9 : ∀ w ∈ wsJ90, w ∈ lw_tbl := by decide +kernel
theorem inJ0 : ∀ w ∈ wsJ00, w ∈ lw_tbl := by decide +kernel
theorem inJ10 : ∀ w ∈ wsJ100, w ∈ lw_tbl := by decide +kernel
end
section
theorem dX0_init_0 : decode cX0_init 0 = .ok (.aload_n 0, 1) := by decide +kernel
theorem dX0_init_1 : decode cX0_init 1 = .ok (.invokespecial 3, 3) := by decide +kernel
theorem dX0_init_4 : decode cX0_init 4 = .ok (.aload_n 0, 1) := by decide +kernel
theorem dX0_init_5 : decode cX0_init 5 = .ok (.bipush 12, 2) := by decide +kernel
theorem dX0_init_7 : decode cX0_init 7 = .ok (.newarray .int, 2) := by decide +kernel
theorem dX0_init_9 : decode cX0_init 9 = .ok (.putfield 9, 3) := by decide +kernel
theorem dX0_init_12 : decode cX0_init 12 = .ok (.aload_n 0, 1) := by decide +kernel
theorem dX0_init_13 : decode cX0_init 13 = .ok (.bipush 12, 2) := by decide +kernel
theorem dX0_init_15 : decode cX0_init 15 = .ok (.newarray .int, 2) := by decide +kernel
theorem dX0_init_17 : decode cX0_init 17 = .ok (.putfield 15, 3) := by decide +kernel
theorem dX0_init_20 : decode cX0_init 20 = .ok (.aload_n 0, 1) := by decide +kernel
theorem dX0_init_21 : decode cX0_init 21 = .ok (.bipush 12, 2) := by decide +kernel
theorem dX0_init_23 : decode cX0_init 23 = .ok (.newarray .int, 2) := by decide +kernel
theorem dX0_init_25 : decode cX0_init 25 = .ok (.putfield 18, 3) := by decide +kernel
theorem dX0_init_28 : decode cX0_init 28 = .ok (.return_, 1) := by decide +kernel
theorem dX0_has_0 : decode cX0_has 0 = .ok (.iload_n 1, 1) := by decide +kernel
theorem dX0_has_1 : decode cX0_has 1 = .ok (.ifCond .lt 15, 3) := by decide +kernel
theorem dX0_has_4 : decode cX0_has 4 = .ok (.iload_n 1, 1) := by decide +kernel
theorem dX0_has_5 : decode cX0_has 5 = .ok (.aload_n 0, 1) := by decide +kernel
theorem dX0_has_6 : decode cX0_has 6 = .ok (.getfield 21, 3) := by decide +kernel
theorem dX0_has_9 : decode cX0_has 9 = .ok (.if_icmp .ge 7, 3) := by decide +kernel
theorem dX0_has_12 : decode cX0_has 12 = .ok (.iconst 1, 1) := by decide +kernel
theorem dX0_has_13 : decode cX0_has 13 = .ok (.goto 4, 3) := by decide +kernel
theorem dX0_has_16 : decode cX0_has 16 = .ok (.iconst 0, 1) := by decide +kernel
theorem dX0_has_17 : decode cX0_has 17 = .ok (.ireturn, 1) := by decide +kernel
theorem dX0_addIfRoom_0 : decode cX0_addIfRoom 0 = .ok (.aload_n 0, 1) := by decide +kernel
theorem dX0_addIfRoom_1 : decode cX0_addIfRoom 1 = .ok (.getfield 21, 3) := by decide +kernel
theorem dX0_addIfRoom_4 : decode cX0_addIfRoom 4 = .ok (.bipush 12, 2) := by decide +kernel
theorem dX0_addIfRoom_6 : decode cX0_addIfRoom 6 = .ok (.if_icmp .lt 4, 3) := by decide +kernel
theorem dX0_addIfRoom_9 : decode cX0_addIfRoom 9 = .ok (.return_, 1) := by decide +kernel
theorem dX0_addIfRoom_10 : decode cX0_addIfRoom 10 = .ok (.aload_n 0, 1) := by decide +kernel
theorem dX0_addIfRoom_11 : decode cX0_addIfRoom 11 = .ok (.getfield 21, 3) := by decide +kernel
theorem dX0_addIfRoom_14 : decode cX0_addIfRoom 14 = .ok (.istore_n 3, 1) := by decide +kernel
theorem dX0_addIfRoom_15 : decode cX0_addIfRoom 15 = .ok (.aload_n 0, 1) := by decide +kernel
theorem dX0_addIfRoom_16 : decode cX0_addIfRoom 16 = .ok (.getfield 9, 3) := by decide +kernel
theorem dX0_addIfRoom_19 : decode cX0_addIfRoom 19 = .ok (.iload_n 3, 1) := by decide +kernel
theorem dX0_addIfRoom_20 : decode cX0_addIfRoom 20 = .ok (.iload_n 1, 1) := by decide +kernel
theorem dX0_addIfRoom_21 : decode cX0_addIfRoom 21 = .ok (.iastore, 1) := by decide +kernel
theorem dX0_addIfRoom_22 : decode cX0_addIfRoom 22 = .ok (.aload_n 0, 1) := by decide +kernel
theorem dX0_addIfRoom_23 : decode cX0_addIfRoom 23 = .ok (.getfield 15, 3) := by decide +kernel
theorem dX0_addIfRoom_26 : decode cX0_addIfRoom 26 = .ok (.iload_n 3, 1) := by decide +kernel
theorem dX0_addIfRoom_27 : decode cX0_addIfRoom 27 = .ok (.iload_n 2, 1) := by decide +kernel
theorem dX0_addIfRoom_28 : decode cX0_addIfRoom 28 = .ok (.iastore, 1) := by decide +kernel
theorem dX0_addIfRoom_29 : decode cX0_addIfRoom 29 = .ok (.aload_n 0, 1) := by decide +kernel
theorem dX0_addIfRoom_30 : decode cX0_addIfRoom 30 = .ok (.getfield 18, 3) := by decide +kernel
theorem dX0_addIfRoom_33 : decode cX0_addIfRoom 33 = .ok (.iload_n 3, 1) := by decide +kernel
theorem dX0_addIfRoom_34 : decode cX0_addIfRoom 34 = .ok (.bipush 20, 2) := by decide +kernel
theorem dX0_addIfRoom_36 : decode cX0_addIfRoom 36 = .ok (.iastore, 1) := by decide +kernel
theorem dX0_addIfRoom_37 : decode cX0_addIfRoom 37 = .ok (.aload_n 0, 1) := by decide +kernel
theorem dX0_addIfRoom_38 : decode cX0_addIfRoom 38 = .ok (.iload_n 3, 1) := by decide +kernel
theorem dX0_addIfRoom_39 : decode cX0_addIfRoom 39 = .ok (.iconst 1, 1) := by decide +kernel
theorem dX0_addIfRoom_40 : decode cX0_addIfRoom 40 = .ok (.iadd, 1) := by decide +kernel
theorem dX0_addIfRoom_41 : decode cX0_addIfRoom 41 = .ok (.putfield 21, 3) := by decide +kernel
theorem dX0_addIfRoom_44 : decode cX0_addIfRoom 44 = .ok (.return_, 1) := by decide +kernel
set_option maxRecDepth 20000 in
theorem ggX0_goOn_X5_turned : GoodIn wsX0_goOn wsX5_turned := goodIn_r _ [7, 8, 9, 10, 11] (by decide +kernel) (by decide +kernel)
set_option maxRecDepth 20000 in
theorem gX0_goOn_X5_turned_n25 : GoodIn wsX0_goOn (wsX5_turned) := ggX0_goOn_X5_turned
theorem dX0_goOn_0 : decode cX0_goOn 0 = .ok (.iconst 0, 1) := by decide +kernel
theorem dX0_goOn_1 : decode cX0_goOn 1 = .ok (.istore_n 1, 1) := by decide +kernel
theorem dX0_goOn_2 : decode cX0_goOn 2 = .ok (.iload_n 1, 1) := by decide +kernel
theorem dX0_goOn_3 : decode cX0_goOn 3 = .ok (.aload_n 0, 1) := by decide +kernel
theorem dX0_goOn_4 : decode cX0_goOn 4 = .ok (.getfield 21, 3) := by decide +kernel
theorem dX0_goOn_7 : decode cX0_goOn 7 = .ok (.if_icmp .ge 49, 3) := by decide +kernel
theorem dX0_goOn_10 : decode cX0_goOn 10 = .ok (.aload_n 0, 1) := by decide +kernel
theorem dX0_goOn_11 : decode cX0_goOn 11 = .ok (.getfield 18, 3) := by decide +kernel
theorem dX0_goOn_14 : decode cX0_goOn 14 = .ok (.iload_n 1, 1) := by decide +kernel
theorem dX0_goOn_15 : decode cX0_goOn 15 = .ok (.iaload, 1) := by decide +kernel
theorem dX0_goOn_16 : decode cX0_goOn 16 = .ok (.ifCond .le 34, 3) := by decide +kernel
theorem dX0_goOn_19 : decode cX0_goOn 19 = .ok (.aload_n 0, 1) := by decide +kernel
theorem dX0_goOn_20 : decode cX0_goOn 20 = .ok (.getfield 9, 3) := by decide +kernel
theorem dX0_goOn_23 : decode cX0_goOn 23 = .ok (.iload_n 1, 1) := by decide +kernel
theorem dX0_goOn_24 : decode cX0_goOn 24 = .ok (.aload_n 0, 1) := by decide +kernel
theorem dX0_goOn_25 : decode cX0_goOn 25 = .ok (.getfield 9, 3) := by decide +kernel
theorem dX0_goOn_28 : decode cX0_goOn 28 = .ok (.iload_n 1, 1) := by decide +kernel
theorem dX0_goOn_29 : decode cX0_goOn 29 = .ok (.iaload, 1) := by decide +kernel
theorem dX0_goOn_30 : decode cX0_goOn 30 = .ok (.aload_n 0, 1) := by decide +kernel
theorem dX0_goOn_31 : decode cX0_goOn 31 = .ok (.getfield 15, 3) := by decide +kernel
theorem dX0_goOn_34 : decode cX0_goOn 34 = .ok (.iload_n 1, 1) := by decide +kernel
theorem dX0_goOn_35 : decode cX0_goOn 35 = .ok (.iaload, 1) := by decide +kernel
theorem dX0_goOn_36 : decode cX0_goOn 36 = .ok (.invokestatic 25, 3) := by decide +kernel
theorem dX0_goOn_39 : decode cX0_goOn 39 = .ok (.iastore, 1) := by decide +kernel
theorem dX0_goOn_40 : decode cX0_goOn 40 = .ok (.aload_n 0, 1) := by decide +kernel
theorem dX0_goOn_41 : decode cX0_goOn 41 = .ok (.getfield 18, 3) := by decide +kernel
theorem dX0_goOn_44 : decode cX0_goOn 44 = .ok (.iload_n 1, 1) := by decide +kernel
theorem dX0_goOn_45 : decode cX0_goOn 45 = .ok (.dup2, 1) := by decide +kernel
theorem dX0_goOn_46 : decode cX0_goOn 46 = .ok (.iaload, 1) := by decide +kernel
theorem dX0_goOn_47 : decode cX0_goOn 47 = .ok (.iconst 1, 1) := by decide +kernel
theorem dX0_goOn_48 : decode cX0_goOn 48 = .ok (.isub, 1) := by decide +kernel
theorem dX0_goOn_49 : decode cX0_goOn 49 = .ok (.iastore, 1) := by decide +kernel
theorem dX0_goOn_50 : decode cX0_goOn 50 = .ok (.iinc 1 1, 3) := by decide +kernel
theorem dX0_goOn_53 : decode cX0_goOn 53 = .ok (.goto (-51), 3) := by decide +kernel
theorem dX0_goOn_56 : decode cX0_goOn 56 = .ok (.return_, 1) := by decide +kernel
theorem dX0_become_0 : decode cX0_become 0 = .ok (.iconst 0, 1) := by decide +kernel
theorem dX0_become_1 : decode cX0_become 1 = .ok (.istore_n 2, 1) := by decide +kernel
theorem dX0_become_2 : decode cX0_become 2 = .ok (.iload_n 2, 1) := by decide +kernel
theorem dX0_become_3 : decode cX0_become 3 = .ok (.bipush 12, 2) := by decide +kernel
theorem dX0_become_5 : decode cX0_become 5 = .ok (.if_icmp .ge 45, 3) := by decide +kernel
theorem dX0_become_8 : decode cX0_become 8 = .ok (.aload_n 0, 1) := by decide +kernel
theorem dX0_become_9 : decode cX0_become 9 = .ok (.getfield 9, 3) := by decide +kernel
theorem dX0_become_12 : decode cX0_become 12 = .ok (.iload_n 2, 1) := by decide +kernel
theorem dX0_become_13 : decode cX0_become 13 = .ok (.aload_n 1, 1) := by decide +kernel
theorem dX0_become_14 : decode cX0_become 14 = .ok (.getfield 9, 3) := by decide +kernel
theorem dX0_become_17 : decode cX0_become 17 = .ok (.iload_n 2, 1) := by decide +kernel
theorem dX0_become_18 : decode cX0_become 18 = .ok (.iaload, 1) := by decide +kernel
theorem dX0_become_19 : decode cX0_become 19 = .ok (.iastore, 1) := by decide +kernel
theorem dX0_become_20 : decode cX0_become 20 = .ok (.aload_n 0, 1) := by decide +kernel
theorem dX0_become_21 : decode cX0_become 21 = .ok (.getfield 15, 3) := by decide +kernel
theorem dX0_become_24 : decode cX0_become 24 = .ok (.iload_n 2, 1) := by decide +kernel
theorem dX0_become_25 : decode cX0_become 25 = .ok (.aload_n 1, 1) := by decide +kernel
theorem dX0_become_26 : decode cX0_become 26 = .ok (.getfield 15, 3) := by decide +kernel
theorem dX0_become_29 : decode cX0_become 29 = .ok (.iload_n 2, 1) := by decide +kernel
theorem dX0_become_30 : decode cX0_become 30 = .ok (.iaload, 1) := by decide +kernel
theorem dX0_become_31 : decode cX0_become 31 = .ok (.iastore, 1) := by decide +kernel
theorem dX0_become_32 : decode cX0_become 32 = .ok (.aload_n 0, 1) := by decide +kernel
theorem dX0_become_33 : decode cX0_become 33 = .ok (.getfield 18, 3) := by decide +kernel
theorem dX0_become_36 : decode cX0_become 36 = .ok (.iload_n 2, 1) := by decide +kernel
theorem dX0_become_37 : decode cX0_become 37 = .ok (.aload_n 1, 1) := by decide +kernel
theorem dX0_become_38 : decode cX0_become 38 = .ok (.getfield 18, 3) := by decide +kernel
theorem dX0_become_41 : decode cX0_become 41 = .ok (.iload_n 2, 1) := by decide +kernel
theorem dX0_become_42 : decode cX0_become 42 = .ok (.iaload, 1) := by decide +kernel
theorem dX0_become_43 : decode cX0_become 43 = .ok (.iastore, 1) := by decide +kernel
theorem dX0_become_44 : decode cX0_become 44 = .ok (.iinc 2 1, 3) := by decide +kernel
theorem dX0_become_47 : decode cX0_become 47 = .ok (.goto (-45), 3) := by decide +kernel
theorem dX0_become_50 : decode cX0_become 50 = .ok (.aload_n 0, 1) := by decide +kernel
theorem dX0_become_51 : decode cX0_become 51 = .ok (.aload_n 1, 1) := by decide +kernel
theorem dX0_become_52 : decode cX0_become 52 = .ok (.getfield 21, 3) := by decide +kernel
theorem dX0_become_55 : decode cX0_become 55 = .ok (.putfield 21, 3) := by decide +kernel
theorem dX0_become_58 : decode cX0_become 58 = .ok (.return_, 1) := by decide +kernel
theorem dX1_init_0 : decode cX1_init 0 = .ok (.aload_n 0, 1) := by decide +kernel
theorem dX1_init_1 : decode cX1_init 1 = .ok (.invokespecial 3, 3) := by decide +kernel
theorem dX1_init_4 : decode cX1_init 4 = .ok (.aload_n 0, 1) := by decide +kernel
theorem dX1_init_5 : decode cX1_init 5 = .ok (.bipush 24, 2) := by decide +kernel
theorem dX1_init_7 : decode cX1_init 7 = .ok (.newarray .int, 2) := by decide +kernel
theorem dX1_init_9 : decode cX1_init 9 = .ok (.putfield 9, 3) := by decide +kernel
theorem dX1_init_12 : decode cX1_init 12 = .ok (.aload_n 0, 1) := by decide +kernel
theorem dX1_init_13 : decode cX1_init 13 = .ok (.bipush 24, 2) := by decide +kernel
theorem dX1_init_15 : decode cX1_init 15 = .ok (.newarray .int, 2) := by decide +kernel
theorem dX1_init_17 : decode cX1_init 17 = .ok (.putfield 15, 3) := by decide +kernel
theorem dX1_init_20 : decode cX1_init 20 = .ok (.aload_n 0, 1) := by decide +kernel
theorem dX1_init_21 : decode cX1_init 21 = .ok (.bipush 24, 2) := by decide +kernel
theorem dX1_init_23 : decode cX1_init 23 = .ok (.newarray .int, 2) := by decide +kernel
theorem dX1_init_25 : decode cX1_init 25 = .ok (.putfield 18, 3) := by decide +kernel
theorem dX1_init_28 : decode cX1_init 28 = .ok (.aload_n 0, 1) := by decide +kernel
theorem dX1_init_29 : decode cX1_init 29 = .ok (.bipush 24, 2) := by decide +kernel
theorem dX1_init_31 : decode cX1_init 31 = .ok (.newarray .int, 2) := by decide +kernel
theorem dX1_init_33 : decode cX1_init 33 = .ok (.putfield 21, 3) := by decide +kernel
theorem dX1_init_36 : decode cX1_init 36 = .ok (.return_, 1) := by decide +kernel
theorem dX1_has_0 : decode cX1_has 0 = .ok (.iload_n 1, 1) := by decide +kernel
theorem dX1_has_1 : decode cX1_has 1 = .ok (.ifCond .lt 15, 3) := by decide +kernel
theorem dX1_has_4 : decode cX1_has 4 = .ok (.iload_n 1, 1) := by decide +kernel
theorem dX1_has_5 : decode cX1_has 5 = .ok (.aload_n 0, 1) := by decide +kernel
theorem dX1_has_6 : decode cX1_has 6 = .ok (.getfield 24, 3) := by decide +kernel
theorem dX1_has_9 : decode cX1_has 9 = .ok (.if_icmp .ge 7, 3) := by decide +kernel
theorem dX1_has_12 : decode cX1_has 12 = .ok (.iconst 1, 1) := by decide +kernel
theorem dX1_has_13 : decode cX1_has 13 = .ok (.goto 4, 3) := by decide +kernel
theorem dX1_has_16 : decode cX1_has 16 = .ok (.iconst 0, 1) := by decide +kernel
theorem dX1_has_17 : decode cX1_has 17 = .ok (.ireturn, 1) := by decide +kernel
theorem dX1_add_0 : decode cX1_add 0 = .ok (.aload_n 0, 1) := by decide +kernel
theorem dX1_add_1 : decode cX1_add 1 = .ok (.getfield 24, 3) := by decide +kernel
theorem dX1_add_4 : decode cX1_add 4 = .ok (.bipush 24, 2) := by decide +kernel
theorem dX1_add_6 : decode cX1_add 6 = .ok (.if_icmp .lt 5, 3) := by decide +kernel
theorem dX1_add_9 : decode cX1_add 9 = .ok (.iconst (-1), 1) := by decide +kernel
theorem dX1_add_10 : decode cX1_add 10 = .ok (.ireturn, 1) := by decide +kernel
theorem dX1_add_11 : decode cX1_add 11 = .ok (.aload_n 0, 1) := by decide +kernel
theorem dX1_add_12 : decode cX1_add 12 = .ok (.getfield 24, 3) := by decide +kernel
theorem dX1_add_15 : decode cX1_add 15 = .ok (.istore 5, 2) := by decide +kernel
theorem dX1_add_17 : decode cX1_add 17 = .ok (.aload_n 0, 1) := by decide +kernel
theorem dX1_add_18 : decode cX1_add 18 = .ok (.getfield 9, 3) := by decide +kernel
theorem dX1_add_21 : decode cX1_add 21 = .ok (.iload 5, 2) := by decide +kernel
theorem dX1_add_23 : decode cX1_add 23 = .ok (.iload_n 1, 1) := by decide +kernel
theorem dX1_add_24 : decode cX1_add 24 = .ok (.iastore, 1) := by decide +kernel
theorem dX1_add_25 : decode cX1_add 25 = .ok (.aload_n 0, 1) := by decide +kernel
theorem dX1_add_26 : decode cX1_add 26 = .ok (.getfield 15, 3) := by decide +kernel
theorem dX1_add_29 : decode cX1_add 29 = .ok (.iload 5, 2) := by decide +kernel
theorem dX1_add_31 : decode cX1_add 31 = .ok (.iload_n 2, 1) := by decide +kernel
theorem dX1_add_32 : decode cX1_add 32 = .ok (.iastore, 1) := by decide +kernel
theorem dX1_add_33 : decode cX1_add 33 = .ok (.aload_n 0, 1) := by decide +kernel
theorem dX1_add_34 : decode cX1_add 34 = .ok (.getfield 18, 3) := by decide +kernel
theorem dX1_add_37 : decode cX1_add 37 = .ok (.iload 5, 2) := by decide +kernel
theorem dX1_add_39 : decode cX1_add 39 = .ok (.iload_n 3, 1) := by decide +kernel
theorem dX1_add_40 : decode cX1_add 40 = .ok (.iastore, 1) := by decide +kernel
theorem dX1_add_41 : decode cX1_add 41 = .ok (.aload_n 0, 1) := by decide +kernel
theorem dX1_add_42 : decode cX1_add 42 = .ok (.getfield 21, 3) := by decide +kernel
theorem dX1_add_45 : decode cX1_add 45 = .ok (.iload 5, 2) := by decide +kernel
theorem dX1_add_47 : decode cX1_add 47 = .ok (.iload 4, 2) := by decide +kernel
theorem dX1_add_49 : decode cX1_add 49 = .ok (.iastore, 1) := by decide +kernel
theorem dX1_add_50 : decode cX1_add 50 = .ok (.aload_n 0, 1) := by decide +kernel
theorem dX1_add_51 : decode cX1_add 51 = .ok (.iload 5, 2) := by decide +kernel
theorem dX1_add_53 : decode cX1_add 53 = .ok (.iconst 1, 1) := by decide +kernel
theorem dX1_add_54 : decode cX1_add 54 = .ok (.iadd, 1) := by decide +kernel
theorem dX1_add_55 : decode cX1_add 55 = .ok (.putfield 24, 3) := by decide +kernel
theorem dX1_add_58 : decode cX1_add 58 = .ok (.iload 5, 2) := by decide +kernel
theorem dX1_add_60 : decode cX1_add 60 = .ok (.ireturn, 1) := by decide +kernel
set_option maxRecDepth 20000 in
theorem ggX1_timeOf_X1_has : GoodIn wsX1_timeOf wsX1_has := goodIn_r _ [6, 7, 8, 9, 10, 11, 12] (by decide +kernel) (by decide +kernel)
set_option maxRecDepth 20000 in
theorem gX1_timeOf_X1_has : GoodIn wsX1_timeOf (wsV RX1 28 RX1 yX1_has wsX1_has) := goodIn_app (goodIn_of _ (by decide +kernel)) ggX1_timeOf_X1_has
theorem dX1_timeOf_0 : decode cX1_timeOf 0 = .ok (.aload_n 0, 1) := by decide +kernel
theorem dX1_timeOf_1 : decode cX1_timeOf 1 = .ok (.iload_n 1, 1) := by decide +kernel
theorem dX1_timeOf_2 : decode cX1_timeOf 2 = .ok (.invokevirtual 28, 3) := by decide +kernel
theorem dX1_timeOf_5 : decode cX1_timeOf 5 = .ok (.ifCond .eq 12, 3) := by decide +kernel
theorem dX1_timeOf_8 : decode cX1_timeOf 8 = .ok (.aload_n 0, 1) := by decide +kernel
theorem dX1_timeOf_9 : decode cX1_timeOf 9 = .ok (.getfield 9, 3) := by decide +kernel
theorem dX1_timeOf_12 : decode cX1_timeOf 12 = .ok (.iload_n 1, 1) := by decide +kernel
theorem dX1_timeOf_13 : decode cX1_timeOf 13 = .ok (.iaload, 1) := by decide +kernel
theorem dX1_timeOf_14 : decode cX1_timeOf 14 = .ok (.goto 4, 3) := by decide +kernel
theorem dX1_timeOf_17 : decode cX1_timeOf 17 = .ok (.iconst (-1), 1) := by decide +kernel
theorem dX1_timeOf_18 : decode cX1_timeOf 18 = .ok (.ireturn, 1) := by decide +kernel
set_option maxRecDepth 20000 in
theorem ggX1_firstFrom_X1_timeOf : GoodIn wsX1_firstFrom wsX1_timeOf := goodIn_r _ [7, 2, 8, 9, 10, 6, 11, 1, 12, 13, 14, 15, 16] (by decide +kernel) (by decide +kernel)
set_option maxRecDepth 20000 in
theorem gX1_firstFrom_X1_timeOf : GoodIn wsX1_firstFrom (wsV RX1 32 RX1 yX1_timeOf wsX1_timeOf) := goodIn_app (goodIn_of _ (by decide +kernel)) ggX1_firstFrom_X1_timeOf
theorem dX1_firstFrom_0 : decode cX1_firstFrom 0 = .ok (.iconst (-1), 1) := by decide +kernel
theorem dX1_firstFrom_1 : decode cX1_firstFrom 1 = .ok (.istore_n 2, 1) := by decide +kernel
theorem dX1_firstFrom_2 : decode cX1_firstFrom 2 = .ok (.iconst 0, 1) := by decide +kernel
theorem dX1_firstFrom_3 : decode cX1_firstFrom 3 = .ok (.istore_n 3, 1) := by decide +kernel
theorem dX1_firstFrom_4 : decode cX1_firstFrom 4 = .ok (.iload_n 3, 1) := by decide +kernel
theorem dX1_firstFrom_5 : decode cX1_firstFrom 5 = .ok (.aload_n 0, 1) := by decide +kernel
theorem dX1_firstFrom_6 : decode cX1_firstFrom 6 = .ok (.getfield 24, 3) := by decide +kernel
theorem dX1_firstFrom_9 : decode cX1_firstFrom 9 = .ok (.if_icmp .ge 40, 3) := by decide +kernel
theorem dX1_firstFrom_12 : decode cX1_firstFrom 12 = .ok (.aload_n 0, 1) := by decide +kernel
theorem dX1_firstFrom_13 : decode cX1_firstFrom 13 = .ok (.getfield 9, 3) := by decide +kernel
theorem dX1_firstFrom_16 : decode cX1_firstFrom 16 = .ok (.iload_n 3, 1) := by decide +kernel
theorem dX1_firstFrom_17 : decode cX1_firstFrom 17 = .ok (.iaload, 1) := by decide +kernel
theorem dX1_firstFrom_18 : decode cX1_firstFrom 18 = .ok (.iload_n 1, 1) := by decide +kernel
theorem dX1_firstFrom_19 : decode cX1_firstFrom 19 = .ok (.if_icmp .lt 24, 3) := by decide +kernel
theorem dX1_firstFrom_22 : decode cX1_firstFrom 22 = .ok (.iload_n 2, 1) := by decide +kernel
theorem dX1_firstFrom_23 : decode cX1_firstFrom 23 = .ok (.iconst (-1), 1) := by decide +kernel
theorem dX1_firstFrom_24 : decode cX1_firstFrom 24 = .ok (.if_icmp .eq 17, 3) := by decide +kernel
theorem dX1_firstFrom_27 : decode cX1_firstFrom 27 = .ok (.aload_n 0, 1) := by decide +kernel
theorem dX1_firstFrom_28 : decode cX1_firstFrom 28 = .ok (.getfield 9, 3) := by decide +kernel
theorem dX1_firstFrom_31 : decode cX1_firstFrom 31 = .ok (.iload_n 3, 1) := by decide +kernel
theorem dX1_firstFrom_32 : decode cX1_firstFrom 32 = .ok (.iaload, 1) := by decide +kernel
theorem dX1_firstFrom_33 : decode cX1_firstFrom 33 = .ok (.aload_n 0, 1) := by decide +kernel
theorem dX1_firstFrom_34 : decode cX1_firstFrom 34 = .ok (.iload_n 2, 1) := by decide +kernel
theorem dX1_firstFrom_35 : decode cX1_firstFrom 35 = .ok (.invokevirtual 32, 3) := by decide +kernel
theorem dX1_firstFrom_38 : decode cX1_firstFrom 38 = .ok (.if_icmp .ge 5, 3) := by decide +kernel
theorem dX1_firstFrom_41 : decode cX1_firstFrom 41 = .ok (.iload_n 3, 1) := by decide +kernel
theorem dX1_firstFrom_42 : decode cX1_firstFrom 42 = .ok (.istore_n 2, 1) := by decide +kernel
theorem dX1_firstFrom_43 : decode cX1_firstFrom 43 = .ok (.iinc 3 1, 3) := by decide +kernel
theorem dX1_firstFrom_46 : decode cX1_firstFrom 46 = .ok (.goto (-42), 3) := by decide +kernel
theorem dX1_firstFrom_49 : decode cX1_firstFrom 49 = .ok (.iload_n 2, 1) := by decide +kernel
theorem dX1_firstFrom_50 : decode cX1_firstFrom 50 = .ok (.ireturn, 1) := by decide +kernel
theorem dX1_holdWithin_0 : decode cX1_holdWithin 0 = .ok (.iconst 0, 1) := by decide +kernel
theorem dX1_holdWithin_1 : decode cX1_holdWithin 1 = .ok (.istore_n 3, 1) := by decide +kernel
theorem dX1_holdWithin_2 : decode cX1_holdWithin 2 = .ok (.iload_n 3, 1) := by decide +kernel
theorem dX1_holdWithin_3 : decode cX1_holdWithin 3 = .ok (.aload_n 0, 1) := by decide +kernel
theorem dX1_holdWithin_4 : decode cX1_holdWithin 4 = .ok (.getfield 24, 3) := by decide +kernel
theorem dX1_holdWithin_7 : decode cX1_holdWithin 7 = .ok (.if_icmp .ge 41, 3) := by decide +kernel
theorem dX1_holdWithin_10 : decode cX1_holdWithin 10 = .ok (.aload_n 0, 1) := by decide +kernel
theorem dX1_holdWithin_11 : decode cX1_holdWithin 11 = .ok (.getfield 15, 3) := by decide +kernel
theorem dX1_holdWithin_14 : decode cX1_holdWithin 14 = .ok (.iload_n 3, 1) := by decide +kernel
theorem dX1_holdWithin_15 : decode cX1_holdWithin 15 = .ok (.iaload, 1) := by decide +kernel
theorem dX1_holdWithin_16 : decode cX1_holdWithin 16 = .ok (.iconst 4, 1) := by decide +kernel
theorem dX1_holdWithin_17 : decode cX1_holdWithin 17 = .ok (.if_icmp .ne 25, 3) := by decide +kernel
theorem dX1_holdWithin_20 : decode cX1_holdWithin 20 = .ok (.aload_n 0, 1) := by decide +kernel
theorem dX1_holdWithin_21 : decode cX1_holdWithin 21 = .ok (.getfield 9, 3) := by decide +kernel
theorem dX1_holdWithin_24 : decode cX1_holdWithin 24 = .ok (.iload_n 3, 1) := by decide +kernel
theorem dX1_holdWithin_25 : decode cX1_holdWithin 25 = .ok (.iaload, 1) := by decide +kernel
theorem dX1_holdWithin_26 : decode cX1_holdWithin 26 = .ok (.iload_n 1, 1) := by decide +kernel
theorem dX1_holdWithin_27 : decode cX1_holdWithin 27 = .ok (.if_icmp .lt 15, 3) := by decide +kernel
theorem dX1_holdWithin_30 : decode cX1_holdWithin 30 = .ok (.aload_n 0, 1) := by decide +kernel
theorem dX1_holdWithin_31 : decode cX1_holdWithin 31 = .ok (.getfield 9, 3) := by decide +kernel
theorem dX1_holdWithin_34 : decode cX1_holdWithin 34 = .ok (.iload_n 3, 1) := by decide +kernel
theorem dX1_holdWithin_35 : decode cX1_holdWithin 35 = .ok (.iaload, 1) := by decide +kernel
theorem dX1_holdWithin_36 : decode cX1_holdWithin 36 = .ok (.iload_n 2, 1) := by decide +kernel
theorem dX1_holdWithin_37 : decode cX1_holdWithin 37 = .ok (.if_icmp .ge 5, 3) := by decide +kernel
theorem dX1_holdWithin_40 : decode cX1_holdWithin 40 = .ok (.iconst 1, 1) := by decide +kernel
theorem dX1_holdWithin_41 : decode cX1_holdWithin 41 = .ok (.ireturn, 1) := by decide +kernel
theorem dX1_holdWithin_42 : decode cX1_holdWithin 42 = .ok (.iinc 3 1, 3) := by decide +kernel
theorem dX1_holdWithin_45 : decode cX1_holdWithin 45 = .ok (.goto (-43), 3) := by decide +kernel
theorem dX1_holdWithin_48 : decode cX1_holdWithin 48 = .ok (.iconst 0, 1) := by decide +kernel
theorem dX1_holdWithin_49 : decode cX1_holdWithin 49 = .ok (.ireturn, 1) := by decide +kernel
set_option maxRecDepth 20000 in
theorem ggX1_fact_X1_has : GoodIn wsX1_fact wsX1_has := goodIn_r _ [9, 10, 11, 12, 13, 14, 15] (by decide +kernel) (by decide +kernel)
set_option maxRecDepth 20000 in
theorem gX1_fact_X1_has : GoodIn wsX1_fact (wsV RX1 28 RX1 yX1_has wsX1_has) := goodIn_app (goodIn_of _ (by decide +kernel)) ggX1_fact_X1_has
theorem dX1_fact_0 : decode cX1_fact 0 = .ok (.aload_n 0, 1) := by decide +kernel
theorem dX1_fact_1 : decode cX1_fact 1 = .ok (.iload_n 1, 1) := by decide +kernel
theorem dX1_fact_2 : decode cX1_fact 2 = .ok (.invokevirtual 28, 3) := by decide +kernel
theorem dX1_fact_5 : decode cX1_fact 5 = .ok (.ifCond .ne 5, 3) := by decide +kernel
theorem dX1_fact_8 : decode cX1_fact 8 = .ok (.iconst (-1), 1) := by decide +kernel
theorem dX1_fact_9 : decode cX1_fact 9 = .ok (.ireturn, 1) := by decide +kernel
theorem dX1_fact_10 : decode cX1_fact 10 = .ok (.iload_n 2, 1) := by decide +kernel
theorem dX1_fact_11 : decode cX1_fact 11 = .ok (.tableswitch 46 0 2 #[25, 32, 39], 25) := by decide +kernel
theorem dX1_fact_36 : decode cX1_fact 36 = .ok (.aload_n 0, 1) := by decide +kernel
theorem dX1_fact_37 : decode cX1_fact 37 = .ok (.getfield 9, 3) := by decide +kernel
theorem dX1_fact_40 : decode cX1_fact 40 = .ok (.iload_n 1, 1) := by decide +kernel
theorem dX1_fact_41 : decode cX1_fact 41 = .ok (.iaload, 1) := by decide +kernel
theorem dX1_fact_42 : decode cX1_fact 42 = .ok (.ireturn, 1) := by decide +kernel
theorem dX1_fact_43 : decode cX1_fact 43 = .ok (.aload_n 0, 1) := by decide +kernel
theorem dX1_fact_44 : decode cX1_fact 44 = .ok (.getfield 15, 3) := by decide +kernel
theorem dX1_fact_47 : decode cX1_fact 47 = .ok (.iload_n 1, 1) := by decide +kernel
theorem dX1_fact_48 : decode cX1_fact 48 = .ok (.iaload, 1) := by decide +kernel
theorem dX1_fact_49 : decode cX1_fact 49 = .ok (.ireturn, 1) := by decide +kernel
theorem dX1_fact_50 : decode cX1_fact 50 = .ok (.aload_n 0, 1) := by decide +kernel
theorem dX1_fact_51 : decode cX1_fact 51 = .ok (.getfield 18, 3) := by decide +kernel
theorem dX1_fact_54 : decode cX1_fact 54 = .ok (.iload_n 1, 1) := by decide +kernel
theorem dX1_fact_55 : decode cX1_fact 55 = .ok (.iaload, 1) := by decide +kernel
theorem dX1_fact_56 : decode cX1_fact 56 = .ok (.ireturn, 1) := by decide +kernel
theorem dX1_fact_57 : decode cX1_fact 57 = .ok (.aload_n 0, 1) := by decide +kernel
theorem dX1_fact_58 : decode cX1_fact 58 = .ok (.getfield 21, 3) := by decide +kernel
theorem dX1_fact_61 : decode cX1_fact 61 = .ok (.iload_n 1, 1) := by decide +kernel
theorem dX1_fact_62 : decode cX1_fact 62 = .ok (.iaload, 1) := by decide +kernel
theorem dX1_fact_63 : decode cX1_fact 63 = .ok (.ireturn, 1) := by decide +kernel
theorem dX2_init_0 : decode cX2_init 0 = .ok (.aload_n 0, 1) := by decide +kernel
theorem dX2_init_1 : decode cX2_init 1 = .ok (.invokespecial 3, 3) := by decide +kernel
theorem dX2_init_4 : decode cX2_init 4 = .ok (.aload_n 0, 1) := by decide +kernel
theorem dX2_init_5 : decode cX2_init 5 = .ok (.bipush 8, 2) := by decide +kernel
theorem dX2_init_7 : decode cX2_init 7 = .ok (.newarray .int, 2) := by decide +kernel
theorem dX2_init_9 : decode cX2_init 9 = .ok (.putfield 9, 3) := by decide +kernel
theorem dX2_init_12 : decode cX2_init 12 = .ok (.aload_n 0, 1) := by decide +kernel
theorem dX2_init_13 : decode cX2_init 13 = .ok (.bipush 8, 2) := by decide +kernel
theorem dX2_init_15 : decode cX2_init 15 = .ok (.newarray .int, 2) := by decide +kernel
theorem dX2_init_17 : decode cX2_init 17 = .ok (.putfield 15, 3) := by decide +kernel
theorem dX2_init_20 : decode cX2_init 20 = .ok (.aload_n 0, 1) := by decide +kernel
theorem dX2_init_21 : decode cX2_init 21 = .ok (.bipush 8, 2) := by decide +kernel
theorem dX2_init_23 : decode cX2_init 23 = .ok (.newarray .int, 2) := by decide +kernel
theorem dX2_init_25 : decode cX2_init 25 = .ok (.putfield 18, 3) := by decide +kernel
theorem dX2_init_28 : decode cX2_init 28 = .ok (.aload_n 0, 1) := by decide +kernel
theorem dX2_init_29 : decode cX2_init 29 = .ok (.bipush 8, 2) := by decide +kernel
theorem dX2_init_31 : decode cX2_init 31 = .ok (.newarray .int, 2) := by decide +kernel
theorem dX2_init_33 : decode cX2_init 33 = .ok (.putfield 21, 3) := by decide +kernel
theorem dX2_init_36 : decode cX2_init 36 = .ok (.aload_n 0, 1) := by decide +kernel
theorem dX2_init_37 : decode cX2_init 37 = .ok (.bipush 8, 2) := by decide +kernel
theorem dX2_init_39 : decode cX2_init 39 = .ok (.newarray .int, 2) := by decide +kernel
theorem dX2_init_41 : decode cX2_init 41 = .ok (.putfield 24, 3) := by decide +kernel
theorem dX2_init_44 : decode cX2_init 44 = .ok (.return_, 1) := by decide +kernel
theorem dX2_has_0 : decode cX2_has 0 = .ok (.iload_n 1, 1) := by decide +kernel
theorem dX2_has_1 : decode cX2_has 1 = .ok (.ifCond .lt 15, 3) := by decide +kernel
theorem dX2_has_4 : decode cX2_has 4 = .ok (.iload_n 1, 1) := by decide +kernel
theorem dX2_has_5 : decode cX2_has 5 = .ok (.aload_n 0, 1) := by decide +kernel
theorem dX2_has_6 : decode cX2_has 6 = .ok (.getfield 27, 3) := by decide +kernel
theorem dX2_has_9 : decode cX2_has 9 = .ok (.if_icmp .ge 7, 3) := by decide +kernel
theorem dX2_has_12 : decode cX2_has 12 = .ok (.iconst 1, 1) := by decide +kernel
theorem dX2_has_13 : decode cX2_has 13 = .ok (.goto 4, 3) := by decide +kernel
theorem dX2_has_16 : decode cX2_has 16 = .ok (.iconst 0, 1) := by decide +kernel
theorem dX2_has_17 : decode cX2_has 17 = .ok (.ireturn, 1) := by decide +kernel
theorem dX2_add_0 : decode cX2_add 0 = .ok (.aload_n 0, 1) := by decide +kernel
theorem dX2_add_1 : decode cX2_add 1 = .ok (.getfield 27, 3) := by decide +kernel
theorem dX2_add_4 : decode cX2_add 4 = .ok (.bipush 8, 2) := by decide +kernel
theorem dX2_add_6 : decode cX2_add 6 = .ok (.if_icmp .lt 5, 3) := by decide +kernel
theorem dX2_add_9 : decode cX2_add 9 = .ok (.iconst (-1), 1) := by decide +kernel
theorem dX2_add_10 : decode cX2_add 10 = .ok (.ireturn, 1) := by decide +kernel
theorem dX2_add_11 : decode cX2_add 11 = .ok (.aload_n 0, 1) := by decide +kernel
theorem dX2_add_12 : decode cX2_add 12 = .ok (.getfield 27, 3) := by decide +kernel
theorem dX2_add_15 : decode cX2_add 15 = .ok (.istore 4, 2) := by decide +kernel
theorem dX2_add_17 : decode cX2_add 17 = .ok (.aload_n 0, 1) := by decide +kernel
theorem dX2_add_18 : decode cX2_add 18 = .ok (.getfield 9, 3) := by decide +kernel
theorem dX2_add_21 : decode cX2_add 21 = .ok (.iload 4, 2) := by decide +kernel
theorem dX2_add_23 : decode cX2_add 23 = .ok (.iload_n 1, 1) := by decide +kernel
theorem dX2_add_24 : decode cX2_add 24 = .ok (.iastore, 1) := by decide +kernel
theorem dX2_add_25 : decode cX2_add 25 = .ok (.aload_n 0, 1) := by decide +kernel
theorem dX2_add_26 : decode cX2_add 26 = .ok (.getfield 15, 3) := by decide +kernel
theorem dX2_add_29 : decode cX2_add 29 = .ok (.iload 4, 2) := by decide +kernel
theorem dX2_add_31 : decode cX2_add 31 = .ok (.iconst 0, 1) := by decide +kernel
theorem dX2_add_32 : decode cX2_add 32 = .ok (.iastore, 1) := by decide +kernel
theorem dX2_add_33 : decode cX2_add 33 = .ok (.aload_n 0, 1) := by decide +kernel
theorem dX2_add_34 : decode cX2_add 34 = .ok (.getfield 18, 3) := by decide +kernel
theorem dX2_add_37 : decode cX2_add 37 = .ok (.iload 4, 2) := by decide +kernel
theorem dX2_add_39 : decode cX2_add 39 = .ok (.iconst 0, 1) := by decide +kernel
theorem dX2_add_40 : decode cX2_add 40 = .ok (.iastore, 1) := by decide +kernel
theorem dX2_add_41 : decode cX2_add 41 = .ok (.aload_n 0, 1) := by decide +kernel
theorem dX2_add_42 : decode cX2_add 42 = .ok (.getfield 21, 3) := by decide +kernel
theorem dX2_add_45 : decode cX2_add 45 = .ok (.iload 4, 2) := by decide +kernel
theorem dX2_add_47 : decode cX2_add 47 = .ok (.iload_n 2, 1) := by decide +kernel
theorem dX2_add_48 : decode cX2_add 48 = .ok (.iastore, 1) := by decide +kernel
theorem dX2_add_49 : decode cX2_add 49 = .ok (.aload_n 0, 1) := by decide +kernel
theorem dX2_add_50 : decode cX2_add 50 = .ok (.getfield 24, 3) := by decide +kernel
theorem dX2_add_53 : decode cX2_add 53 = .ok (.iload 4, 2) := by decide +kernel
theorem dX2_add_55 : decode cX2_add 55 = .ok (.iload_n 3, 1) := by decide +kernel
theorem dX2_add_56 : decode cX2_add 56 = .ok (.iastore, 1) := by decide +kernel
theorem dX2_add_57 : decode cX2_add 57 = .ok (.aload_n 0, 1) := by decide +kernel
theorem dX2_add_58 : decode cX2_add 58 = .ok (.iload 4, 2) := by decide +kernel
theorem dX2_add_60 : decode cX2_add 60 = .ok (.iconst 1, 1) := by decide +kernel
theorem dX2_add_61 : decode cX2_add 61 = .ok (.iadd, 1) := by decide +kernel
theorem dX2_add_62 : decode cX2_add 62 = .ok (.putfield 27, 3) := by decide +kernel
theorem dX2_add_65 : decode cX2_add 65 = .ok (.iload 4, 2) := by decide +kernel
theorem dX2_add_67 : decode cX2_add 67 = .ok (.ireturn, 1) := by decide +kernel
set_option maxRecDepth 20000 in
theorem ggX2_changeLamp_X2_has : GoodIn wsX2_changeLamp wsX2_has := goodIn_r _ [6, 7, 13, 14, 15, 16, 17, 18] (by decide +kernel) (by decide +kernel)
set_option maxRecDepth 20000 in
theorem gX2_changeLamp_X2_has : GoodIn wsX2_changeLamp (wsV RX2 31 RX2 yX2_has wsX2_has) := goodIn_app (goodIn_of _ (by decide +kernel)) ggX2_changeLamp_X2_has
set_option maxRecDepth 20000 in
theorem ggX2_changeLamp_X2_darkenWithoutLife : GoodIn wsX2_changeLamp wsX2_darkenWithoutLife := goodIn_r _ [11, 1, 12, 2, 3, 4, 5, 6, 7, 13, 14, 15, 16, 17, 18] (by decide +kernel) (by decide +kernel)
set_option maxRecDepth 20000 in
theorem gX2_changeLamp_X2_darkenWithoutLife : GoodIn wsX2_changeLamp (wsV RX2 35 RX2 yX2_darkenWithoutLife wsX2_darkenWithoutLife) := goodIn_app (goodIn_of _ (by decide +kernel)) ggX2_changeLamp_X2_darkenWithoutLife
theorem dX2_changeLamp_0 : decode cX2_changeLamp 0 = .ok (.aload_n 0, 1) := by decide +kernel
theorem dX2_changeLamp_1 : decode cX2_changeLamp 1 = .ok (.iload_n 1, 1) := by decide +kernel
theorem dX2_changeLamp_2 : decode cX2_changeLamp 2 = .ok (.invokevirtual 31, 3) := by decide +kernel
theorem dX2_changeLamp_5 : decode cX2_changeLamp 5 = .ok (.ifCond .ne 5, 3) := by decide +kernel
theorem dX2_changeLamp_8 : decode cX2_changeLamp 8 = .ok (.iconst (-1), 1) := by decide +kernel
theorem dX2_changeLamp_9 : decode cX2_changeLamp 9 = .ok (.ireturn, 1) := by decide +kernel
theorem dX2_changeLamp_10 : decode cX2_changeLamp 10 = .ok (.aload_n 0, 1) := by decide +kernel
theorem dX2_changeLamp_11 : decode cX2_changeLamp 11 = .ok (.getfield 24, 3) := by decide +kernel
theorem dX2_changeLamp_14 : decode cX2_changeLamp 14 = .ok (.iload_n 1, 1) := by decide +kernel
theorem dX2_changeLamp_15 : decode cX2_changeLamp 15 = .ok (.iaload, 1) := by decide +kernel
theorem dX2_changeLamp_16 : decode cX2_changeLamp 16 = .ok (.istore_n 3, 1) := by decide +kernel
theorem dX2_changeLamp_17 : decode cX2_changeLamp 17 = .ok (.aload_n 0, 1) := by decide +kernel
theorem dX2_changeLamp_18 : decode cX2_changeLamp 18 = .ok (.getfield 24, 3) := by decide +kernel
theorem dX2_changeLamp_21 : decode cX2_changeLamp 21 = .ok (.iload_n 1, 1) := by decide +kernel
theorem dX2_changeLamp_22 : decode cX2_changeLamp 22 = .ok (.iload_n 2, 1) := by decide +kernel
theorem dX2_changeLamp_23 : decode cX2_changeLamp 23 = .ok (.iastore, 1) := by decide +kernel
theorem dX2_changeLamp_24 : decode cX2_changeLamp 24 = .ok (.aload_n 0, 1) := by decide +kernel
theorem dX2_changeLamp_25 : decode cX2_changeLamp 25 = .ok (.iload_n 1, 1) := by decide +kernel
theorem dX2_changeLamp_26 : decode cX2_changeLamp 26 = .ok (.invokevirtual 35, 3) := by decide +kernel
theorem dX2_changeLamp_29 : decode cX2_changeLamp 29 = .ok (.iload_n 3, 1) := by decide +kernel
theorem dX2_changeLamp_30 : decode cX2_changeLamp 30 = .ok (.ireturn, 1) := by decide +kernel
set_option maxRecDepth 20000 in
theorem ggX2_changeAim_X2_has : GoodIn wsX2_changeAim wsX2_has := goodIn_r _ [6, 7, 8, 9, 10, 11, 12, 13] (by decide +kernel) (by decide +kernel)
set_option maxRecDepth 20000 in
theorem gX2_changeAim_X2_has : GoodIn wsX2_changeAim (wsV RX2 31 RX2 yX2_has wsX2_has) := goodIn_app (goodIn_of _ (by decide +kernel)) ggX2_changeAim_X2_has
theorem dX2_changeAim_0 : decode cX2_changeAim 0 = .ok (.aload_n 0, 1) := by decide +kernel
theorem dX2_changeAim_1 : decode cX2_changeAim 1 = .ok (.iload_n 1, 1) := by decide +kernel
theorem dX2_changeAim_2 : decode cX2_changeAim 2 = .ok (.invokevirtual 31, 3) := by decide +kernel
theorem dX2_changeAim_5 : decode cX2_changeAim 5 = .ok (.ifCond .ne 5, 3) := by decide +kernel
theorem dX2_changeAim_8 : decode cX2_changeAim 8 = .ok (.iconst (-1), 1) := by decide +kernel
theorem dX2_changeAim_9 : decode cX2_changeAim 9 = .ok (.ireturn, 1) := by decide +kernel
theorem dX2_changeAim_10 : decode cX2_changeAim 10 = .ok (.aload_n 0, 1) := by decide +kernel
theorem dX2_changeAim_11 : decode cX2_changeAim 11 = .ok (.getfield 18, 3) := by decide +kernel
theorem dX2_changeAim_14 : decode cX2_changeAim 14 = .ok (.iload_n 1, 1) := by decide +kernel
theorem dX2_changeAim_15 : decode cX2_changeAim 15 = .ok (.iaload, 1) := by decide +kernel
theorem dX2_changeAim_16 : decode cX2_changeAim 16 = .ok (.istore_n 3, 1) := by decide +kernel
theorem dX2_changeAim_17 : decode cX2_changeAim 17 = .ok (.aload_n 0, 1) := by decide +kernel
theorem dX2_changeAim_18 : decode cX2_changeAim 18 = .ok (.getfield 18, 3) := by decide +kernel
theorem dX2_changeAim_21 : decode cX2_changeAim 21 = .ok (.iload_n 1, 1) := by decide +kernel
theorem dX2_changeAim_22 : decode cX2_changeAim 22 = .ok (.iload_n 2, 1) := by decide +kernel
theorem dX2_changeAim_23 : decode cX2_changeAim 23 = .ok (.iastore, 1) := by decide +kernel
theorem dX2_changeAim_24 : decode cX2_changeAim 24 = .ok (.iload_n 3, 1) := by decide +kernel
theorem dX2_changeAim_25 : decode cX2_changeAim 25 = .ok (.ireturn, 1) := by decide +kernel
set_option maxRecDepth 20000 in
theorem ggX2_hasLife_X2_has : GoodIn wsX2_hasLife wsX2_has := goodIn_r _ [6, 7, 8, 9, 10, 11, 12, 13] (by decide +kernel) (by decide +kernel)
set_option maxRecDepth 20000 in
theorem gX2_hasLife_X2_has : GoodIn wsX2_hasLife (wsV RX2 31 RX2 yX2_has wsX2_has) := goodIn_app (goodIn_of _ (by decide +kernel)) ggX2_hasLife_X2_has
theorem dX2_hasLife_0 : decode cX2_hasLife 0 = .ok (.aload_n 0, 1) := by decide +kernel
theorem dX2_hasLife_1 : decode cX2_hasLife 1 = .ok (.iload_n 1, 1) := by decide +kernel
theorem dX2_hasLife_2 : decode cX2_hasLife 2 = .ok (.invokevirtual 31, 3) := by decide +kernel
theorem dX2_hasLife_5 : decode cX2_hasLife 5 = .ok (.ifCond .eq 16, 3) := by decide +kernel
theorem dX2_hasLife_8 : decode cX2_hasLife 8 = .ok (.aload_n 0, 1) := by decide +kernel
theorem dX2_hasLife_9 : decode cX2_hasLife 9 = .ok (.getfield 24, 3) := by decide +kernel
theorem dX2_hasLife_12 : decode cX2_hasLife 12 = .ok (.iload_n 1, 1) := by decide +kernel
theorem dX2_hasLife_13 : decode cX2_hasLife 13 = .ok (.iaload, 1) := by decide +kernel
theorem dX2_hasLife_14 : decode cX2_hasLife 14 = .ok (.ifCond .le 7, 3) := by decide +kernel
theorem dX2_hasLife_17 : decode cX2_hasLife 17 = .ok (.iconst 1, 1) := by decide +kernel
theorem dX2_hasLife_18 : decode cX2_hasLife 18 = .ok (.goto 4, 3) := by decide +kernel
theorem dX2_hasLife_21 : decode cX2_hasLife 21 = .ok (.iconst 0, 1) := by decide +kernel
theorem dX2_hasLife_22 : decode cX2_hasLife 22 = .ok (.ireturn, 1) := by decide +kernel
set_option maxRecDepth 20000 in
theorem ggX2_goOn_X2_approached : GoodIn wsX2_goOn wsX2_approached := goodIn_r _ [13, 14, 15, 8, 16, 6, 7, 9] (by decide +kernel) (by decide +kernel)
set_option maxRecDepth 20000 in
theorem gX2_goOn_X2_approached : GoodIn wsX2_goOn (va_wsS RX2 39 yX2_approached wsX2_approached) := goodIn_app (goodIn_of _ (by decide +kernel)) ggX2_goOn_X2_approached
set_option maxRecDepth 20000 in
theorem ggX2_goOn_X2_darkenWithoutLife : GoodIn wsX2_goOn wsX2_darkenWithoutLife := goodIn_r _ [20, 5, 2, 21, 22, 23, 12, 24, 1, 25, 26, 27, 28, 29, 30] (by decide +kernel) (by decide +kernel)
set_option maxRecDepth 20000 in
theorem gX2_goOn_X2_darkenWithoutLife : GoodIn wsX2_goOn (wsV RX2 35 RX2 yX2_darkenWithoutLife wsX2_darkenWithoutLife) := goodIn_app (goodIn_of _ (by decide +kernel)) ggX2_goOn_X2_darkenWithoutLife
theorem dX2_goOn_0 : decode cX2_goOn 0 = .ok (.iconst 0, 1) := by decide +kernel
theorem dX2_goOn_1 : decode cX2_goOn 1 = .ok (.istore_n 1, 1) := by decide +kernel
theorem dX2_goOn_2 : decode cX2_goOn 2 = .ok (.iload_n 1, 1) := by decide +kernel
theorem dX2_goOn_3 : decode cX2_goOn 3 = .ok (.aload_n 0, 1) := by decide +kernel
theorem dX2_goOn_4 : decode cX2_goOn 4 = .ok (.getfield 27, 3) := by decide +kernel
theorem dX2_goOn_7 : decode cX2_goOn 7 = .ok (.if_icmp .ge 67, 3) := by decide +kernel
theorem dX2_goOn_10 : decode cX2_goOn 10 = .ok (.aload_n 0, 1) := by decide +kernel
theorem dX2_goOn_11 : decode cX2_goOn 11 = .ok (.getfield 15, 3) := by decide +kernel
theorem dX2_goOn_14 : decode cX2_goOn 14 = .ok (.iload_n 1, 1) := by decide +kernel
theorem dX2_goOn_15 : decode cX2_goOn 15 = .ok (.aload_n 0, 1) := by decide +kernel
theorem dX2_goOn_16 : decode cX2_goOn 16 = .ok (.getfield 15, 3) := by decide +kernel
theorem dX2_goOn_19 : decode cX2_goOn 19 = .ok (.iload_n 1, 1) := by decide +kernel
theorem dX2_goOn_20 : decode cX2_goOn 20 = .ok (.iaload, 1) := by decide +kernel
theorem dX2_goOn_21 : decode cX2_goOn 21 = .ok (.aload_n 0, 1) := by decide +kernel
theorem dX2_goOn_22 : decode cX2_goOn 22 = .ok (.getfield 18, 3) := by decide +kernel
theorem dX2_goOn_25 : decode cX2_goOn 25 = .ok (.iload_n 1, 1) := by decide +kernel
theorem dX2_goOn_26 : decode cX2_goOn 26 = .ok (.iaload, 1) := by decide +kernel
theorem dX2_goOn_27 : decode cX2_goOn 27 = .ok (.aload_n 0, 1) := by decide +kernel
theorem dX2_goOn_28 : decode cX2_goOn 28 = .ok (.getfield 21, 3) := by decide +kernel
theorem dX2_goOn_31 : decode cX2_goOn 31 = .ok (.iload_n 1, 1) := by decide +kernel
theorem dX2_goOn_32 : decode cX2_goOn 32 = .ok (.iaload, 1) := by decide +kernel
theorem dX2_goOn_33 : decode cX2_goOn 33 = .ok (.invokestatic 39, 3) := by decide +kernel
theorem dX2_goOn_36 : decode cX2_goOn 36 = .ok (.iastore, 1) := by decide +kernel
theorem dX2_goOn_37 : decode cX2_goOn 37 = .ok (.aload_n 0, 1) := by decide +kernel
theorem dX2_goOn_38 : decode cX2_goOn 38 = .ok (.getfield 24, 3) := by decide +kernel
theorem dX2_goOn_41 : decode cX2_goOn 41 = .ok (.iload_n 1, 1) := by decide +kernel
theorem dX2_goOn_42 : decode cX2_goOn 42 = .ok (.iconst 0, 1) := by decide +kernel
theorem dX2_goOn_43 : decode cX2_goOn 43 = .ok (.aload_n 0, 1) := by decide +kernel
theorem dX2_goOn_44 : decode cX2_goOn 44 = .ok (.getfield 24, 3) := by decide +kernel
theorem dX2_goOn_47 : decode cX2_goOn 47 = .ok (.iload_n 1, 1) := by decide +kernel
theorem dX2_goOn_48 : decode cX2_goOn 48 = .ok (.iaload, 1) := by decide +kernel
theorem dX2_goOn_49 : decode cX2_goOn 49 = .ok (.aload_n 0, 1) := by decide +kernel
theorem dX2_goOn_50 : decode cX2_goOn 50 = .ok (.getfield 15, 3) := by decide +kernel
theorem dX2_goOn_53 : decode cX2_goOn 53 = .ok (.iload_n 1, 1) := by decide +kernel
theorem dX2_goOn_54 : decode cX2_goOn 54 = .ok (.iaload, 1) := by decide +kernel
theorem dX2_goOn_55 : decode cX2_goOn 55 = .ok (.bipush 10, 2) := by decide +kernel
theorem dX2_goOn_57 : decode cX2_goOn 57 = .ok (.idiv, 1) := by decide +kernel
theorem dX2_goOn_58 : decode cX2_goOn 58 = .ok (.isub, 1) := by decide +kernel
theorem dX2_goOn_59 : decode cX2_goOn 59 = .ok (.invokestatic 43, 3) := by decide +kernel
theorem dX2_goOn_62 : decode cX2_goOn 62 = .ok (.iastore, 1) := by decide +kernel
theorem dX2_goOn_63 : decode cX2_goOn 63 = .ok (.aload_n 0, 1) := by decide +kernel
theorem dX2_goOn_64 : decode cX2_goOn 64 = .ok (.iload_n 1, 1) := by decide +kernel
theorem dX2_goOn_65 : decode cX2_goOn 65 = .ok (.invokevirtual 35, 3) := by decide +kernel
theorem dX2_goOn_68 : decode cX2_goOn 68 = .ok (.iinc 1 1, 3) := by decide +kernel
theorem dX2_goOn_71 : decode cX2_goOn 71 = .ok (.goto (-69), 3) := by decide +kernel
theorem dX2_goOn_74 : decode cX2_goOn 74 = .ok (.return_, 1) := by decide +kernel
set_option maxRecDepth 20000 in
theorem ggX2_darkenWithoutLife_X2_has : GoodIn wsX2_darkenWithoutLife wsX2_has := goodIn_r _ [7, 8, 9, 10, 11, 12, 13, 14] (by decide +kernel) (by decide +kernel)
set_option maxRecDepth 20000 in
theorem gX2_darkenWithoutLife_X2_has : GoodIn wsX2_darkenWithoutLife (wsV RX2 31 RX2 yX2_has wsX2_has) := goodIn_app (goodIn_of _ (by decide +kernel)) ggX2_darkenWithoutLife_X2_has
theorem dX2_darkenWithoutLife_0 : decode cX2_darkenWithoutLife 0 = .ok (.aload_n 0, 1) := by decide +kernel
theorem dX2_darkenWithoutLife_1 : decode cX2_darkenWithoutLife 1 = .ok (.iload_n 1, 1) := by decide +kernel
theorem dX2_darkenWithoutLife_2 : decode cX2_darkenWithoutLife 2 = .ok (.invokevirtual 31, 3) := by decide +kernel
theorem dX2_darkenWithoutLife_5 : decode cX2_darkenWithoutLife 5 = .ok (.ifCond .eq 19, 3) := by decide +kernel
theorem dX2_darkenWithoutLife_8 : decode cX2_darkenWithoutLife 8 = .ok (.aload_n 0, 1) := by decide +kernel
theorem dX2_darkenWithoutLife_9 : decode cX2_darkenWithoutLife 9 = .ok (.getfield 24, 3) := by decide +kernel
theorem dX2_darkenWithoutLife_12 : decode cX2_darkenWithoutLife 12 = .ok (.iload_n 1, 1) := by decide +kernel
theorem dX2_darkenWithoutLife_13 : decode cX2_darkenWithoutLife 13 = .ok (.iaload, 1) := by decide +kernel
theorem dX2_darkenWithoutLife_14 : decode cX2_darkenWithoutLife 14 = .ok (.ifCond .ne 10, 3) := by decide +kernel
theorem dX2_darkenWithoutLife_17 : decode cX2_darkenWithoutLife 17 = .ok (.aload_n 0, 1) := by decide +kernel
theorem dX2_darkenWithoutLife_18 : decode cX2_darkenWithoutLife 18 = .ok (.getfield 15, 3) := by decide +kernel
theorem dX2_darkenWithoutLife_21 : decode cX2_darkenWithoutLife 21 = .ok (.iload_n 1, 1) := by decide +kernel
theorem dX2_darkenWithoutLife_22 : decode cX2_darkenWithoutLife 22 = .ok (.iconst 0, 1) := by decide +kernel
theorem dX2_darkenWithoutLife_23 : decode cX2_darkenWithoutLife 23 = .ok (.iastore, 1) := by decide +kernel
theorem dX2_darkenWithoutLife_24 : decode cX2_darkenWithoutLife 24 = .ok (.return_, 1) := by decide +kernel
theorem dX2_approached_0 : decode cX2_approached 0 = .ok (.iload_n 0, 1) := by decide +kernel
theorem dX2_approached_1 : decode cX2_approached 1 = .ok (.iload_n 1, 1) := by decide +kernel
theorem dX2_approached_2 : decode cX2_approached 2 = .ok (.if_icmp .ge 13, 3) := by decide +kernel
theorem dX2_approached_5 : decode cX2_approached 5 = .ok (.iload_n 0, 1) := by decide +kernel
theorem dX2_approached_6 : decode cX2_approached 6 = .ok (.iload_n 2, 1) := by decide +kernel
theorem dX2_approached_7 : decode cX2_approached 7 = .ok (.iadd, 1) := by decide +kernel
theorem dX2_approached_8 : decode cX2_approached 8 = .ok (.iload_n 1, 1) := by decide +kernel
theorem dX2_approached_9 : decode cX2_approached 9 = .ok (.invokestatic 49, 3) := by decide +kernel
theorem dX2_approached_12 : decode cX2_approached 12 = .ok (.goto 10, 3) := by decide +kernel
theorem dX2_approached_15 : decode cX2_approached 15 = .ok (.iload_n 0, 1) := by decide +kernel
theorem dX2_approached_16 : decode cX2_approached 16 = .ok (.iload_n 2, 1) := by decide +kernel
theorem dX2_approached_17 : decode cX2_approached 17 = .ok (.isub, 1) := by decide +kernel
theorem dX2_approached_18 : decode cX2_approached 18 = .ok (.iload_n 1, 1) := by decide +kernel
theorem dX2_approached_19 : decode cX2_approached 19 = .ok (.invokestatic 43, 3) := by decide +kernel
theorem dX2_approached_22 : decode cX2_approached 22 = .ok (.ireturn, 1) := by decide +kernel
set_option maxRecDepth 20000 in
theorem ggX2_glareOn_J9_floorMod_7cf53 : GoodIn wsX2_glareOn wsJ9_floorMod_7cf53 := goodIn_r _ [7] (by decide +kernel) (by decide +kernel)
set_option maxRecDepth 20000 in
theorem gX2_glareOn_J9_floorMod_7cf53 : GoodIn wsX2_glareOn (va_wsS RX2 52 yJ9_floorMod_7cf53 wsJ9_floorMod_7cf53) := goodIn_app (goodIn_of _ (by decide +kernel)) ggX2_glareOn_J9_floorMod_7cf53
theorem dX2_glareOn_0 : decode cX2_glareOn 0 = .ok (.iconst 0, 1) := by decide +kernel
theorem dX2_glareOn_1 : decode cX2_glareOn 1 = .ok (.istore_n 2, 1) := by decide +kernel
theorem dX2_glareOn_2 : decode cX2_glareOn 2 = .ok (.iconst 0, 1) := by decide +kernel
theorem dX2_glareOn_3 : decode cX2_glareOn 3 = .ok (.istore_n 3, 1) := by decide +kernel
theorem dX2_glareOn_4 : decode cX2_glareOn 4 = .ok (.iload_n 3, 1) := by decide +kernel
theorem dX2_glareOn_5 : decode cX2_glareOn 5 = .ok (.aload_n 0, 1) := by decide +kernel
theorem dX2_glareOn_6 : decode cX2_glareOn 6 = .ok (.getfield 27, 3) := by decide +kernel
theorem dX2_glareOn_9 : decode cX2_glareOn 9 = .ok (.if_icmp .ge 65, 3) := by decide +kernel
theorem dX2_glareOn_12 : decode cX2_glareOn 12 = .ok (.aload_n 0, 1) := by decide +kernel
theorem dX2_glareOn_13 : decode cX2_glareOn 13 = .ok (.getfield 9, 3) := by decide +kernel
theorem dX2_glareOn_16 : decode cX2_glareOn 16 = .ok (.iload_n 3, 1) := by decide +kernel
theorem dX2_glareOn_17 : decode cX2_glareOn 17 = .ok (.iaload, 1) := by decide +kernel
theorem dX2_glareOn_18 : decode cX2_glareOn 18 = .ok (.iload_n 1, 1) := by decide +kernel
theorem dX2_glareOn_19 : decode cX2_glareOn 19 = .ok (.isub, 1) := by decide +kernel
theorem dX2_glareOn_20 : decode cX2_glareOn 20 = .ok (.bipush 12, 2) := by decide +kernel
theorem dX2_glareOn_22 : decode cX2_glareOn 22 = .ok (.invokestatic 52, 3) := by decide +kernel
theorem dX2_glareOn_25 : decode cX2_glareOn 25 = .ok (.istore 4, 2) := by decide +kernel
theorem dX2_glareOn_27 : decode cX2_glareOn 27 = .ok (.iload 4, 2) := by decide +kernel
theorem dX2_glareOn_29 : decode cX2_glareOn 29 = .ok (.ifCond .ne 15, 3) := by decide +kernel
theorem dX2_glareOn_32 : decode cX2_glareOn 32 = .ok (.iload_n 2, 1) := by decide +kernel
theorem dX2_glareOn_33 : decode cX2_glareOn 33 = .ok (.aload_n 0, 1) := by decide +kernel
theorem dX2_glareOn_34 : decode cX2_glareOn 34 = .ok (.getfield 15, 3) := by decide +kernel
theorem dX2_glareOn_37 : decode cX2_glareOn 37 = .ok (.iload_n 3, 1) := by decide +kernel
theorem dX2_glareOn_38 : decode cX2_glareOn 38 = .ok (.iaload, 1) := by decide +kernel
theorem dX2_glareOn_39 : decode cX2_glareOn 39 = .ok (.iadd, 1) := by decide +kernel
theorem dX2_glareOn_40 : decode cX2_glareOn 40 = .ok (.istore_n 2, 1) := by decide +kernel
theorem dX2_glareOn_41 : decode cX2_glareOn 41 = .ok (.goto 27, 3) := by decide +kernel
theorem dX2_glareOn_44 : decode cX2_glareOn 44 = .ok (.iload 4, 2) := by decide +kernel
theorem dX2_glareOn_46 : decode cX2_glareOn 46 = .ok (.iconst 1, 1) := by decide +kernel
theorem dX2_glareOn_47 : decode cX2_glareOn 47 = .ok (.if_icmp .eq 10, 3) := by decide +kernel
theorem dX2_glareOn_50 : decode cX2_glareOn 50 = .ok (.iload 4, 2) := by decide +kernel
theorem dX2_glareOn_52 : decode cX2_glareOn 52 = .ok (.bipush 11, 2) := by decide +kernel
theorem dX2_glareOn_54 : decode cX2_glareOn 54 = .ok (.if_icmp .ne 14, 3) := by decide +kernel
theorem dX2_glareOn_57 : decode cX2_glareOn 57 = .ok (.iload_n 2, 1) := by decide +kernel
theorem dX2_glareOn_58 : decode cX2_glareOn 58 = .ok (.aload_n 0, 1) := by decide +kernel
theorem dX2_glareOn_59 : decode cX2_glareOn 59 = .ok (.getfield 15, 3) := by decide +kernel
theorem dX2_glareOn_62 : decode cX2_glareOn 62 = .ok (.iload_n 3, 1) := by decide +kernel
theorem dX2_glareOn_63 : decode cX2_glareOn 63 = .ok (.iaload, 1) := by decide +kernel
theorem dX2_glareOn_64 : decode cX2_glareOn 64 = .ok (.iconst 4, 1) := by decide +kernel
theorem dX2_glareOn_65 : decode cX2_glareOn 65 = .ok (.idiv, 1) := by decide +kernel
theorem dX2_glareOn_66 : decode cX2_glareOn 66 = .ok (.iadd, 1) := by decide +kernel
theorem dX2_glareOn_67 : decode cX2_glareOn 67 = .ok (.istore_n 2, 1) := by decide +kernel
theorem dX2_glareOn_68 : decode cX2_glareOn 68 = .ok (.iinc 3 1, 3) := by decide +kernel
theorem dX2_glareOn_71 : decode cX2_glareOn 71 = .ok (.goto (-67), 3) := by decide +kernel
theorem dX2_glareOn_74 : decode cX2_glareOn 74 = .ok (.iload_n 2, 1) := by decide +kernel
theorem dX2_glareOn_75 : decode cX2_glareOn 75 = .ok (.ireturn, 1) := by decide +kernel
set_option maxRecDepth 20000 in
theorem ggX2_fact_X2_has : GoodIn wsX2_fact wsX2_has := goodIn_r _ [10, 11, 12, 13, 14, 15, 16, 17] (by decide +kernel) (by decide +kernel)
set_option maxRecDepth 20000 in
theorem gX2_fact_X2_has : GoodIn wsX2_fact (wsV RX2 31 RX2 yX2_has wsX2_has) := goodIn_app (goodIn_of _ (by decide +kernel)) ggX2_fact_X2_has
theorem dX2_fact_0 : decode cX2_fact 0 = .ok (.aload_n 0, 1) := by decide +kernel
theorem dX2_fact_1 : decode cX2_fact 1 = .ok (.iload_n 1, 1) := by decide +kernel
theorem dX2_fact_2 : decode cX2_fact 2 = .ok (.invokevirtual 31, 3) := by decide +kernel
theorem dX2_fact_5 : decode cX2_fact 5 = .ok (.ifCond .ne 5, 3) := by decide +kernel
theorem dX2_fact_8 : decode cX2_fact 8 = .ok (.iconst (-1), 1) := by decide +kernel
theorem dX2_fact_9 : decode cX2_fact 9 = .ok (.ireturn, 1) := by decide +kernel
theorem dX2_fact_10 : decode cX2_fact 10 = .ok (.iload_n 2, 1) := by decide +kernel
theorem dX2_fact_11 : decode cX2_fact 11 = .ok (.tableswitch 57 0 3 #[29, 36, 43, 50], 29) := by decide +kernel
theorem dX2_fact_40 : decode cX2_fact 40 = .ok (.aload_n 0, 1) := by decide +kernel
theorem dX2_fact_41 : decode cX2_fact 41 = .ok (.getfield 9, 3) := by decide +kernel
theorem dX2_fact_44 : decode cX2_fact 44 = .ok (.iload_n 1, 1) := by decide +kernel
theorem dX2_fact_45 : decode cX2_fact 45 = .ok (.iaload, 1) := by decide +kernel
theorem dX2_fact_46 : decode cX2_fact 46 = .ok (.ireturn, 1) := by decide +kernel
theorem dX2_fact_47 : decode cX2_fact 47 = .ok (.aload_n 0, 1) := by decide +kernel
theorem dX2_fact_48 : decode cX2_fact 48 = .ok (.getfield 15, 3) := by decide +kernel
theorem dX2_fact_51 : decode cX2_fact 51 = .ok (.iload_n 1, 1) := by decide +kernel
theorem dX2_fact_52 : decode cX2_fact 52 = .ok (.iaload, 1) := by decide +kernel
theorem dX2_fact_53 : decode cX2_fact 53 = .ok (.ireturn, 1) := by decide +kernel
theorem dX2_fact_54 : decode cX2_fact 54 = .ok (.aload_n 0, 1) := by decide +kernel
theorem dX2_fact_55 : decode cX2_fact 55 = .ok (.getfield 18, 3) := by decide +kernel
theorem dX2_fact_58 : decode cX2_fact 58 = .ok (.iload_n 1, 1) := by decide +kernel
theorem dX2_fact_59 : decode cX2_fact 59 = .ok (.iaload, 1) := by decide +kernel
theorem dX2_fact_60 : decode cX2_fact 60 = .ok (.ireturn, 1) := by decide +kernel
theorem dX2_fact_61 : decode cX2_fact 61 = .ok (.aload_n 0, 1) := by decide +kernel
theorem dX2_fact_62 : decode cX2_fact 62 = .ok (.getfield 21, 3) := by decide +kernel
theorem dX2_fact_65 : decode cX2_fact 65 = .ok (.iload_n 1, 1) := by decide +kernel
theorem dX2_fact_66 : decode cX2_fact 66 = .ok (.iaload, 1) := by decide +kernel
theorem dX2_fact_67 : decode cX2_fact 67 = .ok (.ireturn, 1) := by decide +kernel
theorem dX2_fact_68 : decode cX2_fact 68 = .ok (.aload_n 0, 1) := by decide +kernel
theorem dX2_fact_69 : decode cX2_fact 69 = .ok (.getfield 24, 3) := by decide +kernel
theorem dX2_fact_72 : decode cX2_fact 72 = .ok (.iload_n 1, 1) := by decide +kernel
theorem dX2_fact_73 : decode cX2_fact 73 = .ok (.iaload, 1) := by decide +kernel
theorem dX2_fact_74 : decode cX2_fact 74 = .ok (.ireturn, 1) := by decide +kernel
theorem dX2_become_0 : decode cX2_become 0 = .ok (.iconst 0, 1) := by decide +kernel
theorem dX2_become_1 : decode cX2_become 1 = .ok (.istore_n 2, 1) := by decide +kernel
theorem dX2_become_2 : decode cX2_become 2 = .ok (.iload_n 2, 1) := by decide +kernel
theorem dX2_become_3 : decode cX2_become 3 = .ok (.bipush 8, 2) := by decide +kernel
theorem dX2_become_5 : decode cX2_become 5 = .ok (.if_icmp .ge 69, 3) := by decide +kernel
theorem dX2_become_8 : decode cX2_become 8 = .ok (.aload_n 0, 1) := by decide +kernel
theorem dX2_become_9 : decode cX2_become 9 = .ok (.getfield 9, 3) := by decide +kernel
theorem dX2_become_12 : decode cX2_become 12 = .ok (.iload_n 2, 1) := by decide +kernel
theorem dX2_become_13 : decode cX2_become 13 = .ok (.aload_n 1, 1) := by decide +kernel
theorem dX2_become_14 : decode cX2_become 14 = .ok (.getfield 9, 3) := by decide +kernel
theorem dX2_become_17 : decode cX2_become 17 = .ok (.iload_n 2, 1) := by decide +kernel
theorem dX2_become_18 : decode cX2_become 18 = .ok (.iaload, 1) := by decide +kernel
theorem dX2_become_19 : decode cX2_become 19 = .ok (.iastore, 1) := by decide +kernel
theorem dX2_become_20 : decode cX2_become 20 = .ok (.aload_n 0, 1) := by decide +kernel
theorem dX2_become_21 : decode cX2_become 21 = .ok (.getfield 15, 3) := by decide +kernel
theorem dX2_become_24 : decode cX2_become 24 = .ok (.iload_n 2, 1) := by decide +kernel
theorem dX2_become_25 : decode cX2_become 25 = .ok (.aload_n 1, 1) := by decide +kernel
theorem dX2_become_26 : decode cX2_become 26 = .ok (.getfield 15, 3) := by decide +kernel
theorem dX2_become_29 : decode cX2_become 29 = .ok (.iload_n 2, 1) := by decide +kernel
theorem dX2_become_30 : decode cX2_become 30 = .ok (.iaload, 1) := by decide +kernel
theorem dX2_become_31 : decode cX2_become 31 = .ok (.iastore, 1) := by decide +kernel
theorem dX2_become_32 : decode cX2_become 32 = .ok (.aload_n 0, 1) := by decide +kernel
theorem dX2_become_33 : decode cX2_become 33 = .ok (.getfield 18, 3) := by decide +kernel
theorem dX2_become_36 : decode cX2_become 36 = .ok (.iload_n 2, 1) := by decide +kernel
theorem dX2_become_37 : decode cX2_become 37 = .ok (.aload_n 1, 1) := by decide +kernel
theorem dX2_become_38 : decode cX2_become 38 = .ok (.getfield 18, 3) := by decide +kernel
theorem dX2_become_41 : decode cX2_become 41 = .ok (.iload_n 2, 1) := by decide +kernel
theorem dX2_become_42 : decode cX2_become 42 = .ok (.iaload, 1) := by decide +kernel
theorem dX2_become_43 : decode cX2_become 43 = .ok (.iastore, 1) := by decide +kernel
theorem dX2_become_44 : decode cX2_become 44 = .ok (.aload_n 0, 1) := by decide +kernel
theorem dX2_become_45 : decode cX2_become 45 = .ok (.getfield 21, 3) := by decide +kernel
theorem dX2_become_48 : decode cX2_become 48 = .ok (.iload_n 2, 1) := by decide +kernel
theorem dX2_become_49 : decode cX2_become 49 = .ok (.aload_n 1, 1) := by decide +kernel
theorem dX2_become_50 : decode cX2_become 50 = .ok (.getfield 21, 3) := by decide +kernel
theorem dX2_become_53 : decode cX2_become 53 = .ok (.iload_n 2, 1) := by decide +kernel
theorem dX2_become_54 : decode cX2_become 54 = .ok (.iaload, 1) := by decide +kernel
theorem dX2_become_55 : decode cX2_become 55 = .ok (.iastore, 1) := by decide +kernel
theorem dX2_become_56 : decode cX2_become 56 = .ok (.aload_n 0, 1) := by decide +kernel
theorem dX2_become_57 : decode cX2_become 57 = .ok (.getfield 24, 3) := by decide +kernel
theorem dX2_become_60 : decode cX2_become 60 = .ok (.iload_n 2, 1) := by decide +kernel
theorem dX2_become_61 : decode cX2_become 61 = .ok (.aload_n 1, 1) := by decide +kernel
theorem dX2_become_62 : decode cX2_become 62 = .ok (.getfield 24, 3) := by decide +kernel
theorem dX2_become_65 : decode cX2_become 65 = .ok (.iload_n 2, 1) := by decide +kernel
theorem dX2_become_66 : decode cX2_become 66 = .ok (.iaload, 1) := by decide +kernel
theorem dX2_become_67 : decode cX2_become 67 = .ok (.iastore, 1) := by decide +kernel
theorem dX2_become_68 : decode cX2_become 68 = .ok (.iinc 2 1, 3) := by decide +kernel
theorem dX2_become_71 : decode cX2_become 71 = .ok (.goto (-69), 3) := by decide +kernel
theorem dX2_become_74 : decode cX2_become 74 = .ok (.aload_n 0, 1) := by decide +kernel
theorem dX2_become_75 : decode cX2_become 75 = .ok (.aload_n 1, 1) := by decide +kernel
theorem dX2_become_76 : decode cX2_become 76 = .ok (.getfield 27, 3) := by decide +kernel
theorem dX2_become_79 : decode cX2_become 79 = .ok (.putfield 27, 3) := by decide +kernel
theorem dX2_become_82 : decode cX2_become 82 = .ok (.return_, 1) := by decide +kernel
set_option maxRecDepth 20000 in
theorem ggX3_init_X2_init : GoodIn wsX3_init wsX2_init := goodIn_r _ [14, 15, 2, 3, 16, 17, 18, 19, 20, 21, 37, 38, 39, 40, 41, 42] (by decide +kernel) (by decide +kernel)
set_option maxRecDepth 20000 in
theorem gX3_init_X2_init_n17 : GoodIn wsX3_init (wsX2_init) := ggX3_init_X2_init
set_option maxRecDepth 20000 in
theorem ggX3_init_X0_init : GoodIn wsX3_init wsX0_init := goodIn_r _ [23, 24, 2, 3, 16, 25, 26, 27, 43, 44, 45, 46] (by decide +kernel) (by decide +kernel)
set_option maxRecDepth 20000 in
theorem gX3_init_X0_init_n24 : GoodIn wsX3_init (wsX0_init) := ggX3_init_X0_init
theorem dX3_init_0 : decode cX3_init 0 = .ok (.aload_n 0, 1) := by decide +kernel
theorem dX3_init_1 : decode cX3_init 1 = .ok (.invokespecial 3, 3) := by decide +kernel
theorem dX3_init_4 : decode cX3_init 4 = .ok (.aload_n 0, 1) := by decide +kernel
theorem dX3_init_5 : decode cX3_init 5 = .ok (.iconst (-1), 1) := by decide +kernel
theorem dX3_init_6 : decode cX3_init 6 = .ok (.putfield 9, 3) := by decide +kernel
theorem dX3_init_9 : decode cX3_init 9 = .ok (.aload_n 0, 1) := by decide +kernel
theorem dX3_init_10 : decode cX3_init 10 = .ok (.new 15, 3) := by decide +kernel
theorem dX3_init_13 : decode cX3_init 13 = .ok (.dup, 1) := by decide +kernel
theorem dX3_init_14 : decode cX3_init 14 = .ok (.invokespecial 17, 3) := by decide +kernel
theorem dX3_init_17 : decode cX3_init 17 = .ok (.putfield 18, 3) := by decide +kernel
theorem dX3_init_20 : decode cX3_init 20 = .ok (.aload_n 0, 1) := by decide +kernel
theorem dX3_init_21 : decode cX3_init 21 = .ok (.new 22, 3) := by decide +kernel
theorem dX3_init_24 : decode cX3_init 24 = .ok (.dup, 1) := by decide +kernel
theorem dX3_init_25 : decode cX3_init 25 = .ok (.invokespecial 24, 3) := by decide +kernel
theorem dX3_init_28 : decode cX3_init 28 = .ok (.putfield 25, 3) := by decide +kernel
theorem dX3_init_31 : decode cX3_init 31 = .ok (.return_, 1) := by decide +kernel
set_option maxRecDepth 20000 in
theorem ggX3_become_X2_become : GoodIn wsX3_become wsX2_become := goodIn_r _ [14, 15, 16, 17, 18, 19, 20, 39, 40, 41, 42, 43, 44] (by decide +kernel) (by decide +kernel)
set_option maxRecDepth 20000 in
theorem gX3_become_X2_become : GoodIn wsX3_become (wsV RX3 48 RX2 yX2_become wsX2_become) := goodIn_app (goodIn_of _ (by decide +kernel)) ggX3_become_X2_become
set_option maxRecDepth 20000 in
theorem ggX3_become_X0_become : GoodIn wsX3_become wsX0_become := goodIn_r _ [25, 26, 27, 28, 29, 45, 46, 47, 48] (by decide +kernel) (by decide +kernel)
set_option maxRecDepth 20000 in
theorem gX3_become_X0_become : GoodIn wsX3_become (wsV RX3 52 RX0 yX0_become wsX0_become) := goodIn_app (goodIn_of _ (by decide +kernel)) ggX3_become_X0_become
theorem dX3_become_0 : decode cX3_become 0 = .ok (.aload_n 0, 1) := by decide +kernel
theorem dX3_become_1 : decode cX3_become 1 = .ok (.aload_n 1, 1) := by decide +kernel
theorem dX3_become_2 : decode cX3_become 2 = .ok (.getfield 29, 3) := by decide +kernel
theorem dX3_become_5 : decode cX3_become 5 = .ok (.putfield 29, 3) := by decide +kernel
theorem dX3_become_8 : decode cX3_become 8 = .ok (.aload_n 0, 1) := by decide +kernel
theorem dX3_become_9 : decode cX3_become 9 = .ok (.aload_n 1, 1) := by decide +kernel
theorem dX3_become_10 : decode cX3_become 10 = .ok (.getfield 32, 3) := by decide +kernel
theorem dX3_become_13 : decode cX3_become 13 = .ok (.putfield 32, 3) := by decide +kernel
theorem dX3_become_16 : decode cX3_become 16 = .ok (.aload_n 0, 1) := by decide +kernel
theorem dX3_become_17 : decode cX3_become 17 = .ok (.aload_n 1, 1) := by decide +kernel
theorem dX3_become_18 : decode cX3_become 18 = .ok (.getfield 35, 3) := by decide +kernel
theorem dX3_become_21 : decode cX3_become 21 = .ok (.putfield 35, 3) := by decide +kernel
theorem dX3_become_24 : decode cX3_become 24 = .ok (.aload_n 0, 1) := by decide +kernel
theorem dX3_become_25 : decode cX3_become 25 = .ok (.aload_n 1, 1) := by decide +kernel
theorem dX3_become_26 : decode cX3_become 26 = .ok (.getfield 39, 3) := by decide +kernel
theorem dX3_become_29 : decode cX3_become 29 = .ok (.putfield 39, 3) := by decide +kernel
theorem dX3_become_32 : decode cX3_become 32 = .ok (.aload_n 0, 1) := by decide +kernel
theorem dX3_become_33 : decode cX3_become 33 = .ok (.aload_n 1, 1) := by decide +kernel
theorem dX3_become_34 : decode cX3_become 34 = .ok (.getfield 42, 3) := by decide +kernel
theorem dX3_become_37 : decode cX3_become 37 = .ok (.putfield 42, 3) := by decide +kernel
theorem dX3_become_40 : decode cX3_become 40 = .ok (.aload_n 0, 1) := by decide +kernel
theorem dX3_become_41 : decode cX3_become 41 = .ok (.aload_n 1, 1) := by decide +kernel
theorem dX3_become_42 : decode cX3_become 42 = .ok (.getfield 9, 3) := by decide +kernel
theorem dX3_become_45 : decode cX3_become 45 = .ok (.putfield 9, 3) := by decide +kernel
theorem dX3_become_48 : decode cX3_become 48 = .ok (.aload_n 0, 1) := by decide +kernel
theorem dX3_become_49 : decode cX3_become 49 = .ok (.aload_n 1, 1) := by decide +kernel
theorem dX3_become_50 : decode cX3_become 50 = .ok (.getfield 45, 3) := by decide +kernel
theorem dX3_become_53 : decode cX3_become 53 = .ok (.putfield 45, 3) := by decide +kernel
theorem dX3_become_56 : decode cX3_become 56 = .ok (.aload_n 0, 1) := by decide +kernel
theorem dX3_become_57 : decode cX3_become 57 = .ok (.getfield 18, 3) := by decide +kernel
theorem dX3_become_60 : decode cX3_become 60 = .ok (.aload_n 1, 1) := by decide +kernel
theorem dX3_become_61 : decode cX3_become 61 = .ok (.getfield 18, 3) := by decide +kernel
theorem dX3_become_64 : decode cX3_become 64 = .ok (.invokevirtual 48, 3) := by decide +kernel
theorem dX3_become_67 : decode cX3_become 67 = .ok (.aload_n 0, 1) := by decide +kernel
theorem dX3_become_68 : decode cX3_become 68 = .ok (.getfield 25, 3) := by decide +kernel
theorem dX3_become_71 : decode cX3_become 71 = .ok (.aload_n 1, 1) := by decide +kernel
theorem dX3_become_72 : decode cX3_become 72 = .ok (.getfield 25, 3) := by decide +kernel
theorem dX3_become_75 : decode cX3_become 75 = .ok (.invokevirtual 52, 3) := by decide +kernel
theorem dX3_become_78 : decode cX3_become 78 = .ok (.return_, 1) := by decide +kernel
set_option maxRecDepth 20000 in
theorem ggX3_goOnFor_X3_goOn : GoodIn wsX3_goOnFor wsX3_goOn := goodIn_r _ [5, 6, 7, 8, 9, 10, 11, 12, 13, 14, 4, 15, 16, 17, 18, 19, 20, 21, 22, 23, 24, 25, 26, 27, 28, 29, 30, 31, 32, 33, 34, 35, 36, 37, 38, 39, 40, 41, 42, 43, 44, 45, 46, 47, 48, 49, 50, 51, 52, 53, 54, 55, 56, 57, 58, 59, 60, 61, 62, 63, 64, 65, 66, 67, 68, 69, 70, 71, 72, 73, 74, 75, 76, 77, 78, 79, 80, 81, 82, 83, 84, 85, 86, 87, 88, 89, 90, 91, 92, 93, 94, 95, 96, 97, 98, 99, 100, 101, 102, 103, 104, 105, 106, 107] (by decide +kernel) (by decide +kernel)
set_option maxRecDepth 20000 in
theorem gX3_goOnFor_X3_goOn : GoodIn wsX3_goOnFor (wsV RX3 55 RX3 yX3_goOn wsX3_goOn) := goodIn_app (goodIn_of _ (by decide +kernel)) ggX3_goOnFor_X3_goOn
theorem dX3_goOnFor_0 : decode cX3_goOnFor 0 = .ok (.iconst 0, 1) := by decide +kernel
theorem dX3_goOnFor_1 : decode cX3_goOnFor 1 = .ok (.istore_n 3, 1) := by decide +kernel
theorem dX3_goOnFor_2 : decode cX3_goOnFor 2 = .ok (.iconst 0, 1) := by decide +kernel
theorem dX3_goOnFor_3 : decode cX3_goOnFor 3 = .ok (.istore 4, 2) := by decide +kernel
theorem dX3_goOnFor_5 : decode cX3_goOnFor 5 = .ok (.iload 4, 2) := by decide +kernel
theorem dX3_goOnFor_7 : decode cX3_goOnFor 7 = .ok (.iload_n 1, 1) := by decide +kernel
theorem dX3_goOnFor_8 : decode cX3_goOnFor 8 = .ok (.if_icmp .ge 17, 3) := by decide +kernel
theorem dX3_goOnFor_11 : decode cX3_goOnFor 11 = .ok (.iload_n 3, 1) := by decide +kernel
theorem dX3_goOnFor_12 : decode cX3_goOnFor 12 = .ok (.aload_n 0, 1) := by decide +kernel
theorem dX3_goOnFor_13 : decode cX3_goOnFor 13 = .ok (.aload_n 2, 1) := by decide +kernel
theorem dX3_goOnFor_14 : decode cX3_goOnFor 14 = .ok (.invokevirtual 55, 3) := by decide +kernel
theorem dX3_goOnFor_17 : decode cX3_goOnFor 17 = .ok (.iadd, 1) := by decide +kernel
theorem dX3_goOnFor_18 : decode cX3_goOnFor 18 = .ok (.istore_n 3, 1) := by decide +kernel
theorem dX3_goOnFor_19 : decode cX3_goOnFor 19 = .ok (.iinc 4 1, 3) := by decide +kernel
theorem dX3_goOnFor_22 : decode cX3_goOnFor 22 = .ok (.goto (-17), 3) := by decide +kernel
theorem dX3_goOnFor_25 : decode cX3_goOnFor 25 = .ok (.iload_n 3, 1) := by decide +kernel
theorem dX3_goOnFor_26 : decode cX3_goOnFor 26 = .ok (.ireturn, 1) := by decide +kernel
set_option maxRecDepth 20000 in
theorem ggX3_goOn_X3_runCues : GoodIn wsX3_goOn wsX3_runCues := goodIn_r _ [11, 12, 13, 14, 15, 16, 17, 18, 19, 20, 10, 21, 2, 4, 5, 22, 23, 1, 24, 25, 26, 27, 28, 29, 30, 31, 32, 33, 34, 35, 36, 37, 38, 39, 40, 41, 42, 43, 89, 90, 91, 92, 93, 80, 81, 82, 83, 84, 85, 86, 87, 88, 94, 95, 96, 97, 98, 99, 100, 101, 102, 103] (by decide +kernel) (by decide +kernel)
set_option maxRecDepth 20000 in
theorem gX3_goOn_X3_runCues : GoodIn wsX3_goOn (wsV RX3 59 RX3 yX3_runCues wsX3_runCues) := goodIn_app (goodIn_of _ (by decide +kernel)) ggX3_goOn_X3_runCues
set_option maxRecDepth 20000 in
theorem ggX3_goOn_X2_goOn : GoodIn wsX3_goOn wsX2_goOn := goodIn_r _ [47, 34, 48, 29, 49, 50, 51, 52, 53, 54, 55, 56, 27, 57, 58, 59, 60, 61, 62, 63, 64, 30, 31, 32, 33, 94, 95, 96, 97, 98, 99] (by decide +kernel) (by decide +kernel)
set_option maxRecDepth 20000 in
theorem gX3_goOn_X2_goOn : GoodIn wsX3_goOn (wsV RX3 62 RX2 yX2_goOn wsX2_goOn) := goodIn_app (goodIn_of _ (by decide +kernel)) ggX3_goOn_X2_goOn
set_option maxRecDepth 20000 in
theorem ggX3_goOn_X5_turned : GoodIn wsX3_goOn wsX5_turned := goodIn_r _ [67, 68, 69, 70, 71] (by decide +kernel) (by decide +kernel)
set_option maxRecDepth 20000 in
theorem gX3_goOn_X5_turned_n64 : GoodIn wsX3_goOn (wsX5_turned) := ggX3_goOn_X5_turned
set_option maxRecDepth 20000 in
theorem ggX3_goOn_X0_goOn : GoodIn wsX3_goOn wsX0_goOn := goodIn_r _ [75, 40, 43, 41, 42, 65, 66, 67, 68, 69, 70, 71, 100, 101, 102, 103] (by decide +kernel) (by decide +kernel)
set_option maxRecDepth 20000 in
theorem gX3_goOn_X0_goOn : GoodIn wsX3_goOn (wsV RX3 68 RX0 yX0_goOn wsX0_goOn) := goodIn_app (goodIn_of _ (by decide +kernel)) ggX3_goOn_X0_goOn
set_option maxRecDepth 20000 in
theorem ggX3_goOn_X3_speakOn : GoodIn wsX3_goOn wsX3_speakOn := goodIn_r _ [79, 23, 22, 80, 81, 82, 83, 84, 85, 86, 87, 88] (by decide +kernel) (by decide +kernel)
set_option maxRecDepth 20000 in
theorem gX3_goOn_X3_speakOn : GoodIn wsX3_goOn (wsV RX3 69 RX3 yX3_speakOn wsX3_speakOn) := goodIn_app (goodIn_of _ (by decide +kernel)) ggX3_goOn_X3_speakOn
theorem dX3_goOn_0 : decode cX3_goOn 0 = .ok (.aload_n 0, 1) := by decide +kernel
theorem dX3_goOn_1 : decode cX3_goOn 1 = .ok (.getfield 35, 3) := by decide +kernel
theorem dX3_goOn_4 : decode cX3_goOn 4 = .ok (.ifCond .eq 11, 3) := by decide +kernel
theorem dX3_goOn_7 : decode cX3_goOn 7 = .ok (.aload_n 0, 1) := by decide +kernel
theorem dX3_goOn_8 : decode cX3_goOn 8 = .ok (.aload_n 1, 1) := by decide +kernel
theorem dX3_goOn_9 : decode cX3_goOn 9 = .ok (.invokevirtual 59, 3) := by decide +kernel
theorem dX3_goOn_12 : decode cX3_goOn 12 = .ok (.goto 4, 3) := by decide +kernel
theorem dX3_goOn_15 : decode cX3_goOn 15 = .ok (.iconst 0, 1) := by decide +kernel
theorem dX3_goOn_16 : decode cX3_goOn 16 = .ok (.istore_n 2, 1) := by decide +kernel
theorem dX3_goOn_17 : decode cX3_goOn 17 = .ok (.aload_n 0, 1) := by decide +kernel
theorem dX3_goOn_18 : decode cX3_goOn 18 = .ok (.getfield 18, 3) := by decide +kernel
theorem dX3_goOn_21 : decode cX3_goOn 21 = .ok (.invokevirtual 62, 3) := by decide +kernel
theorem dX3_goOn_24 : decode cX3_goOn 24 = .ok (.aload_n 0, 1) := by decide +kernel
theorem dX3_goOn_25 : decode cX3_goOn 25 = .ok (.aload_n 0, 1) := by decide +kernel
theorem dX3_goOn_26 : decode cX3_goOn 26 = .ok (.getfield 39, 3) := by decide +kernel
theorem dX3_goOn_29 : decode cX3_goOn 29 = .ok (.aload_n 0, 1) := by decide +kernel
theorem dX3_goOn_30 : decode cX3_goOn 30 = .ok (.getfield 42, 3) := by decide +kernel
theorem dX3_goOn_33 : decode cX3_goOn 33 = .ok (.invokestatic 64, 3) := by decide +kernel
theorem dX3_goOn_36 : decode cX3_goOn 36 = .ok (.putfield 39, 3) := by decide +kernel
theorem dX3_goOn_39 : decode cX3_goOn 39 = .ok (.aload_n 0, 1) := by decide +kernel
theorem dX3_goOn_40 : decode cX3_goOn 40 = .ok (.getfield 25, 3) := by decide +kernel
theorem dX3_goOn_43 : decode cX3_goOn 43 = .ok (.invokevirtual 68, 3) := by decide +kernel
theorem dX3_goOn_46 : decode cX3_goOn 46 = .ok (.aload_n 0, 1) := by decide +kernel
theorem dX3_goOn_47 : decode cX3_goOn 47 = .ok (.invokevirtual 69, 3) := by decide +kernel
theorem dX3_goOn_50 : decode cX3_goOn 50 = .ok (.aload_n 0, 1) := by decide +kernel
theorem dX3_goOn_51 : decode cX3_goOn 51 = .ok (.dup, 1) := by decide +kernel
theorem dX3_goOn_52 : decode cX3_goOn 52 = .ok (.getfield 29, 3) := by decide +kernel
theorem dX3_goOn_55 : decode cX3_goOn 55 = .ok (.iconst 1, 1) := by decide +kernel
theorem dX3_goOn_56 : decode cX3_goOn 56 = .ok (.iadd, 1) := by decide +kernel
theorem dX3_goOn_57 : decode cX3_goOn 57 = .ok (.putfield 29, 3) := by decide +kernel
theorem dX3_goOn_60 : decode cX3_goOn 60 = .ok (.iload_n 2, 1) := by decide +kernel
theorem dX3_goOn_61 : decode cX3_goOn 61 = .ok (.ireturn, 1) := by decide +kernel
set_option maxRecDepth 20000 in
theorem ggX3_runCues_X3_obey : GoodIn wsX3_runCues wsX3_obey := goodIn_r _ [11, 12, 13, 14, 15, 16, 17, 18, 19, 20, 21, 22, 23, 24, 25, 26, 27, 28, 29, 30, 31, 32, 33, 34, 35, 36, 37, 43, 44, 45, 46, 47, 48, 49, 50, 51, 52, 53, 54, 55, 56, 57, 58, 59, 60, 61] (by decide +kernel) (by decide +kernel)
set_option maxRecDepth 20000 in
theorem gX3_runCues_X3_obey : GoodIn wsX3_runCues (wsV RX3 90 RX3 yX3_obey wsX3_obey) := goodIn_app (goodIn_of _ (by decide +kernel)) ggX3_runCues_X3_obey
theorem dX3_runCues_0 : decode cX3_runCues 0 = .ok (.iconst 0, 1) := by decide +kernel
theorem dX3_runCues_1 : decode cX3_runCues 1 = .ok (.istore_n 2, 1) := by decide +kernel
theorem dX3_runCues_2 : decode cX3_runCues 2 = .ok (.iconst 0, 1) := by decide +kernel
theorem dX3_runCues_3 : decode cX3_runCues 3 = .ok (.istore_n 3, 1) := by decide +kernel
theorem dX3_runCues_4 : decode cX3_runCues 4 = .ok (.iload_n 3, 1) := by decide +kernel
theorem dX3_runCues_5 : decode cX3_runCues 5 = .ok (.aload_n 1, 1) := by decide +kernel
theorem dX3_runCues_6 : decode cX3_runCues 6 = .ok (.getfield 72, 3) := by decide +kernel
theorem dX3_runCues_9 : decode cX3_runCues 9 = .ok (.if_icmp .ge 47, 3) := by decide +kernel
theorem dX3_runCues_12 : decode cX3_runCues 12 = .ok (.aload_n 1, 1) := by decide +kernel
theorem dX3_runCues_13 : decode cX3_runCues 13 = .ok (.getfield 77, 3) := by decide +kernel
theorem dX3_runCues_16 : decode cX3_runCues 16 = .ok (.iload_n 3, 1) := by decide +kernel
theorem dX3_runCues_17 : decode cX3_runCues 17 = .ok (.iaload, 1) := by decide +kernel
theorem dX3_runCues_18 : decode cX3_runCues 18 = .ok (.aload_n 0, 1) := by decide +kernel
theorem dX3_runCues_19 : decode cX3_runCues 19 = .ok (.getfield 32, 3) := by decide +kernel
theorem dX3_runCues_22 : decode cX3_runCues 22 = .ok (.if_icmp .ne 28, 3) := by decide +kernel
theorem dX3_runCues_25 : decode cX3_runCues 25 = .ok (.aload_n 0, 1) := by decide +kernel
theorem dX3_runCues_26 : decode cX3_runCues 26 = .ok (.aload_n 1, 1) := by decide +kernel
theorem dX3_runCues_27 : decode cX3_runCues 27 = .ok (.getfield 81, 3) := by decide +kernel
theorem dX3_runCues_30 : decode cX3_runCues 30 = .ok (.iload_n 3, 1) := by decide +kernel
theorem dX3_runCues_31 : decode cX3_runCues 31 = .ok (.iaload, 1) := by decide +kernel
theorem dX3_runCues_32 : decode cX3_runCues 32 = .ok (.aload_n 1, 1) := by decide +kernel
theorem dX3_runCues_33 : decode cX3_runCues 33 = .ok (.getfield 84, 3) := by decide +kernel
theorem dX3_runCues_36 : decode cX3_runCues 36 = .ok (.iload_n 3, 1) := by decide +kernel
theorem dX3_runCues_37 : decode cX3_runCues 37 = .ok (.iaload, 1) := by decide +kernel
theorem dX3_runCues_38 : decode cX3_runCues 38 = .ok (.aload_n 1, 1) := by decide +kernel
theorem dX3_runCues_39 : decode cX3_runCues 39 = .ok (.getfield 87, 3) := by decide +kernel
theorem dX3_runCues_42 : decode cX3_runCues 42 = .ok (.iload_n 3, 1) := by decide +kernel
theorem dX3_runCues_43 : decode cX3_runCues 43 = .ok (.iaload, 1) := by decide +kernel
theorem dX3_runCues_44 : decode cX3_runCues 44 = .ok (.invokevirtual 90, 3) := by decide +kernel
theorem dX3_runCues_47 : decode cX3_runCues 47 = .ok (.iinc 2 1, 3) := by decide +kernel
theorem dX3_runCues_50 : decode cX3_runCues 50 = .ok (.iinc 3 1, 3) := by decide +kernel
theorem dX3_runCues_53 : decode cX3_runCues 53 = .ok (.goto (-49), 3) := by decide +kernel
theorem dX3_runCues_56 : decode cX3_runCues 56 = .ok (.aload_n 0, 1) := by decide +kernel
theorem dX3_runCues_57 : decode cX3_runCues 57 = .ok (.dup, 1) := by decide +kernel
theorem dX3_runCues_58 : decode cX3_runCues 58 = .ok (.getfield 32, 3) := by decide +kernel
theorem dX3_runCues_61 : decode cX3_runCues 61 = .ok (.iconst 1, 1) := by decide +kernel
theorem dX3_runCues_62 : decode cX3_runCues 62 = .ok (.iadd, 1) := by decide +kernel
theorem dX3_runCues_63 : decode cX3_runCues 63 = .ok (.putfield 32, 3) := by decide +kernel
theorem dX3_runCues_66 : decode cX3_runCues 66 = .ok (.iload_n 2, 1) := by decide +kernel
theorem dX3_runCues_67 : decode cX3_runCues 67 = .ok (.ireturn, 1) := by decide +kernel
set_option maxRecDepth 20000 in
theorem ggX3_obey_X2_changeAim : GoodIn wsX3_obey wsX2_changeAim := goodIn_r _ [11, 12, 13, 14, 15, 10, 16, 17, 36, 37, 38, 39, 40, 41] (by decide +kernel) (by decide +kernel)
set_option maxRecDepth 20000 in
theorem gX3_obey_X2_changeAim : GoodIn wsX3_obey (wsV RX3 94 RX2 yX2_changeAim wsX2_changeAim) := goodIn_app (goodIn_of _ (by decide +kernel)) ggX3_obey_X2_changeAim
set_option maxRecDepth 20000 in
theorem ggX3_obey_X0_addIfRoom : GoodIn wsX3_obey wsX0_addIfRoom := goodIn_r _ [22, 23, 24, 25, 26, 42, 43, 44, 45] (by decide +kernel) (by decide +kernel)
set_option maxRecDepth 20000 in
theorem gX3_obey_X0_addIfRoom : GoodIn wsX3_obey (wsV RX3 97 RX0 yX0_addIfRoom wsX0_addIfRoom) := goodIn_app (goodIn_of _ (by decide +kernel)) ggX3_obey_X0_addIfRoom
theorem dX3_obey_0 : decode cX3_obey 0 = .ok (.iload_n 1, 1) := by decide +kernel
theorem dX3_obey_1 : decode cX3_obey 1 = .ok (.tableswitch 89 0 4 #[35, 48, 56, 68, 81], 35) := by decide +kernel
theorem dX3_obey_36 : decode cX3_obey 36 = .ok (.aload_n 0, 1) := by decide +kernel
theorem dX3_obey_37 : decode cX3_obey 37 = .ok (.getfield 18, 3) := by decide +kernel
theorem dX3_obey_40 : decode cX3_obey 40 = .ok (.iload_n 2, 1) := by decide +kernel
theorem dX3_obey_41 : decode cX3_obey 41 = .ok (.iload_n 3, 1) := by decide +kernel
theorem dX3_obey_42 : decode cX3_obey 42 = .ok (.invokevirtual 94, 3) := by decide +kernel
theorem dX3_obey_45 : decode cX3_obey 45 = .ok (.pop, 1) := by decide +kernel
theorem dX3_obey_46 : decode cX3_obey 46 = .ok (.goto 44, 3) := by decide +kernel
theorem dX3_obey_49 : decode cX3_obey 49 = .ok (.aload_n 0, 1) := by decide +kernel
theorem dX3_obey_50 : decode cX3_obey 50 = .ok (.iload_n 3, 1) := by decide +kernel
theorem dX3_obey_51 : decode cX3_obey 51 = .ok (.putfield 42, 3) := by decide +kernel
theorem dX3_obey_54 : decode cX3_obey 54 = .ok (.goto 36, 3) := by decide +kernel
theorem dX3_obey_57 : decode cX3_obey 57 = .ok (.aload_n 0, 1) := by decide +kernel
theorem dX3_obey_58 : decode cX3_obey 58 = .ok (.getfield 25, 3) := by decide +kernel
theorem dX3_obey_61 : decode cX3_obey 61 = .ok (.iload_n 2, 1) := by decide +kernel
theorem dX3_obey_62 : decode cX3_obey 62 = .ok (.iload_n 3, 1) := by decide +kernel
theorem dX3_obey_63 : decode cX3_obey 63 = .ok (.invokevirtual 97, 3) := by decide +kernel
theorem dX3_obey_66 : decode cX3_obey 66 = .ok (.goto 24, 3) := by decide +kernel
theorem dX3_obey_69 : decode cX3_obey 69 = .ok (.aload_n 0, 1) := by decide +kernel
theorem dX3_obey_70 : decode cX3_obey 70 = .ok (.iload_n 2, 1) := by decide +kernel
theorem dX3_obey_71 : decode cX3_obey 71 = .ok (.putfield 9, 3) := by decide +kernel
theorem dX3_obey_74 : decode cX3_obey 74 = .ok (.aload_n 0, 1) := by decide +kernel
theorem dX3_obey_75 : decode cX3_obey 75 = .ok (.iload_n 3, 1) := by decide +kernel
theorem dX3_obey_76 : decode cX3_obey 76 = .ok (.putfield 45, 3) := by decide +kernel
theorem dX3_obey_79 : decode cX3_obey 79 = .ok (.goto 11, 3) := by decide +kernel
theorem dX3_obey_82 : decode cX3_obey 82 = .ok (.aload_n 0, 1) := by decide +kernel
theorem dX3_obey_83 : decode cX3_obey 83 = .ok (.iconst 0, 1) := by decide +kernel
theorem dX3_obey_84 : decode cX3_obey 84 = .ok (.putfield 35, 3) := by decide +kernel
theorem dX3_obey_87 : decode cX3_obey 87 = .ok (.goto 3, 3) := by decide +kernel
theorem dX3_obey_90 : decode cX3_obey 90 = .ok (.return_, 1) := by decide +kernel
theorem dX3_speakOn_0 : decode cX3_speakOn 0 = .ok (.aload_n 0, 1) := by decide +kernel
theorem dX3_speakOn_1 : decode cX3_speakOn 1 = .ok (.getfield 45, 3) := by decide +kernel
theorem dX3_speakOn_4 : decode cX3_speakOn 4 = .ok (.ifCond .le 13, 3) := by decide +kernel
theorem dX3_speakOn_7 : decode cX3_speakOn 7 = .ok (.aload_n 0, 1) := by decide +kernel
theorem dX3_speakOn_8 : decode cX3_speakOn 8 = .ok (.dup, 1) := by decide +kernel
theorem dX3_speakOn_9 : decode cX3_speakOn 9 = .ok (.getfield 45, 3) := by decide +kernel
theorem dX3_speakOn_12 : decode cX3_speakOn 12 = .ok (.iconst 1, 1) := by decide +kernel
theorem dX3_speakOn_13 : decode cX3_speakOn 13 = .ok (.isub, 1) := by decide +kernel
theorem dX3_speakOn_14 : decode cX3_speakOn 14 = .ok (.putfield 45, 3) := by decide +kernel
theorem dX3_speakOn_17 : decode cX3_speakOn 17 = .ok (.aload_n 0, 1) := by decide +kernel
theorem dX3_speakOn_18 : decode cX3_speakOn 18 = .ok (.getfield 45, 3) := by decide +kernel
theorem dX3_speakOn_21 : decode cX3_speakOn 21 = .ok (.ifCond .ne 8, 3) := by decide +kernel
theorem dX3_speakOn_24 : decode cX3_speakOn 24 = .ok (.aload_n 0, 1) := by decide +kernel
theorem dX3_speakOn_25 : decode cX3_speakOn 25 = .ok (.iconst (-1), 1) := by decide +kernel
theorem dX3_speakOn_26 : decode cX3_speakOn 26 = .ok (.putfield 9, 3) := by decide +kernel
theorem dX3_speakOn_29 : decode cX3_speakOn 29 = .ok (.return_, 1) := by decide +kernel
set_option maxRecDepth 20000 in
theorem ggX3_fact_X3_starsSeen : GoodIn wsX3_fact wsX3_starsSeen := goodIn_r _ [18, 6, 19, 20, 21, 17, 22, 23, 12, 24, 25, 26, 27, 28, 29, 30, 31, 32, 33, 34, 35, 36, 37, 38, 39, 40, 41, 4, 42, 43, 44, 45, 46, 47, 48, 49, 50, 82, 83, 84, 67, 68, 69, 70, 71, 72, 73, 74, 75, 76, 77, 78, 79, 80, 81] (by decide +kernel) (by decide +kernel)
set_option maxRecDepth 20000 in
theorem gX3_fact_X3_starsSeen : GoodIn wsX3_fact (wsV RX3 106 RX3 yX3_starsSeen wsX3_starsSeen) := goodIn_app (goodIn_of _ (by decide +kernel)) ggX3_fact_X3_starsSeen
set_option maxRecDepth 20000 in
theorem ggX3_fact_X3_cometsSeen : GoodIn wsX3_fact wsX3_cometsSeen := goodIn_r _ [54, 7, 8, 55, 56, 57, 17, 58, 59, 60, 61, 62, 63, 64, 65, 66, 38, 39, 40, 41, 4, 42, 43, 44, 45, 46, 47, 48, 49, 50, 35, 36, 37, 67, 68, 69, 70, 71, 72, 73, 74, 75, 85, 86, 87, 88, 76, 77, 78, 79, 80, 81] (by decide +kernel) (by decide +kernel)
set_option maxRecDepth 20000 in
theorem gX3_fact_X3_cometsSeen : GoodIn wsX3_fact (wsV RX3 110 RX3 yX3_cometsSeen wsX3_cometsSeen) := goodIn_app (goodIn_of _ (by decide +kernel)) ggX3_fact_X3_cometsSeen
theorem dX3_fact_0 : decode cX3_fact 0 = .ok (.iload_n 1, 1) := by decide +kernel
theorem dX3_fact_1 : decode cX3_fact 1 = .ok (.tableswitch 138 0 11 #[63, 68, 73, 86, 94, 99, 107, 112, 118, 123, 128, 133], 63) := by decide +kernel
theorem dX3_fact_64 : decode cX3_fact 64 = .ok (.aload_n 0, 1) := by decide +kernel
theorem dX3_fact_65 : decode cX3_fact 65 = .ok (.getfield 29, 3) := by decide +kernel
theorem dX3_fact_68 : decode cX3_fact 68 = .ok (.ireturn, 1) := by decide +kernel
theorem dX3_fact_69 : decode cX3_fact 69 = .ok (.aload_n 0, 1) := by decide +kernel
theorem dX3_fact_70 : decode cX3_fact 70 = .ok (.getfield 32, 3) := by decide +kernel
theorem dX3_fact_73 : decode cX3_fact 73 = .ok (.ireturn, 1) := by decide +kernel
theorem dX3_fact_74 : decode cX3_fact 74 = .ok (.aload_n 0, 1) := by decide +kernel
theorem dX3_fact_75 : decode cX3_fact 75 = .ok (.getfield 35, 3) := by decide +kernel
theorem dX3_fact_78 : decode cX3_fact 78 = .ok (.ifCond .eq 7, 3) := by decide +kernel
theorem dX3_fact_81 : decode cX3_fact 81 = .ok (.iconst 1, 1) := by decide +kernel
theorem dX3_fact_82 : decode cX3_fact 82 = .ok (.goto 4, 3) := by decide +kernel
theorem dX3_fact_85 : decode cX3_fact 85 = .ok (.iconst 0, 1) := by decide +kernel
theorem dX3_fact_86 : decode cX3_fact 86 = .ok (.ireturn, 1) := by decide +kernel
theorem dX3_fact_87 : decode cX3_fact 87 = .ok (.aload_n 0, 1) := by decide +kernel
theorem dX3_fact_88 : decode cX3_fact 88 = .ok (.getfield 18, 3) := by decide +kernel
theorem dX3_fact_91 : decode cX3_fact 91 = .ok (.getfield 101, 3) := by decide +kernel
theorem dX3_fact_94 : decode cX3_fact 94 = .ok (.ireturn, 1) := by decide +kernel
theorem dX3_fact_95 : decode cX3_fact 95 = .ok (.aload_n 2, 1) := by decide +kernel
theorem dX3_fact_96 : decode cX3_fact 96 = .ok (.getfield 102, 3) := by decide +kernel
theorem dX3_fact_99 : decode cX3_fact 99 = .ok (.ireturn, 1) := by decide +kernel
theorem dX3_fact_100 : decode cX3_fact 100 = .ok (.aload_n 0, 1) := by decide +kernel
theorem dX3_fact_101 : decode cX3_fact 101 = .ok (.getfield 25, 3) := by decide +kernel
theorem dX3_fact_104 : decode cX3_fact 104 = .ok (.getfield 105, 3) := by decide +kernel
theorem dX3_fact_107 : decode cX3_fact 107 = .ok (.ireturn, 1) := by decide +kernel
theorem dX3_fact_108 : decode cX3_fact 108 = .ok (.aload_n 3, 1) := by decide +kernel
theorem dX3_fact_109 : decode cX3_fact 109 = .ok (.getfield 72, 3) := by decide +kernel
theorem dX3_fact_112 : decode cX3_fact 112 = .ok (.ireturn, 1) := by decide +kernel
theorem dX3_fact_113 : decode cX3_fact 113 = .ok (.aload_n 0, 1) := by decide +kernel
theorem dX3_fact_114 : decode cX3_fact 114 = .ok (.aload_n 2, 1) := by decide +kernel
theorem dX3_fact_115 : decode cX3_fact 115 = .ok (.invokevirtual 106, 3) := by decide +kernel
theorem dX3_fact_118 : decode cX3_fact 118 = .ok (.ireturn, 1) := by decide +kernel
theorem dX3_fact_119 : decode cX3_fact 119 = .ok (.aload_n 0, 1) := by decide +kernel
theorem dX3_fact_120 : decode cX3_fact 120 = .ok (.invokevirtual 110, 3) := by decide +kernel
theorem dX3_fact_123 : decode cX3_fact 123 = .ok (.ireturn, 1) := by decide +kernel
theorem dX3_fact_124 : decode cX3_fact 124 = .ok (.aload_n 0, 1) := by decide +kernel
theorem dX3_fact_125 : decode cX3_fact 125 = .ok (.getfield 9, 3) := by decide +kernel
theorem dX3_fact_128 : decode cX3_fact 128 = .ok (.ireturn, 1) := by decide +kernel
theorem dX3_fact_129 : decode cX3_fact 129 = .ok (.aload_n 0, 1) := by decide +kernel
theorem dX3_fact_130 : decode cX3_fact 130 = .ok (.getfield 45, 3) := by decide +kernel
theorem dX3_fact_133 : decode cX3_fact 133 = .ok (.ireturn, 1) := by decide +kernel
theorem dX3_fact_134 : decode cX3_fact 134 = .ok (.aload_n 0, 1) := by decide +kernel
theorem dX3_fact_135 : decode cX3_fact 135 = .ok (.getfield 39, 3) := by decide +kernel
theorem dX3_fact_138 : decode cX3_fact 138 = .ok (.ireturn, 1) := by decide +kernel
theorem dX3_fact_139 : decode cX3_fact 139 = .ok (.aload_n 0, 1) := by decide +kernel
theorem dX3_fact_140 : decode cX3_fact 140 = .ok (.getfield 42, 3) := by decide +kernel
theorem dX3_fact_143 : decode cX3_fact 143 = .ok (.ireturn, 1) := by decide +kernel
set_option maxRecDepth 20000 in
theorem ggX3_factOfStar_X4_has : GoodIn wsX3_factOfStar wsX4_has := goodIn_r _ [8, 9, 36, 37, 38] (by decide +kernel) (by decide +kernel)
set_option maxRecDepth 20000 in
theorem gX3_factOfStar_X4_has : GoodIn wsX3_factOfStar (wsV RX3 114 RX4 yX4_has wsX4_has) := goodIn_app (goodIn_of _ (by decide +kernel)) ggX3_factOfStar_X4_has
set_option maxRecDepth 20000 in
theorem ggX3_factOfStar_X5_turned : GoodIn wsX3_factOfStar wsX5_turned := goodIn_r _ [12, 13, 14, 15, 16] (by decide +kernel) (by decide +kernel)
set_option maxRecDepth 20000 in
theorem gX3_factOfStar_X5_turned_n64 : GoodIn wsX3_factOfStar (wsX5_turned) := ggX3_factOfStar_X5_turned
set_option maxRecDepth 20000 in
theorem ggX3_factOfStar_X3_starSeen : GoodIn wsX3_factOfStar wsX3_starSeen := goodIn_r _ [21, 1, 3, 2, 4, 5, 6, 7, 8, 9, 10, 11, 12, 13, 14, 15, 16, 22, 23, 24, 20, 25, 26, 27, 28, 29, 30, 31, 32, 33, 34, 35, 36, 37, 38, 39, 40, 41, 42, 43, 44, 45, 46, 47, 48, 49, 50, 51, 52, 53] (by decide +kernel) (by decide +kernel)
set_option maxRecDepth 20000 in
theorem gX3_factOfStar_X3_starSeen : GoodIn wsX3_factOfStar (wsV RX3 124 RX3 yX3_starSeen wsX3_starSeen) := goodIn_app (goodIn_of _ (by decide +kernel)) ggX3_factOfStar_X3_starSeen
theorem dX3_factOfStar_0 : decode cX3_factOfStar 0 = .ok (.aload_n 1, 1) := by decide +kernel
theorem dX3_factOfStar_1 : decode cX3_factOfStar 1 = .ok (.iload_n 2, 1) := by decide +kernel
theorem dX3_factOfStar_2 : decode cX3_factOfStar 2 = .ok (.invokevirtual 114, 3) := by decide +kernel
theorem dX3_factOfStar_5 : decode cX3_factOfStar 5 = .ok (.ifCond .ne 5, 3) := by decide +kernel
theorem dX3_factOfStar_8 : decode cX3_factOfStar 8 = .ok (.iconst (-1), 1) := by decide +kernel
theorem dX3_factOfStar_9 : decode cX3_factOfStar 9 = .ok (.ireturn, 1) := by decide +kernel
theorem dX3_factOfStar_10 : decode cX3_factOfStar 10 = .ok (.iload_n 3, 1) := by decide +kernel
theorem dX3_factOfStar_11 : decode cX3_factOfStar 11 = .ok (.tableswitch 53 0 2 #[25, 32, 39], 25) := by decide +kernel
theorem dX3_factOfStar_36 : decode cX3_factOfStar 36 = .ok (.aload_n 1, 1) := by decide +kernel
theorem dX3_factOfStar_37 : decode cX3_factOfStar 37 = .ok (.getfield 118, 3) := by decide +kernel
theorem dX3_factOfStar_40 : decode cX3_factOfStar 40 = .ok (.iload_n 2, 1) := by decide +kernel
theorem dX3_factOfStar_41 : decode cX3_factOfStar 41 = .ok (.iaload, 1) := by decide +kernel
theorem dX3_factOfStar_42 : decode cX3_factOfStar 42 = .ok (.ireturn, 1) := by decide +kernel
theorem dX3_factOfStar_43 : decode cX3_factOfStar 43 = .ok (.aload_n 1, 1) := by decide +kernel
theorem dX3_factOfStar_44 : decode cX3_factOfStar 44 = .ok (.getfield 121, 3) := by decide +kernel
theorem dX3_factOfStar_47 : decode cX3_factOfStar 47 = .ok (.iload_n 2, 1) := by decide +kernel
theorem dX3_factOfStar_48 : decode cX3_factOfStar 48 = .ok (.iaload, 1) := by decide +kernel
theorem dX3_factOfStar_49 : decode cX3_factOfStar 49 = .ok (.ireturn, 1) := by decide +kernel
theorem dX3_factOfStar_50 : decode cX3_factOfStar 50 = .ok (.aload_n 1, 1) := by decide +kernel
theorem dX3_factOfStar_51 : decode cX3_factOfStar 51 = .ok (.getfield 118, 3) := by decide +kernel
theorem dX3_factOfStar_54 : decode cX3_factOfStar 54 = .ok (.iload_n 2, 1) := by decide +kernel
theorem dX3_factOfStar_55 : decode cX3_factOfStar 55 = .ok (.iaload, 1) := by decide +kernel
theorem dX3_factOfStar_56 : decode cX3_factOfStar 56 = .ok (.aload_n 0, 1) := by decide +kernel
theorem dX3_factOfStar_57 : decode cX3_factOfStar 57 = .ok (.getfield 39, 3) := by decide +kernel
theorem dX3_factOfStar_60 : decode cX3_factOfStar 60 = .ok (.invokestatic 64, 3) := by decide +kernel
theorem dX3_factOfStar_63 : decode cX3_factOfStar 63 = .ok (.ireturn, 1) := by decide +kernel
theorem dX3_factOfStar_64 : decode cX3_factOfStar 64 = .ok (.aload_n 0, 1) := by decide +kernel
theorem dX3_factOfStar_65 : decode cX3_factOfStar 65 = .ok (.aload_n 1, 1) := by decide +kernel
theorem dX3_factOfStar_66 : decode cX3_factOfStar 66 = .ok (.iload_n 2, 1) := by decide +kernel
theorem dX3_factOfStar_67 : decode cX3_factOfStar 67 = .ok (.invokevirtual 124, 3) := by decide +kernel
theorem dX3_factOfStar_70 : decode cX3_factOfStar 70 = .ok (.ifCond .eq 7, 3) := by decide +kernel
theorem dX3_factOfStar_73 : decode cX3_factOfStar 73 = .ok (.iconst 1, 1) := by decide +kernel
theorem dX3_factOfStar_74 : decode cX3_factOfStar 74 = .ok (.goto 4, 3) := by decide +kernel
theorem dX3_factOfStar_77 : decode cX3_factOfStar 77 = .ok (.iconst 0, 1) := by decide +kernel
theorem dX3_factOfStar_78 : decode cX3_factOfStar 78 = .ok (.ireturn, 1) := by decide +kernel
set_option maxRecDepth 20000 in
theorem ggX3_factOfComet_X0_has : GoodIn wsX3_factOfComet wsX0_has := goodIn_r _ [9, 10, 42, 43, 44, 45] (by decide +kernel) (by decide +kernel)
set_option maxRecDepth 20000 in
theorem gX3_factOfComet_X0_has : GoodIn wsX3_factOfComet (wsV RX3 128 RX0 yX0_has wsX0_has) := goodIn_app (goodIn_of _ (by decide +kernel)) ggX3_factOfComet_X0_has
set_option maxRecDepth 20000 in
theorem ggX3_factOfComet_X3_cometSeen : GoodIn wsX3_factOfComet wsX3_cometSeen := goodIn_r _ [15, 1, 4, 2, 5, 6, 7, 8, 9, 10, 16, 17, 18, 14, 19, 20, 21, 22, 23, 24, 25, 26, 27, 28, 29, 30, 31, 32, 33, 34, 35, 36, 37, 38, 39, 40, 41, 42, 43, 44, 45, 46, 47, 48, 49, 50, 51] (by decide +kernel) (by decide +kernel)
set_option maxRecDepth 20000 in
theorem gX3_factOfComet_X3_cometSeen : GoodIn wsX3_factOfComet (wsV RX3 138 RX3 yX3_cometSeen wsX3_cometSeen) := goodIn_app (goodIn_of _ (by decide +kernel)) ggX3_factOfComet_X3_cometSeen
theorem dX3_factOfComet_0 : decode cX3_factOfComet 0 = .ok (.aload_n 0, 1) := by decide +kernel
theorem dX3_factOfComet_1 : decode cX3_factOfComet 1 = .ok (.getfield 25, 3) := by decide +kernel
theorem dX3_factOfComet_4 : decode cX3_factOfComet 4 = .ok (.iload_n 1, 1) := by decide +kernel
theorem dX3_factOfComet_5 : decode cX3_factOfComet 5 = .ok (.invokevirtual 128, 3) := by decide +kernel
theorem dX3_factOfComet_8 : decode cX3_factOfComet 8 = .ok (.ifCond .ne 5, 3) := by decide +kernel
theorem dX3_factOfComet_11 : decode cX3_factOfComet 11 = .ok (.iconst (-1), 1) := by decide +kernel
theorem dX3_factOfComet_12 : decode cX3_factOfComet 12 = .ok (.ireturn, 1) := by decide +kernel
theorem dX3_factOfComet_13 : decode cX3_factOfComet 13 = .ok (.iload_n 2, 1) := by decide +kernel
theorem dX3_factOfComet_14 : decode cX3_factOfComet 14 = .ok (.tableswitch 56 0 2 #[26, 36, 46], 26) := by decide +kernel
theorem dX3_factOfComet_40 : decode cX3_factOfComet 40 = .ok (.aload_n 0, 1) := by decide +kernel
theorem dX3_factOfComet_41 : decode cX3_factOfComet 41 = .ok (.getfield 25, 3) := by decide +kernel
theorem dX3_factOfComet_44 : decode cX3_factOfComet 44 = .ok (.getfield 129, 3) := by decide +kernel
theorem dX3_factOfComet_47 : decode cX3_factOfComet 47 = .ok (.iload_n 1, 1) := by decide +kernel
theorem dX3_factOfComet_48 : decode cX3_factOfComet 48 = .ok (.iaload, 1) := by decide +kernel
theorem dX3_factOfComet_49 : decode cX3_factOfComet 49 = .ok (.ireturn, 1) := by decide +kernel
theorem dX3_factOfComet_50 : decode cX3_factOfComet 50 = .ok (.aload_n 0, 1) := by decide +kernel
theorem dX3_factOfComet_51 : decode cX3_factOfComet 51 = .ok (.getfield 25, 3) := by decide +kernel
theorem dX3_factOfComet_54 : decode cX3_factOfComet 54 = .ok (.getfield 132, 3) := by decide +kernel
theorem dX3_factOfComet_57 : decode cX3_factOfComet 57 = .ok (.iload_n 1, 1) := by decide +kernel
theorem dX3_factOfComet_58 : decode cX3_factOfComet 58 = .ok (.iaload, 1) := by decide +kernel
theorem dX3_factOfComet_59 : decode cX3_factOfComet 59 = .ok (.ireturn, 1) := by decide +kernel
theorem dX3_factOfComet_60 : decode cX3_factOfComet 60 = .ok (.aload_n 0, 1) := by decide +kernel
theorem dX3_factOfComet_61 : decode cX3_factOfComet 61 = .ok (.getfield 25, 3) := by decide +kernel
theorem dX3_factOfComet_64 : decode cX3_factOfComet 64 = .ok (.getfield 135, 3) := by decide +kernel
theorem dX3_factOfComet_67 : decode cX3_factOfComet 67 = .ok (.iload_n 1, 1) := by decide +kernel
theorem dX3_factOfComet_68 : decode cX3_factOfComet 68 = .ok (.iaload, 1) := by decide +kernel
theorem dX3_factOfComet_69 : decode cX3_factOfComet 69 = .ok (.ireturn, 1) := by decide +kernel
theorem dX3_factOfComet_70 : decode cX3_factOfComet 70 = .ok (.aload_n 0, 1) := by decide +kernel
theorem dX3_factOfComet_71 : decode cX3_factOfComet 71 = .ok (.iload_n 1, 1) := by decide +kernel
theorem dX3_factOfComet_72 : decode cX3_factOfComet 72 = .ok (.invokevirtual 138, 3) := by decide +kernel
theorem dX3_factOfComet_75 : decode cX3_factOfComet 75 = .ok (.ifCond .eq 7, 3) := by decide +kernel
theorem dX3_factOfComet_78 : decode cX3_factOfComet 78 = .ok (.iconst 1, 1) := by decide +kernel
theorem dX3_factOfComet_79 : decode cX3_factOfComet 79 = .ok (.goto 4, 3) := by decide +kernel
theorem dX3_factOfComet_82 : decode cX3_factOfComet 82 = .ok (.iconst 0, 1) := by decide +kernel
theorem dX3_factOfComet_83 : decode cX3_factOfComet 83 = .ok (.ireturn, 1) := by decide +kernel
set_option maxRecDepth 20000 in
theorem ggX3_starsSeen_X3_starSeen : GoodIn wsX3_starsSeen wsX3_starSeen := goodIn_r _ [6, 7, 8, 9, 10, 11, 12, 13, 14, 15, 16, 17, 18, 19, 20, 21, 22, 23, 24, 25, 5, 26, 27, 28, 29, 30, 31, 32, 33, 34, 35, 36, 37, 38, 39, 40, 41, 42, 43, 44, 45, 46, 47, 48, 49, 50, 51, 52, 53, 54] (by decide +kernel) (by decide +kernel)
set_option maxRecDepth 20000 in
theorem gX3_starsSeen_X3_starSeen : GoodIn wsX3_starsSeen (wsV RX3 124 RX3 yX3_starSeen wsX3_starSeen) := goodIn_app (goodIn_of _ (by decide +kernel)) ggX3_starsSeen_X3_starSeen
theorem dX3_starsSeen_0 : decode cX3_starsSeen 0 = .ok (.iconst 0, 1) := by decide +kernel
theorem dX3_starsSeen_1 : decode cX3_starsSeen 1 = .ok (.istore_n 2, 1) := by decide +kernel
theorem dX3_starsSeen_2 : decode cX3_starsSeen 2 = .ok (.iconst 0, 1) := by decide +kernel
theorem dX3_starsSeen_3 : decode cX3_starsSeen 3 = .ok (.istore_n 3, 1) := by decide +kernel
theorem dX3_starsSeen_4 : decode cX3_starsSeen 4 = .ok (.iload_n 3, 1) := by decide +kernel
theorem dX3_starsSeen_5 : decode cX3_starsSeen 5 = .ok (.aload_n 1, 1) := by decide +kernel
theorem dX3_starsSeen_6 : decode cX3_starsSeen 6 = .ok (.getfield 102, 3) := by decide +kernel
theorem dX3_starsSeen_9 : decode cX3_starsSeen 9 = .ok (.if_icmp .ge 21, 3) := by decide +kernel
theorem dX3_starsSeen_12 : decode cX3_starsSeen 12 = .ok (.aload_n 0, 1) := by decide +kernel
theorem dX3_starsSeen_13 : decode cX3_starsSeen 13 = .ok (.aload_n 1, 1) := by decide +kernel
theorem dX3_starsSeen_14 : decode cX3_starsSeen 14 = .ok (.iload_n 3, 1) := by decide +kernel
theorem dX3_starsSeen_15 : decode cX3_starsSeen 15 = .ok (.invokevirtual 124, 3) := by decide +kernel
theorem dX3_starsSeen_18 : decode cX3_starsSeen 18 = .ok (.ifCond .eq 6, 3) := by decide +kernel
theorem dX3_starsSeen_21 : decode cX3_starsSeen 21 = .ok (.iinc 2 1, 3) := by decide +kernel
theorem dX3_starsSeen_24 : decode cX3_starsSeen 24 = .ok (.iinc 3 1, 3) := by decide +kernel
theorem dX3_starsSeen_27 : decode cX3_starsSeen 27 = .ok (.goto (-23), 3) := by decide +kernel
theorem dX3_starsSeen_30 : decode cX3_starsSeen 30 = .ok (.iload_n 2, 1) := by decide +kernel
theorem dX3_starsSeen_31 : decode cX3_starsSeen 31 = .ok (.ireturn, 1) := by decide +kernel
set_option maxRecDepth 20000 in
theorem ggX3_cometsSeen_X3_cometSeen : GoodIn wsX3_cometsSeen wsX3_cometSeen := goodIn_r _ [7, 1, 8, 9, 10, 11, 12, 13, 14, 15, 16, 17, 18, 6, 19, 20, 21, 22, 23, 24, 25, 26, 27, 28, 29, 30, 31, 32, 33, 34, 35, 36, 37, 38, 39, 40, 41, 42, 43, 44, 45, 46, 47, 48, 49, 50, 51] (by decide +kernel) (by decide +kernel)
set_option maxRecDepth 20000 in
theorem gX3_cometsSeen_X3_cometSeen : GoodIn wsX3_cometsSeen (wsV RX3 138 RX3 yX3_cometSeen wsX3_cometSeen) := goodIn_app (goodIn_of _ (by decide +kernel)) ggX3_cometsSeen_X3_cometSeen
theorem dX3_cometsSeen_0 : decode cX3_cometsSeen 0 = .ok (.iconst 0, 1) := by decide +kernel
theorem dX3_cometsSeen_1 : decode cX3_cometsSeen 1 = .ok (.istore_n 1, 1) := by decide +kernel
theorem dX3_cometsSeen_2 : decode cX3_cometsSeen 2 = .ok (.iconst 0, 1) := by decide +kernel
theorem dX3_cometsSeen_3 : decode cX3_cometsSeen 3 = .ok (.istore_n 2, 1) := by decide +kernel
theorem dX3_cometsSeen_4 : decode cX3_cometsSeen 4 = .ok (.iload_n 2, 1) := by decide +kernel
theorem dX3_cometsSeen_5 : decode cX3_cometsSeen 5 = .ok (.aload_n 0, 1) := by decide +kernel
theorem dX3_cometsSeen_6 : decode cX3_cometsSeen 6 = .ok (.getfield 25, 3) := by decide +kernel
theorem dX3_cometsSeen_9 : decode cX3_cometsSeen 9 = .ok (.getfield 105, 3) := by decide +kernel
theorem dX3_cometsSeen_12 : decode cX3_cometsSeen 12 = .ok (.if_icmp .ge 20, 3) := by decide +kernel
theorem dX3_cometsSeen_15 : decode cX3_cometsSeen 15 = .ok (.aload_n 0, 1) := by decide +kernel
theorem dX3_cometsSeen_16 : decode cX3_cometsSeen 16 = .ok (.iload_n 2, 1) := by decide +kernel
theorem dX3_cometsSeen_17 : decode cX3_cometsSeen 17 = .ok (.invokevirtual 138, 3) := by decide +kernel
theorem dX3_cometsSeen_20 : decode cX3_cometsSeen 20 = .ok (.ifCond .eq 6, 3) := by decide +kernel
theorem dX3_cometsSeen_23 : decode cX3_cometsSeen 23 = .ok (.iinc 1 1, 3) := by decide +kernel
theorem dX3_cometsSeen_26 : decode cX3_cometsSeen 26 = .ok (.iinc 2 1, 3) := by decide +kernel
theorem dX3_cometsSeen_29 : decode cX3_cometsSeen 29 = .ok (.goto (-25), 3) := by decide +kernel
theorem dX3_cometsSeen_32 : decode cX3_cometsSeen 32 = .ok (.iload_n 1, 1) := by decide +kernel
theorem dX3_cometsSeen_33 : decode cX3_cometsSeen 33 = .ok (.ireturn, 1) := by decide +kernel
set_option maxRecDepth 20000 in
theorem ggX3_starSeen_X4_has : GoodIn wsX3_starSeen wsX4_has := goodIn_r _ [8, 9, 32, 33, 34] (by decide +kernel) (by decide +kernel)
set_option maxRecDepth 20000 in
theorem gX3_starSeen_X4_has : GoodIn wsX3_starSeen (wsV RX3 114 RX4 yX4_has wsX4_has) := goodIn_app (goodIn_of _ (by decide +kernel)) ggX3_starSeen_X4_has
set_option maxRecDepth 20000 in
theorem ggX3_starSeen_X5_turned : GoodIn wsX3_starSeen wsX5_turned := goodIn_r _ [12, 13, 14, 15, 16] (by decide +kernel) (by decide +kernel)
set_option maxRecDepth 20000 in
theorem gX3_starSeen_X5_turned_n64 : GoodIn wsX3_starSeen (wsX5_turned) := ggX3_starSeen_X5_turned
set_option maxRecDepth 20000 in
theorem ggX3_starSeen_X3_outshines : GoodIn wsX3_starSeen wsX3_outshines := goodIn_r _ [21, 22, 23, 24, 25, 26, 27, 28, 29, 30, 31, 14, 15, 16, 35, 36, 37, 38, 39, 40, 41, 42, 43, 44, 45, 46, 47, 48, 49] (by decide +kernel) (by decide +kernel)
set_option maxRecDepth 20000 in
theorem gX3_starSeen_X3_outshines : GoodIn wsX3_starSeen (wsV RX3 141 RX3 yX3_outshines wsX3_outshines) := goodIn_app (goodIn_of _ (by decide +kernel)) ggX3_starSeen_X3_outshines
theorem dX3_starSeen_0 : decode cX3_starSeen 0 = .ok (.aload_n 1, 1) := by decide +kernel
theorem dX3_starSeen_1 : decode cX3_starSeen 1 = .ok (.iload_n 2, 1) := by decide +kernel
theorem dX3_starSeen_2 : decode cX3_starSeen 2 = .ok (.invokevirtual 114, 3) := by decide +kernel
theorem dX3_starSeen_5 : decode cX3_starSeen 5 = .ok (.ifCond .eq 33, 3) := by decide +kernel
theorem dX3_starSeen_8 : decode cX3_starSeen 8 = .ok (.aload_n 0, 1) := by decide +kernel
theorem dX3_starSeen_9 : decode cX3_starSeen 9 = .ok (.aload_n 1, 1) := by decide +kernel
theorem dX3_starSeen_10 : decode cX3_starSeen 10 = .ok (.getfield 118, 3) := by decide +kernel
theorem dX3_starSeen_13 : decode cX3_starSeen 13 = .ok (.iload_n 2, 1) := by decide +kernel
theorem dX3_starSeen_14 : decode cX3_starSeen 14 = .ok (.iaload, 1) := by decide +kernel
theorem dX3_starSeen_15 : decode cX3_starSeen 15 = .ok (.aload_n 0, 1) := by decide +kernel
theorem dX3_starSeen_16 : decode cX3_starSeen 16 = .ok (.getfield 39, 3) := by decide +kernel
theorem dX3_starSeen_19 : decode cX3_starSeen 19 = .ok (.invokestatic 64, 3) := by decide +kernel
theorem dX3_starSeen_22 : decode cX3_starSeen 22 = .ok (.aload_n 1, 1) := by decide +kernel
theorem dX3_starSeen_23 : decode cX3_starSeen 23 = .ok (.getfield 121, 3) := by decide +kernel
theorem dX3_starSeen_26 : decode cX3_starSeen 26 = .ok (.iload_n 2, 1) := by decide +kernel
theorem dX3_starSeen_27 : decode cX3_starSeen 27 = .ok (.iaload, 1) := by decide +kernel
theorem dX3_starSeen_28 : decode cX3_starSeen 28 = .ok (.invokevirtual 141, 3) := by decide +kernel
theorem dX3_starSeen_31 : decode cX3_starSeen 31 = .ok (.ifCond .eq 7, 3) := by decide +kernel
theorem dX3_starSeen_34 : decode cX3_starSeen 34 = .ok (.iconst 1, 1) := by decide +kernel
theorem dX3_starSeen_35 : decode cX3_starSeen 35 = .ok (.goto 4, 3) := by decide +kernel
theorem dX3_starSeen_38 : decode cX3_starSeen 38 = .ok (.iconst 0, 1) := by decide +kernel
theorem dX3_starSeen_39 : decode cX3_starSeen 39 = .ok (.ireturn, 1) := by decide +kernel
set_option maxRecDepth 20000 in
theorem ggX3_cometSeen_X0_has : GoodIn wsX3_cometSeen wsX0_has := goodIn_r _ [8, 9, 37, 38, 39, 40] (by decide +kernel) (by decide +kernel)
set_option maxRecDepth 20000 in
theorem gX3_cometSeen_X0_has : GoodIn wsX3_cometSeen (wsV RX3 128 RX0 yX0_has wsX0_has) := goodIn_app (goodIn_of _ (by decide +kernel)) ggX3_cometSeen_X0_has
set_option maxRecDepth 20000 in
theorem ggX3_cometSeen_X3_outshines : GoodIn wsX3_cometSeen wsX3_outshines := goodIn_r _ [14, 15, 16, 17, 18, 19, 20, 21, 22, 23, 24, 25, 26, 27, 28, 29, 30, 31, 32, 33, 34, 35, 36, 41, 42, 43, 44, 45, 46] (by decide +kernel) (by decide +kernel)
set_option maxRecDepth 20000 in
theorem gX3_cometSeen_X3_outshines : GoodIn wsX3_cometSeen (wsV RX3 141 RX3 yX3_outshines wsX3_outshines) := goodIn_app (goodIn_of _ (by decide +kernel)) ggX3_cometSeen_X3_outshines
theorem dX3_cometSeen_0 : decode cX3_cometSeen 0 = .ok (.aload_n 0, 1) := by decide +kernel
theorem dX3_cometSeen_1 : decode cX3_cometSeen 1 = .ok (.getfield 25, 3) := by decide +kernel
theorem dX3_cometSeen_4 : decode cX3_cometSeen 4 = .ok (.iload_n 1, 1) := by decide +kernel
theorem dX3_cometSeen_5 : decode cX3_cometSeen 5 = .ok (.invokevirtual 128, 3) := by decide +kernel
theorem dX3_cometSeen_8 : decode cX3_cometSeen 8 = .ok (.ifCond .eq 37, 3) := by decide +kernel
theorem dX3_cometSeen_11 : decode cX3_cometSeen 11 = .ok (.aload_n 0, 1) := by decide +kernel
theorem dX3_cometSeen_12 : decode cX3_cometSeen 12 = .ok (.getfield 25, 3) := by decide +kernel
theorem dX3_cometSeen_15 : decode cX3_cometSeen 15 = .ok (.getfield 135, 3) := by decide +kernel
theorem dX3_cometSeen_18 : decode cX3_cometSeen 18 = .ok (.iload_n 1, 1) := by decide +kernel
theorem dX3_cometSeen_19 : decode cX3_cometSeen 19 = .ok (.iaload, 1) := by decide +kernel
theorem dX3_cometSeen_20 : decode cX3_cometSeen 20 = .ok (.ifCond .le 25, 3) := by decide +kernel
theorem dX3_cometSeen_23 : decode cX3_cometSeen 23 = .ok (.aload_n 0, 1) := by decide +kernel
theorem dX3_cometSeen_24 : decode cX3_cometSeen 24 = .ok (.aload_n 0, 1) := by decide +kernel
theorem dX3_cometSeen_25 : decode cX3_cometSeen 25 = .ok (.getfield 25, 3) := by decide +kernel
theorem dX3_cometSeen_28 : decode cX3_cometSeen 28 = .ok (.getfield 129, 3) := by decide +kernel
theorem dX3_cometSeen_31 : decode cX3_cometSeen 31 = .ok (.iload_n 1, 1) := by decide +kernel
theorem dX3_cometSeen_32 : decode cX3_cometSeen 32 = .ok (.iaload, 1) := by decide +kernel
theorem dX3_cometSeen_33 : decode cX3_cometSeen 33 = .ok (.bipush 6, 2) := by decide +kernel
theorem dX3_cometSeen_35 : decode cX3_cometSeen 35 = .ok (.invokevirtual 141, 3) := by decide +kernel
theorem dX3_cometSeen_38 : decode cX3_cometSeen 38 = .ok (.ifCond .eq 7, 3) := by decide +kernel
theorem dX3_cometSeen_41 : decode cX3_cometSeen 41 = .ok (.iconst 1, 1) := by decide +kernel
theorem dX3_cometSeen_42 : decode cX3_cometSeen 42 = .ok (.goto 4, 3) := by decide +kernel
theorem dX3_cometSeen_45 : decode cX3_cometSeen 45 = .ok (.iconst 0, 1) := by decide +kernel
theorem dX3_cometSeen_46 : decode cX3_cometSeen 46 = .ok (.ireturn, 1) := by decide +kernel
set_option maxRecDepth 20000 in
theorem ggX3_outshines_X2_glareOn : GoodIn wsX3_outshines wsX2_glareOn := goodIn_r _ [6, 7, 8, 9, 10, 11, 12, 13, 23, 24, 25, 26, 27, 28] (by decide +kernel) (by decide +kernel)
set_option maxRecDepth 20000 in
theorem gX3_outshines_X2_glareOn : GoodIn wsX3_outshines (wsV RX3 145 RX2 yX2_glareOn wsX2_glareOn) := goodIn_app (goodIn_of _ (by decide +kernel)) ggX3_outshines_X2_glareOn
theorem dX3_outshines_0 : decode cX3_outshines 0 = .ok (.bipush 10, 2) := by decide +kernel
theorem dX3_outshines_2 : decode cX3_outshines 2 = .ok (.iload_n 2, 1) := by decide +kernel
theorem dX3_outshines_3 : decode cX3_outshines 3 = .ok (.imul, 1) := by decide +kernel
theorem dX3_outshines_4 : decode cX3_outshines 4 = .ok (.aload_n 0, 1) := by decide +kernel
theorem dX3_outshines_5 : decode cX3_outshines 5 = .ok (.getfield 18, 3) := by decide +kernel
theorem dX3_outshines_8 : decode cX3_outshines 8 = .ok (.iload_n 1, 1) := by decide +kernel
theorem dX3_outshines_9 : decode cX3_outshines 9 = .ok (.bipush 30, 2) := by decide +kernel
theorem dX3_outshines_11 : decode cX3_outshines 11 = .ok (.idiv, 1) := by decide +kernel
theorem dX3_outshines_12 : decode cX3_outshines 12 = .ok (.invokevirtual 145, 3) := by decide +kernel
theorem dX3_outshines_15 : decode cX3_outshines 15 = .ok (.if_icmp .le 7, 3) := by decide +kernel
theorem dX3_outshines_18 : decode cX3_outshines 18 = .ok (.iconst 1, 1) := by decide +kernel
theorem dX3_outshines_19 : decode cX3_outshines 19 = .ok (.goto 4, 3) := by decide +kernel
theorem dX3_outshines_22 : decode cX3_outshines 22 = .ok (.iconst 0, 1) := by decide +kernel
theorem dX3_outshines_23 : decode cX3_outshines 23 = .ok (.ireturn, 1) := by decide +kernel
theorem dX4_init_0 : decode cX4_init 0 = .ok (.aload_n 0, 1) := by decide +kernel
theorem dX4_init_1 : decode cX4_init 1 = .ok (.invokespecial 3, 3) := by decide +kernel
theorem dX4_init_4 : decode cX4_init 4 = .ok (.aload_n 0, 1) := by decide +kernel
theorem dX4_init_5 : decode cX4_init 5 = .ok (.bipush 20, 2) := by decide +kernel
theorem dX4_init_7 : decode cX4_init 7 = .ok (.newarray .int, 2) := by decide +kernel
theorem dX4_init_9 : decode cX4_init 9 = .ok (.putfield 9, 3) := by decide +kernel
theorem dX4_init_12 : decode cX4_init 12 = .ok (.aload_n 0, 1) := by decide +kernel
theorem dX4_init_13 : decode cX4_init 13 = .ok (.bipush 20, 2) := by decide +kernel
theorem dX4_init_15 : decode cX4_init 15 = .ok (.newarray .int, 2) := by decide +kernel
theorem dX4_init_17 : decode cX4_init 17 = .ok (.putfield 15, 3) := by decide +kernel
theorem dX4_init_20 : decode cX4_init 20 = .ok (.return_, 1) := by decide +kernel
theorem dX4_has_0 : decode cX4_has 0 = .ok (.iload_n 1, 1) := by decide +kernel
theorem dX4_has_1 : decode cX4_has 1 = .ok (.ifCond .lt 15, 3) := by decide +kernel
theorem dX4_has_4 : decode cX4_has 4 = .ok (.iload_n 1, 1) := by decide +kernel
theorem dX4_has_5 : decode cX4_has 5 = .ok (.aload_n 0, 1) := by decide +kernel
theorem dX4_has_6 : decode cX4_has 6 = .ok (.getfield 18, 3) := by decide +kernel
theorem dX4_has_9 : decode cX4_has 9 = .ok (.if_icmp .ge 7, 3) := by decide +kernel
theorem dX4_has_12 : decode cX4_has 12 = .ok (.iconst 1, 1) := by decide +kernel
theorem dX4_has_13 : decode cX4_has 13 = .ok (.goto 4, 3) := by decide +kernel
theorem dX4_has_16 : decode cX4_has 16 = .ok (.iconst 0, 1) := by decide +kernel
theorem dX4_has_17 : decode cX4_has 17 = .ok (.ireturn, 1) := by decide +kernel
theorem dX4_add_0 : decode cX4_add 0 = .ok (.aload_n 0, 1) := by decide +kernel
theorem dX4_add_1 : decode cX4_add 1 = .ok (.getfield 18, 3) := by decide +kernel
theorem dX4_add_4 : decode cX4_add 4 = .ok (.bipush 20, 2) := by decide +kernel
theorem dX4_add_6 : decode cX4_add 6 = .ok (.if_icmp .lt 5, 3) := by decide +kernel
theorem dX4_add_9 : decode cX4_add 9 = .ok (.iconst (-1), 1) := by decide +kernel
theorem dX4_add_10 : decode cX4_add 10 = .ok (.ireturn, 1) := by decide +kernel
theorem dX4_add_11 : decode cX4_add 11 = .ok (.aload_n 0, 1) := by decide +kernel
theorem dX4_add_12 : decode cX4_add 12 = .ok (.getfield 18, 3) := by decide +kernel
theorem dX4_add_15 : decode cX4_add 15 = .ok (.istore_n 3, 1) := by decide +kernel
theorem dX4_add_16 : decode cX4_add 16 = .ok (.aload_n 0, 1) := by decide +kernel
theorem dX4_add_17 : decode cX4_add 17 = .ok (.getfield 9, 3) := by decide +kernel
theorem dX4_add_20 : decode cX4_add 20 = .ok (.iload_n 3, 1) := by decide +kernel
theorem dX4_add_21 : decode cX4_add 21 = .ok (.iload_n 1, 1) := by decide +kernel
theorem dX4_add_22 : decode cX4_add 22 = .ok (.iastore, 1) := by decide +kernel
theorem dX4_add_23 : decode cX4_add 23 = .ok (.aload_n 0, 1) := by decide +kernel
theorem dX4_add_24 : decode cX4_add 24 = .ok (.getfield 15, 3) := by decide +kernel
theorem dX4_add_27 : decode cX4_add 27 = .ok (.iload_n 3, 1) := by decide +kernel
theorem dX4_add_28 : decode cX4_add 28 = .ok (.iload_n 2, 1) := by decide +kernel
theorem dX4_add_29 : decode cX4_add 29 = .ok (.iastore, 1) := by decide +kernel
theorem dX4_add_30 : decode cX4_add 30 = .ok (.aload_n 0, 1) := by decide +kernel
theorem dX4_add_31 : decode cX4_add 31 = .ok (.iload_n 3, 1) := by decide +kernel
theorem dX4_add_32 : decode cX4_add 32 = .ok (.iconst 1, 1) := by decide +kernel
theorem dX4_add_33 : decode cX4_add 33 = .ok (.iadd, 1) := by decide +kernel
theorem dX4_add_34 : decode cX4_add 34 = .ok (.putfield 18, 3) := by decide +kernel
theorem dX4_add_37 : decode cX4_add 37 = .ok (.iload_n 3, 1) := by decide +kernel
theorem dX4_add_38 : decode cX4_add 38 = .ok (.ireturn, 1) := by decide +kernel
set_option maxRecDepth 20000 in
theorem ggX5_init_X4_init : GoodIn wsX5_init wsX4_init := goodIn_r _ [18, 19, 2, 3, 20, 21, 22, 56, 57, 58] (by decide +kernel) (by decide +kernel)
set_option maxRecDepth 20000 in
theorem gX5_init_X4_init_n9 : GoodIn wsX5_init (wsX4_init) := ggX5_init_X4_init
set_option maxRecDepth 20000 in
theorem ggX5_init_X1_init : GoodIn wsX5_init wsX1_init := goodIn_r _ [24, 25, 2, 3, 20, 26, 27, 28, 29, 63, 64, 65, 66, 67] (by decide +kernel) (by decide +kernel)
set_option maxRecDepth 20000 in
theorem gX5_init_X1_init_n18 : GoodIn wsX5_init (wsX1_init) := ggX5_init_X1_init
set_option maxRecDepth 20000 in
theorem ggX5_init_X3_init : GoodIn wsX5_init wsX3_init := goodIn_r _ [31, 32, 2, 3, 33, 34, 35, 36, 37, 38, 39, 40, 41, 42, 43, 44, 20, 45, 46, 47, 48, 49, 50, 51, 52, 53, 54, 55, 68, 69, 70, 71, 72, 73, 74, 75, 76, 77, 78, 79, 80, 81, 82, 83, 84, 85, 86] (by decide +kernel) (by decide +kernel)
set_option maxRecDepth 20000 in
theorem gX5_init_X3_init_n25 : GoodIn wsX5_init (wsX3_init) := ggX5_init_X3_init
theorem dX5_init_0 : decode cX5_init 0 = .ok (.aload_n 0, 1) := by decide +kernel
theorem dX5_init_1 : decode cX5_init 1 = .ok (.invokespecial 1, 3) := by decide +kernel
theorem dX5_init_4 : decode cX5_init 4 = .ok (.aload_n 0, 1) := by decide +kernel
theorem dX5_init_5 : decode cX5_init 5 = .ok (.new 7, 3) := by decide +kernel
theorem dX5_init_8 : decode cX5_init 8 = .ok (.dup, 1) := by decide +kernel
theorem dX5_init_9 : decode cX5_init 9 = .ok (.invokespecial 9, 3) := by decide +kernel
theorem dX5_init_12 : decode cX5_init 12 = .ok (.putfield 10, 3) := by decide +kernel
theorem dX5_init_15 : decode cX5_init 15 = .ok (.aload_n 0, 1) := by decide +kernel
theorem dX5_init_16 : decode cX5_init 16 = .ok (.new 16, 3) := by decide +kernel
theorem dX5_init_19 : decode cX5_init 19 = .ok (.dup, 1) := by decide +kernel
theorem dX5_init_20 : decode cX5_init 20 = .ok (.invokespecial 18, 3) := by decide +kernel
theorem dX5_init_23 : decode cX5_init 23 = .ok (.putfield 19, 3) := by decide +kernel
theorem dX5_init_26 : decode cX5_init 26 = .ok (.aload_n 0, 1) := by decide +kernel
theorem dX5_init_27 : decode cX5_init 27 = .ok (.new 23, 3) := by decide +kernel
theorem dX5_init_30 : decode cX5_init 30 = .ok (.dup, 1) := by decide +kernel
theorem dX5_init_31 : decode cX5_init 31 = .ok (.invokespecial 25, 3) := by decide +kernel
theorem dX5_init_34 : decode cX5_init 34 = .ok (.putfield 26, 3) := by decide +kernel
theorem dX5_init_37 : decode cX5_init 37 = .ok (.aload_n 0, 1) := by decide +kernel
theorem dX5_init_38 : decode cX5_init 38 = .ok (.new 23, 3) := by decide +kernel
theorem dX5_init_41 : decode cX5_init 41 = .ok (.dup, 1) := by decide +kernel
theorem dX5_init_42 : decode cX5_init 42 = .ok (.invokespecial 25, 3) := by decide +kernel
theorem dX5_init_45 : decode cX5_init 45 = .ok (.putfield 30, 3) := by decide +kernel
theorem dX5_init_48 : decode cX5_init 48 = .ok (.return_, 1) := by decide +kernel
set_option maxRecDepth 20000 in
theorem ggX5_dimmer_X5_within : GoodIn wsX5_dimmer wsX5_within := goodIn_r _ [11] (by decide +kernel) (by decide +kernel)
set_option maxRecDepth 20000 in
theorem gX5_dimmer_X5_within : GoodIn wsX5_dimmer (va_wsS RX5 33 yX5_within wsX5_within) := goodIn_app (goodIn_of _ (by decide +kernel)) ggX5_dimmer_X5_within
set_option maxRecDepth 20000 in
theorem ggX5_dimmer_X2_add : GoodIn wsX5_dimmer wsX2_add := goodIn_r _ [16, 17, 18, 19, 20, 21, 22, 36, 37, 38, 39, 40, 41] (by decide +kernel) (by decide +kernel)
set_option maxRecDepth 20000 in
theorem gX5_dimmer_X2_add : GoodIn wsX5_dimmer (wsV RX5 63 RX2 yX2_add wsX2_add) := goodIn_app (goodIn_of _ (by decide +kernel)) ggX5_dimmer_X2_add
theorem dX5_dimmer_0 : decode cX5_dimmer 0 = .ok (.iload_n 1, 1) := by decide +kernel
theorem dX5_dimmer_1 : decode cX5_dimmer 1 = .ok (.iconst 0, 1) := by decide +kernel
theorem dX5_dimmer_2 : decode cX5_dimmer 2 = .ok (.bipush 11, 2) := by decide +kernel
theorem dX5_dimmer_4 : decode cX5_dimmer 4 = .ok (.invokestatic 33, 3) := by decide +kernel
theorem dX5_dimmer_7 : decode cX5_dimmer 7 = .ok (.ifCond .ne 13, 3) := by decide +kernel
theorem dX5_dimmer_10 : decode cX5_dimmer 10 = .ok (.new 37, 3) := by decide +kernel
theorem dX5_dimmer_13 : decode cX5_dimmer 13 = .ok (.dup, 1) := by decide +kernel
theorem dX5_dimmer_14 : decode cX5_dimmer 14 = .ok (.ldc 39, 2) := by decide +kernel
theorem dX5_dimmer_16 : decode cX5_dimmer 16 = .ok (.invokespecial 41, 3) := by decide +kernel
theorem dX5_dimmer_19 : decode cX5_dimmer 19 = .ok (.athrow, 1) := by decide +kernel
theorem dX5_dimmer_20 : decode cX5_dimmer 20 = .ok (.iload_n 2, 1) := by decide +kernel
theorem dX5_dimmer_21 : decode cX5_dimmer 21 = .ok (.iconst 1, 1) := by decide +kernel
theorem dX5_dimmer_22 : decode cX5_dimmer 22 = .ok (.bipush 50, 2) := by decide +kernel
theorem dX5_dimmer_24 : decode cX5_dimmer 24 = .ok (.invokestatic 33, 3) := by decide +kernel
theorem dX5_dimmer_27 : decode cX5_dimmer 27 = .ok (.ifCond .ne 13, 3) := by decide +kernel
theorem dX5_dimmer_30 : decode cX5_dimmer 30 = .ok (.new 37, 3) := by decide +kernel
theorem dX5_dimmer_33 : decode cX5_dimmer 33 = .ok (.dup, 1) := by decide +kernel
theorem dX5_dimmer_34 : decode cX5_dimmer 34 = .ok (.ldc 44, 2) := by decide +kernel
theorem dX5_dimmer_36 : decode cX5_dimmer 36 = .ok (.invokespecial 41, 3) := by decide +kernel
theorem dX5_dimmer_39 : decode cX5_dimmer 39 = .ok (.athrow, 1) := by decide +kernel
theorem dX5_dimmer_40 : decode cX5_dimmer 40 = .ok (.iload_n 3, 1) := by decide +kernel
theorem dX5_dimmer_41 : decode cX5_dimmer 41 = .ok (.iconst 0, 1) := by decide +kernel
theorem dX5_dimmer_42 : decode cX5_dimmer 42 = .ok (.sipush 9999, 3) := by decide +kernel
theorem dX5_dimmer_45 : decode cX5_dimmer 45 = .ok (.invokestatic 33, 3) := by decide +kernel
theorem dX5_dimmer_48 : decode cX5_dimmer 48 = .ok (.ifCond .ne 13, 3) := by decide +kernel
theorem dX5_dimmer_51 : decode cX5_dimmer 51 = .ok (.new 37, 3) := by decide +kernel
theorem dX5_dimmer_54 : decode cX5_dimmer 54 = .ok (.dup, 1) := by decide +kernel
theorem dX5_dimmer_55 : decode cX5_dimmer 55 = .ok (.ldc 46, 2) := by decide +kernel
theorem dX5_dimmer_57 : decode cX5_dimmer 57 = .ok (.invokespecial 41, 3) := by decide +kernel
theorem dX5_dimmer_60 : decode cX5_dimmer 60 = .ok (.athrow, 1) := by decide +kernel
theorem dX5_dimmer_61 : decode cX5_dimmer 61 = .ok (.aload_n 0, 1) := by decide +kernel
theorem dX5_dimmer_62 : decode cX5_dimmer 62 = .ok (.getfield 26, 3) := by decide +kernel
theorem dX5_dimmer_65 : decode cX5_dimmer 65 = .ok (.getfield 48, 3) := by decide +kernel
theorem dX5_dimmer_68 : decode cX5_dimmer 68 = .ok (.getfield 52, 3) := by decide +kernel
theorem dX5_dimmer_71 : decode cX5_dimmer 71 = .ok (.bipush 8, 2) := by decide +kernel
theorem dX5_dimmer_73 : decode cX5_dimmer 73 = .ok (.if_icmp .lt 13, 3) := by decide +kernel
theorem dX5_dimmer_76 : decode cX5_dimmer 76 = .ok (.new 58, 3) := by decide +kernel
theorem dX5_dimmer_79 : decode cX5_dimmer 79 = .ok (.dup, 1) := by decide +kernel
theorem dX5_dimmer_80 : decode cX5_dimmer 80 = .ok (.ldc 60, 2) := by decide +kernel
theorem dX5_dimmer_82 : decode cX5_dimmer 82 = .ok (.invokespecial 62, 3) := by decide +kernel
theorem dX5_dimmer_85 : decode cX5_dimmer 85 = .ok (.athrow, 1) := by decide +kernel
theorem dX5_dimmer_86 : decode cX5_dimmer 86 = .ok (.aload_n 0, 1) := by decide +kernel
theorem dX5_dimmer_87 : decode cX5_dimmer 87 = .ok (.getfield 26, 3) := by decide +kernel
theorem dX5_dimmer_90 : decode cX5_dimmer 90 = .ok (.getfield 48, 3) := by decide +kernel
theorem dX5_dimmer_93 : decode cX5_dimmer 93 = .ok (.iload_n 1, 1) := by decide +kernel
theorem dX5_dimmer_94 : decode cX5_dimmer 94 = .ok (.iload_n 2, 1) := by decide +kernel
theorem dX5_dimmer_95 : decode cX5_dimmer 95 = .ok (.iload_n 3, 1) := by decide +kernel
theorem dX5_dimmer_96 : decode cX5_dimmer 96 = .ok (.invokevirtual 63, 3) := by decide +kernel
theorem dX5_dimmer_99 : decode cX5_dimmer 99 = .ok (.ireturn, 1) := by decide +kernel
set_option maxRecDepth 20000 in
theorem ggX5_lamp_X2_has : GoodIn wsX5_lamp wsX2_has := goodIn_r _ [11, 12, 41, 42, 43, 44, 45, 46] (by decide +kernel) (by decide +kernel)
set_option maxRecDepth 20000 in
theorem gX5_lamp_X2_has : GoodIn wsX5_lamp (wsV RX5 67 RX2 yX2_has wsX2_has) := goodIn_app (goodIn_of _ (by decide +kernel)) ggX5_lamp_X2_has
set_option maxRecDepth 20000 in
theorem ggX5_lamp_X5_within : GoodIn wsX5_lamp wsX5_within := goodIn_r _ [16] (by decide +kernel) (by decide +kernel)
set_option maxRecDepth 20000 in
theorem gX5_lamp_X5_within : GoodIn wsX5_lamp (va_wsS RX5 33 yX5_within wsX5_within) := goodIn_app (goodIn_of _ (by decide +kernel)) ggX5_lamp_X5_within
set_option maxRecDepth 20000 in
theorem ggX5_lamp_X2_changeLamp : GoodIn wsX5_lamp wsX2_changeLamp := goodIn_r _ [20, 21, 22, 8, 9, 10, 11, 12, 23, 24, 25, 26, 27, 41, 42, 43, 44, 45, 46] (by decide +kernel) (by decide +kernel)
set_option maxRecDepth 20000 in
theorem gX5_lamp_X2_changeLamp : GoodIn wsX5_lamp (wsV RX5 76 RX2 yX2_changeLamp wsX2_changeLamp) := goodIn_app (goodIn_of _ (by decide +kernel)) ggX5_lamp_X2_changeLamp
theorem dX5_lamp_0 : decode cX5_lamp 0 = .ok (.aload_n 0, 1) := by decide +kernel
theorem dX5_lamp_1 : decode cX5_lamp 1 = .ok (.getfield 26, 3) := by decide +kernel
theorem dX5_lamp_4 : decode cX5_lamp 4 = .ok (.getfield 48, 3) := by decide +kernel
theorem dX5_lamp_7 : decode cX5_lamp 7 = .ok (.iload_n 1, 1) := by decide +kernel
theorem dX5_lamp_8 : decode cX5_lamp 8 = .ok (.invokevirtual 67, 3) := by decide +kernel
theorem dX5_lamp_11 : decode cX5_lamp 11 = .ok (.ifCond .ne 13, 3) := by decide +kernel
theorem dX5_lamp_14 : decode cX5_lamp 14 = .ok (.new 71, 3) := by decide +kernel
theorem dX5_lamp_17 : decode cX5_lamp 17 = .ok (.dup, 1) := by decide +kernel
theorem dX5_lamp_18 : decode cX5_lamp 18 = .ok (.ldc 73, 2) := by decide +kernel
theorem dX5_lamp_20 : decode cX5_lamp 20 = .ok (.invokespecial 75, 3) := by decide +kernel
theorem dX5_lamp_23 : decode cX5_lamp 23 = .ok (.athrow, 1) := by decide +kernel
theorem dX5_lamp_24 : decode cX5_lamp 24 = .ok (.iload_n 2, 1) := by decide +kernel
theorem dX5_lamp_25 : decode cX5_lamp 25 = .ok (.iconst 0, 1) := by decide +kernel
theorem dX5_lamp_26 : decode cX5_lamp 26 = .ok (.sipush 9999, 3) := by decide +kernel
theorem dX5_lamp_29 : decode cX5_lamp 29 = .ok (.invokestatic 33, 3) := by decide +kernel
theorem dX5_lamp_32 : decode cX5_lamp 32 = .ok (.ifCond .ne 13, 3) := by decide +kernel
theorem dX5_lamp_35 : decode cX5_lamp 35 = .ok (.new 37, 3) := by decide +kernel
theorem dX5_lamp_38 : decode cX5_lamp 38 = .ok (.dup, 1) := by decide +kernel
theorem dX5_lamp_39 : decode cX5_lamp 39 = .ok (.ldc 46, 2) := by decide +kernel
theorem dX5_lamp_41 : decode cX5_lamp 41 = .ok (.invokespecial 41, 3) := by decide +kernel
theorem dX5_lamp_44 : decode cX5_lamp 44 = .ok (.athrow, 1) := by decide +kernel
theorem dX5_lamp_45 : decode cX5_lamp 45 = .ok (.aload_n 0, 1) := by decide +kernel
theorem dX5_lamp_46 : decode cX5_lamp 46 = .ok (.getfield 26, 3) := by decide +kernel
theorem dX5_lamp_49 : decode cX5_lamp 49 = .ok (.getfield 48, 3) := by decide +kernel
theorem dX5_lamp_52 : decode cX5_lamp 52 = .ok (.iload_n 1, 1) := by decide +kernel
theorem dX5_lamp_53 : decode cX5_lamp 53 = .ok (.iload_n 2, 1) := by decide +kernel
theorem dX5_lamp_54 : decode cX5_lamp 54 = .ok (.invokevirtual 76, 3) := by decide +kernel
theorem dX5_lamp_57 : decode cX5_lamp 57 = .ok (.ireturn, 1) := by decide +kernel
set_option maxRecDepth 20000 in
theorem ggX5_star_X5_within : GoodIn wsX5_star wsX5_within := goodIn_r _ [10] (by decide +kernel) (by decide +kernel)
set_option maxRecDepth 20000 in
theorem gX5_star_X5_within : GoodIn wsX5_star (va_wsS RX5 33 yX5_within wsX5_within) := goodIn_app (goodIn_of _ (by decide +kernel)) ggX5_star_X5_within
set_option maxRecDepth 20000 in
theorem ggX5_star_X4_add : GoodIn wsX5_star wsX4_add := goodIn_r _ [15, 16, 17, 18, 23, 24, 25] (by decide +kernel) (by decide +kernel)
set_option maxRecDepth 20000 in
theorem gX5_star_X4_add : GoodIn wsX5_star (wsV RX5 87 RX4 yX4_add wsX4_add) := goodIn_app (goodIn_of _ (by decide +kernel)) ggX5_star_X4_add
theorem dX5_star_0 : decode cX5_star 0 = .ok (.iload_n 1, 1) := by decide +kernel
theorem dX5_star_1 : decode cX5_star 1 = .ok (.iconst 0, 1) := by decide +kernel
theorem dX5_star_2 : decode cX5_star 2 = .ok (.sipush 359, 3) := by decide +kernel
theorem dX5_star_5 : decode cX5_star 5 = .ok (.invokestatic 33, 3) := by decide +kernel
theorem dX5_star_8 : decode cX5_star 8 = .ok (.ifCond .ne 13, 3) := by decide +kernel
theorem dX5_star_11 : decode cX5_star 11 = .ok (.new 37, 3) := by decide +kernel
theorem dX5_star_14 : decode cX5_star 14 = .ok (.dup, 1) := by decide +kernel
theorem dX5_star_15 : decode cX5_star 15 = .ok (.ldc 80, 2) := by decide +kernel
theorem dX5_star_17 : decode cX5_star 17 = .ok (.invokespecial 41, 3) := by decide +kernel
theorem dX5_star_20 : decode cX5_star 20 = .ok (.athrow, 1) := by decide +kernel
theorem dX5_star_21 : decode cX5_star 21 = .ok (.iload_n 2, 1) := by decide +kernel
theorem dX5_star_22 : decode cX5_star 22 = .ok (.iconst 1, 1) := by decide +kernel
theorem dX5_star_23 : decode cX5_star 23 = .ok (.bipush 9, 2) := by decide +kernel
theorem dX5_star_25 : decode cX5_star 25 = .ok (.invokestatic 33, 3) := by decide +kernel
theorem dX5_star_28 : decode cX5_star 28 = .ok (.ifCond .ne 13, 3) := by decide +kernel
theorem dX5_star_31 : decode cX5_star 31 = .ok (.new 37, 3) := by decide +kernel
theorem dX5_star_34 : decode cX5_star 34 = .ok (.dup, 1) := by decide +kernel
theorem dX5_star_35 : decode cX5_star 35 = .ok (.ldc 82, 2) := by decide +kernel
theorem dX5_star_37 : decode cX5_star 37 = .ok (.invokespecial 41, 3) := by decide +kernel
theorem dX5_star_40 : decode cX5_star 40 = .ok (.athrow, 1) := by decide +kernel
theorem dX5_star_41 : decode cX5_star 41 = .ok (.aload_n 0, 1) := by decide +kernel
theorem dX5_star_42 : decode cX5_star 42 = .ok (.getfield 10, 3) := by decide +kernel
theorem dX5_star_45 : decode cX5_star 45 = .ok (.getfield 84, 3) := by decide +kernel
theorem dX5_star_48 : decode cX5_star 48 = .ok (.bipush 20, 2) := by decide +kernel
theorem dX5_star_50 : decode cX5_star 50 = .ok (.if_icmp .lt 13, 3) := by decide +kernel
theorem dX5_star_53 : decode cX5_star 53 = .ok (.new 58, 3) := by decide +kernel
theorem dX5_star_56 : decode cX5_star 56 = .ok (.dup, 1) := by decide +kernel
theorem dX5_star_57 : decode cX5_star 57 = .ok (.ldc 85, 2) := by decide +kernel
theorem dX5_star_59 : decode cX5_star 59 = .ok (.invokespecial 62, 3) := by decide +kernel
theorem dX5_star_62 : decode cX5_star 62 = .ok (.athrow, 1) := by decide +kernel
theorem dX5_star_63 : decode cX5_star 63 = .ok (.aload_n 0, 1) := by decide +kernel
theorem dX5_star_64 : decode cX5_star 64 = .ok (.getfield 10, 3) := by decide +kernel
theorem dX5_star_67 : decode cX5_star 67 = .ok (.iload_n 1, 1) := by decide +kernel
theorem dX5_star_68 : decode cX5_star 68 = .ok (.iload_n 2, 1) := by decide +kernel
theorem dX5_star_69 : decode cX5_star 69 = .ok (.invokevirtual 87, 3) := by decide +kernel
theorem dX5_star_72 : decode cX5_star 72 = .ok (.ireturn, 1) := by decide +kernel
set_option maxRecDepth 20000 in
theorem ggX5_cue_X5_within : GoodIn wsX5_cue wsX5_within := goodIn_r _ [10] (by decide +kernel) (by decide +kernel)
set_option maxRecDepth 20000 in
theorem gX5_cue_X5_within : GoodIn wsX5_cue (va_wsS RX5 33 yX5_within wsX5_within) := goodIn_app (goodIn_of _ (by decide +kernel)) ggX5_cue_X5_within
set_option maxRecDepth 20000 in
theorem ggX5_cue_X5_suits : GoodIn wsX5_cue wsX5_suits := goodIn_r _ [14, 15, 16, 17, 18, 19, 20, 21, 22, 7, 8, 9, 10, 33, 34, 35, 36, 42, 43, 44, 45, 46, 47, 48, 49, 50, 51, 52, 53, 54, 55, 56] (by decide +kernel) (by decide +kernel)
set_option maxRecDepth 20000 in
theorem gX5_cue_X5_suits : GoodIn wsX5_cue (wsV RX5 93 RX5 yX5_suits wsX5_suits) := goodIn_app (goodIn_of _ (by decide +kernel)) ggX5_cue_X5_suits
set_option maxRecDepth 20000 in
theorem ggX5_cue_X1_add : GoodIn wsX5_cue wsX1_add := goodIn_r _ [27, 28, 29, 30, 31, 32, 37, 38, 39, 40, 41] (by decide +kernel) (by decide +kernel)
set_option maxRecDepth 20000 in
theorem gX5_cue_X1_add : GoodIn wsX5_cue (wsV RX5 101 RX1 yX1_add wsX1_add) := goodIn_app (goodIn_of _ (by decide +kernel)) ggX5_cue_X1_add
theorem dX5_cue_0 : decode cX5_cue 0 = .ok (.iload_n 1, 1) := by decide +kernel
theorem dX5_cue_1 : decode cX5_cue 1 = .ok (.iconst 0, 1) := by decide +kernel
theorem dX5_cue_2 : decode cX5_cue 2 = .ok (.sipush 999, 3) := by decide +kernel
theorem dX5_cue_5 : decode cX5_cue 5 = .ok (.invokestatic 33, 3) := by decide +kernel
theorem dX5_cue_8 : decode cX5_cue 8 = .ok (.ifCond .ne 13, 3) := by decide +kernel
theorem dX5_cue_11 : decode cX5_cue 11 = .ok (.new 37, 3) := by decide +kernel
theorem dX5_cue_14 : decode cX5_cue 14 = .ok (.dup, 1) := by decide +kernel
theorem dX5_cue_15 : decode cX5_cue 15 = .ok (.ldc 89, 2) := by decide +kernel
theorem dX5_cue_17 : decode cX5_cue 17 = .ok (.invokespecial 41, 3) := by decide +kernel
theorem dX5_cue_20 : decode cX5_cue 20 = .ok (.athrow, 1) := by decide +kernel
theorem dX5_cue_21 : decode cX5_cue 21 = .ok (.iload_n 2, 1) := by decide +kernel
theorem dX5_cue_22 : decode cX5_cue 22 = .ok (.iconst 0, 1) := by decide +kernel
theorem dX5_cue_23 : decode cX5_cue 23 = .ok (.iconst 4, 1) := by decide +kernel
theorem dX5_cue_24 : decode cX5_cue 24 = .ok (.invokestatic 33, 3) := by decide +kernel
theorem dX5_cue_27 : decode cX5_cue 27 = .ok (.ifCond .ne 13, 3) := by decide +kernel
theorem dX5_cue_30 : decode cX5_cue 30 = .ok (.new 37, 3) := by decide +kernel
theorem dX5_cue_33 : decode cX5_cue 33 = .ok (.dup, 1) := by decide +kernel
theorem dX5_cue_34 : decode cX5_cue 34 = .ok (.ldc 91, 2) := by decide +kernel
theorem dX5_cue_36 : decode cX5_cue 36 = .ok (.invokespecial 41, 3) := by decide +kernel
theorem dX5_cue_39 : decode cX5_cue 39 = .ok (.athrow, 1) := by decide +kernel
theorem dX5_cue_40 : decode cX5_cue 40 = .ok (.aload_n 0, 1) := by decide +kernel
theorem dX5_cue_41 : decode cX5_cue 41 = .ok (.iload_n 2, 1) := by decide +kernel
theorem dX5_cue_42 : decode cX5_cue 42 = .ok (.iload_n 3, 1) := by decide +kernel
theorem dX5_cue_43 : decode cX5_cue 43 = .ok (.iload 4, 2) := by decide +kernel
theorem dX5_cue_45 : decode cX5_cue 45 = .ok (.invokevirtual 93, 3) := by decide +kernel
theorem dX5_cue_48 : decode cX5_cue 48 = .ok (.ifCond .ne 13, 3) := by decide +kernel
theorem dX5_cue_51 : decode cX5_cue 51 = .ok (.new 37, 3) := by decide +kernel
theorem dX5_cue_54 : decode cX5_cue 54 = .ok (.dup, 1) := by decide +kernel
theorem dX5_cue_55 : decode cX5_cue 55 = .ok (.ldc 96, 2) := by decide +kernel
theorem dX5_cue_57 : decode cX5_cue 57 = .ok (.invokespecial 41, 3) := by decide +kernel
theorem dX5_cue_60 : decode cX5_cue 60 = .ok (.athrow, 1) := by decide +kernel
theorem dX5_cue_61 : decode cX5_cue 61 = .ok (.aload_n 0, 1) := by decide +kernel
theorem dX5_cue_62 : decode cX5_cue 62 = .ok (.getfield 19, 3) := by decide +kernel
theorem dX5_cue_65 : decode cX5_cue 65 = .ok (.getfield 98, 3) := by decide +kernel
theorem dX5_cue_68 : decode cX5_cue 68 = .ok (.bipush 24, 2) := by decide +kernel
theorem dX5_cue_70 : decode cX5_cue 70 = .ok (.if_icmp .lt 13, 3) := by decide +kernel
theorem dX5_cue_73 : decode cX5_cue 73 = .ok (.new 58, 3) := by decide +kernel
theorem dX5_cue_76 : decode cX5_cue 76 = .ok (.dup, 1) := by decide +kernel
theorem dX5_cue_77 : decode cX5_cue 77 = .ok (.ldc 99, 2) := by decide +kernel
theorem dX5_cue_79 : decode cX5_cue 79 = .ok (.invokespecial 62, 3) := by decide +kernel
theorem dX5_cue_82 : decode cX5_cue 82 = .ok (.athrow, 1) := by decide +kernel
theorem dX5_cue_83 : decode cX5_cue 83 = .ok (.aload_n 0, 1) := by decide +kernel
theorem dX5_cue_84 : decode cX5_cue 84 = .ok (.getfield 19, 3) := by decide +kernel
theorem dX5_cue_87 : decode cX5_cue 87 = .ok (.iload_n 1, 1) := by decide +kernel
theorem dX5_cue_88 : decode cX5_cue 88 = .ok (.iload_n 2, 1) := by decide +kernel
theorem dX5_cue_89 : decode cX5_cue 89 = .ok (.iload_n 3, 1) := by decide +kernel
theorem dX5_cue_90 : decode cX5_cue 90 = .ok (.iload 4, 2) := by decide +kernel
theorem dX5_cue_92 : decode cX5_cue 92 = .ok (.invokevirtual 101, 3) := by decide +kernel
theorem dX5_cue_95 : decode cX5_cue 95 = .ok (.ireturn, 1) := by decide +kernel
theorem dX5_run_0 : decode cX5_run 0 = .ok (.aload_n 0, 1) := by decide +kernel
theorem dX5_run_1 : decode cX5_run 1 = .ok (.getfield 26, 3) := by decide +kernel
theorem dX5_run_4 : decode cX5_run 4 = .ok (.aload_n 0, 1) := by decide +kernel
theorem dX5_run_5 : decode cX5_run 5 = .ok (.getfield 26, 3) := by decide +kernel
theorem dX5_run_8 : decode cX5_run 8 = .ok (.getfield 104, 3) := by decide +kernel
theorem dX5_run_11 : decode cX5_run 11 = .ok (.ifCond .ne 7, 3) := by decide +kernel
theorem dX5_run_14 : decode cX5_run 14 = .ok (.iconst 1, 1) := by decide +kernel
theorem dX5_run_15 : decode cX5_run 15 = .ok (.goto 4, 3) := by decide +kernel
theorem dX5_run_18 : decode cX5_run 18 = .ok (.iconst 0, 1) := by decide +kernel
theorem dX5_run_19 : decode cX5_run 19 = .ok (.putfield 104, 3) := by decide +kernel
theorem dX5_run_22 : decode cX5_run 22 = .ok (.aload_n 0, 1) := by decide +kernel
theorem dX5_run_23 : decode cX5_run 23 = .ok (.getfield 26, 3) := by decide +kernel
theorem dX5_run_26 : decode cX5_run 26 = .ok (.getfield 104, 3) := by decide +kernel
theorem dX5_run_29 : decode cX5_run 29 = .ok (.ireturn, 1) := by decide +kernel
set_option maxRecDepth 20000 in
theorem ggX5_jump_X5_within : GoodIn wsX5_jump wsX5_within := goodIn_r _ [8] (by decide +kernel) (by decide +kernel)
set_option maxRecDepth 20000 in
theorem gX5_jump_X5_within : GoodIn wsX5_jump (va_wsS RX5 33 yX5_within wsX5_within) := goodIn_app (goodIn_of _ (by decide +kernel)) ggX5_jump_X5_within
theorem dX5_jump_0 : decode cX5_jump 0 = .ok (.iload_n 1, 1) := by decide +kernel
theorem dX5_jump_1 : decode cX5_jump 1 = .ok (.iconst 0, 1) := by decide +kernel
theorem dX5_jump_2 : decode cX5_jump 2 = .ok (.sipush 1000, 3) := by decide +kernel
theorem dX5_jump_5 : decode cX5_jump 5 = .ok (.invokestatic 33, 3) := by decide +kernel
theorem dX5_jump_8 : decode cX5_jump 8 = .ok (.ifCond .ne 13, 3) := by decide +kernel
theorem dX5_jump_11 : decode cX5_jump 11 = .ok (.new 37, 3) := by decide +kernel
theorem dX5_jump_14 : decode cX5_jump 14 = .ok (.dup, 1) := by decide +kernel
theorem dX5_jump_15 : decode cX5_jump 15 = .ok (.ldc 108, 2) := by decide +kernel
theorem dX5_jump_17 : decode cX5_jump 17 = .ok (.invokespecial 41, 3) := by decide +kernel
theorem dX5_jump_20 : decode cX5_jump 20 = .ok (.athrow, 1) := by decide +kernel
theorem dX5_jump_21 : decode cX5_jump 21 = .ok (.aload_n 0, 1) := by decide +kernel
theorem dX5_jump_22 : decode cX5_jump 22 = .ok (.getfield 26, 3) := by decide +kernel
theorem dX5_jump_25 : decode cX5_jump 25 = .ok (.getfield 110, 3) := by decide +kernel
theorem dX5_jump_28 : decode cX5_jump 28 = .ok (.istore_n 2, 1) := by decide +kernel
theorem dX5_jump_29 : decode cX5_jump 29 = .ok (.aload_n 0, 1) := by decide +kernel
theorem dX5_jump_30 : decode cX5_jump 30 = .ok (.getfield 26, 3) := by decide +kernel
theorem dX5_jump_33 : decode cX5_jump 33 = .ok (.iload_n 1, 1) := by decide +kernel
theorem dX5_jump_34 : decode cX5_jump 34 = .ok (.putfield 110, 3) := by decide +kernel
theorem dX5_jump_37 : decode cX5_jump 37 = .ok (.iload_n 2, 1) := by decide +kernel
theorem dX5_jump_38 : decode cX5_jump 38 = .ok (.ireturn, 1) := by decide +kernel
set_option maxRecDepth 20000 in
theorem ggX5_fade_X2_has : GoodIn wsX5_fade wsX2_has := goodIn_r _ [11, 12, 36, 37, 38, 39, 40, 41] (by decide +kernel) (by decide +kernel)
set_option maxRecDepth 20000 in
theorem gX5_fade_X2_has : GoodIn wsX5_fade (wsV RX5 67 RX2 yX2_has wsX2_has) := goodIn_app (goodIn_of _ (by decide +kernel)) ggX5_fade_X2_has
set_option maxRecDepth 20000 in
theorem ggX5_fade_X5_within : GoodIn wsX5_fade wsX5_within := goodIn_r _ [16] (by decide +kernel) (by decide +kernel)
set_option maxRecDepth 20000 in
theorem gX5_fade_X5_within : GoodIn wsX5_fade (va_wsS RX5 33 yX5_within wsX5_within) := goodIn_app (goodIn_of _ (by decide +kernel)) ggX5_fade_X5_within
set_option maxRecDepth 20000 in
theorem ggX5_fade_X2_changeAim : GoodIn wsX5_fade wsX2_changeAim := goodIn_r _ [20, 21, 22, 8, 9, 10, 11, 12, 36, 37, 38, 39, 40, 41] (by decide +kernel) (by decide +kernel)
set_option maxRecDepth 20000 in
theorem gX5_fade_X2_changeAim : GoodIn wsX5_fade (wsV RX5 115 RX2 yX2_changeAim wsX2_changeAim) := goodIn_app (goodIn_of _ (by decide +kernel)) ggX5_fade_X2_changeAim
theorem dX5_fade_0 : decode cX5_fade 0 = .ok (.aload_n 0, 1) := by decide +kernel
theorem dX5_fade_1 : decode cX5_fade 1 = .ok (.getfield 26, 3) := by decide +kernel
theorem dX5_fade_4 : decode cX5_fade 4 = .ok (.getfield 48, 3) := by decide +kernel
theorem dX5_fade_7 : decode cX5_fade 7 = .ok (.iload_n 1, 1) := by decide +kernel
theorem dX5_fade_8 : decode cX5_fade 8 = .ok (.invokevirtual 67, 3) := by decide +kernel
theorem dX5_fade_11 : decode cX5_fade 11 = .ok (.ifCond .ne 13, 3) := by decide +kernel
theorem dX5_fade_14 : decode cX5_fade 14 = .ok (.new 71, 3) := by decide +kernel
theorem dX5_fade_17 : decode cX5_fade 17 = .ok (.dup, 1) := by decide +kernel
theorem dX5_fade_18 : decode cX5_fade 18 = .ok (.ldc 73, 2) := by decide +kernel
theorem dX5_fade_20 : decode cX5_fade 20 = .ok (.invokespecial 75, 3) := by decide +kernel
theorem dX5_fade_23 : decode cX5_fade 23 = .ok (.athrow, 1) := by decide +kernel
theorem dX5_fade_24 : decode cX5_fade 24 = .ok (.iload_n 2, 1) := by decide +kernel
theorem dX5_fade_25 : decode cX5_fade 25 = .ok (.iconst 0, 1) := by decide +kernel
theorem dX5_fade_26 : decode cX5_fade 26 = .ok (.bipush 100, 2) := by decide +kernel
theorem dX5_fade_28 : decode cX5_fade 28 = .ok (.invokestatic 33, 3) := by decide +kernel
theorem dX5_fade_31 : decode cX5_fade 31 = .ok (.ifCond .ne 13, 3) := by decide +kernel
theorem dX5_fade_34 : decode cX5_fade 34 = .ok (.new 37, 3) := by decide +kernel
theorem dX5_fade_37 : decode cX5_fade 37 = .ok (.dup, 1) := by decide +kernel
theorem dX5_fade_38 : decode cX5_fade 38 = .ok (.ldc 113, 2) := by decide +kernel
theorem dX5_fade_40 : decode cX5_fade 40 = .ok (.invokespecial 41, 3) := by decide +kernel
theorem dX5_fade_43 : decode cX5_fade 43 = .ok (.athrow, 1) := by decide +kernel
theorem dX5_fade_44 : decode cX5_fade 44 = .ok (.aload_n 0, 1) := by decide +kernel
theorem dX5_fade_45 : decode cX5_fade 45 = .ok (.getfield 26, 3) := by decide +kernel
theorem dX5_fade_48 : decode cX5_fade 48 = .ok (.getfield 48, 3) := by decide +kernel
theorem dX5_fade_51 : decode cX5_fade 51 = .ok (.iload_n 1, 1) := by decide +kernel
theorem dX5_fade_52 : decode cX5_fade 52 = .ok (.iload_n 2, 1) := by decide +kernel
theorem dX5_fade_53 : decode cX5_fade 53 = .ok (.invokevirtual 115, 3) := by decide +kernel
theorem dX5_fade_56 : decode cX5_fade 56 = .ok (.ireturn, 1) := by decide +kernel
set_option maxRecDepth 20000 in
theorem ggX5_pass_X5_within : GoodIn wsX5_pass wsX5_within := goodIn_r _ [8] (by decide +kernel) (by decide +kernel)
set_option maxRecDepth 20000 in
theorem gX5_pass_X5_within : GoodIn wsX5_pass (va_wsS RX5 33 yX5_within wsX5_within) := goodIn_app (goodIn_of _ (by decide +kernel)) ggX5_pass_X5_within
set_option maxRecDepth 20000 in
theorem ggX5_pass_X3_goOnFor : GoodIn wsX5_pass wsX3_goOnFor := goodIn_r _ [13, 14, 15, 16, 12, 17, 18, 19, 20, 21, 22, 23, 24, 25, 26, 27, 28, 29, 30, 31, 32, 33, 34, 35, 36, 37, 38, 39, 40, 41, 42, 43, 44, 45, 46, 47, 48, 49, 50, 51, 52, 53, 54, 55, 56, 57, 58, 59, 60, 61, 62, 63, 64, 65, 66, 67, 68, 69, 70, 71, 72, 73, 74, 75, 76, 77, 78, 79, 80, 81, 7, 82, 83, 84, 85, 86, 87, 88, 89, 90, 91, 92, 93, 94, 99, 100, 101, 102, 103, 104, 105, 106, 107, 108, 109, 110, 111, 112, 113, 114, 115, 116, 117, 118, 119, 120, 121, 122] (by decide +kernel) (by decide +kernel)
set_option maxRecDepth 20000 in
theorem gX5_pass_X3_goOnFor : GoodIn wsX5_pass (wsV RX5 120 RX3 yX3_goOnFor wsX3_goOnFor) := goodIn_app (goodIn_of _ (by decide +kernel)) ggX5_pass_X3_goOnFor
theorem dX5_pass_0 : decode cX5_pass 0 = .ok (.iload_n 1, 1) := by decide +kernel
theorem dX5_pass_1 : decode cX5_pass 1 = .ok (.iconst 1, 1) := by decide +kernel
theorem dX5_pass_2 : decode cX5_pass 2 = .ok (.sipush 500, 3) := by decide +kernel
theorem dX5_pass_5 : decode cX5_pass 5 = .ok (.invokestatic 33, 3) := by decide +kernel
theorem dX5_pass_8 : decode cX5_pass 8 = .ok (.ifCond .ne 13, 3) := by decide +kernel
theorem dX5_pass_11 : decode cX5_pass 11 = .ok (.new 37, 3) := by decide +kernel
theorem dX5_pass_14 : decode cX5_pass 14 = .ok (.dup, 1) := by decide +kernel
theorem dX5_pass_15 : decode cX5_pass 15 = .ok (.ldc 118, 2) := by decide +kernel
theorem dX5_pass_17 : decode cX5_pass 17 = .ok (.invokespecial 41, 3) := by decide +kernel
theorem dX5_pass_20 : decode cX5_pass 20 = .ok (.athrow, 1) := by decide +kernel
theorem dX5_pass_21 : decode cX5_pass 21 = .ok (.aload_n 0, 1) := by decide +kernel
theorem dX5_pass_22 : decode cX5_pass 22 = .ok (.getfield 26, 3) := by decide +kernel
theorem dX5_pass_25 : decode cX5_pass 25 = .ok (.iload_n 1, 1) := by decide +kernel
theorem dX5_pass_26 : decode cX5_pass 26 = .ok (.aload_n 0, 1) := by decide +kernel
theorem dX5_pass_27 : decode cX5_pass 27 = .ok (.getfield 19, 3) := by decide +kernel
theorem dX5_pass_30 : decode cX5_pass 30 = .ok (.invokevirtual 120, 3) := by decide +kernel
theorem dX5_pass_33 : decode cX5_pass 33 = .ok (.ireturn, 1) := by decide +kernel
set_option maxRecDepth 20000 in
theorem ggX5_told_X2_has : GoodIn wsX5_told wsX2_has := goodIn_r _ [9, 10, 38, 39, 40, 41, 42, 43] (by decide +kernel) (by decide +kernel)
set_option maxRecDepth 20000 in
theorem gX5_told_X2_has : GoodIn wsX5_told (wsV RX5 67 RX2 yX2_has wsX2_has) := goodIn_app (goodIn_of _ (by decide +kernel)) ggX5_told_X2_has
set_option maxRecDepth 20000 in
theorem ggX5_told_X5_within : GoodIn wsX5_told wsX5_within := goodIn_r _ [14] (by decide +kernel) (by decide +kernel)
set_option maxRecDepth 20000 in
theorem gX5_told_X5_within : GoodIn wsX5_told (va_wsS RX5 33 yX5_within wsX5_within) := goodIn_app (goodIn_of _ (by decide +kernel)) ggX5_told_X5_within
set_option maxRecDepth 20000 in
theorem ggX5_told_X2_fact : GoodIn wsX5_told wsX2_fact := goodIn_r _ [18, 19, 20, 21, 22, 23, 24, 6, 7, 8, 9, 10, 38, 39, 40, 41, 42, 43] (by decide +kernel) (by decide +kernel)
set_option maxRecDepth 20000 in
theorem gX5_told_X2_fact : GoodIn wsX5_told (wsV RX5 126 RX2 yX2_fact wsX2_fact) := goodIn_app (goodIn_of _ (by decide +kernel)) ggX5_told_X2_fact
theorem dX5_told_0 : decode cX5_told 0 = .ok (.aload_n 0, 1) := by decide +kernel
theorem dX5_told_1 : decode cX5_told 1 = .ok (.getfield 26, 3) := by decide +kernel
theorem dX5_told_4 : decode cX5_told 4 = .ok (.getfield 48, 3) := by decide +kernel
theorem dX5_told_7 : decode cX5_told 7 = .ok (.iload_n 1, 1) := by decide +kernel
theorem dX5_told_8 : decode cX5_told 8 = .ok (.invokevirtual 67, 3) := by decide +kernel
theorem dX5_told_11 : decode cX5_told 11 = .ok (.ifCond .ne 13, 3) := by decide +kernel
theorem dX5_told_14 : decode cX5_told 14 = .ok (.new 71, 3) := by decide +kernel
theorem dX5_told_17 : decode cX5_told 17 = .ok (.dup, 1) := by decide +kernel
theorem dX5_told_18 : decode cX5_told 18 = .ok (.ldc 73, 2) := by decide +kernel
theorem dX5_told_20 : decode cX5_told 20 = .ok (.invokespecial 75, 3) := by decide +kernel
theorem dX5_told_23 : decode cX5_told 23 = .ok (.athrow, 1) := by decide +kernel
theorem dX5_told_24 : decode cX5_told 24 = .ok (.iload_n 2, 1) := by decide +kernel
theorem dX5_told_25 : decode cX5_told 25 = .ok (.iconst 0, 1) := by decide +kernel
theorem dX5_told_26 : decode cX5_told 26 = .ok (.iconst 4, 1) := by decide +kernel
theorem dX5_told_27 : decode cX5_told 27 = .ok (.invokestatic 33, 3) := by decide +kernel
theorem dX5_told_30 : decode cX5_told 30 = .ok (.ifCond .ne 13, 3) := by decide +kernel
theorem dX5_told_33 : decode cX5_told 33 = .ok (.new 71, 3) := by decide +kernel
theorem dX5_told_36 : decode cX5_told 36 = .ok (.dup, 1) := by decide +kernel
theorem dX5_told_37 : decode cX5_told 37 = .ok (.ldc 124, 2) := by decide +kernel
theorem dX5_told_39 : decode cX5_told 39 = .ok (.invokespecial 75, 3) := by decide +kernel
theorem dX5_told_42 : decode cX5_told 42 = .ok (.athrow, 1) := by decide +kernel
theorem dX5_told_43 : decode cX5_told 43 = .ok (.aload_n 0, 1) := by decide +kernel
theorem dX5_told_44 : decode cX5_told 44 = .ok (.getfield 26, 3) := by decide +kernel
theorem dX5_told_47 : decode cX5_told 47 = .ok (.getfield 48, 3) := by decide +kernel
theorem dX5_told_50 : decode cX5_told 50 = .ok (.iload_n 1, 1) := by decide +kernel
theorem dX5_told_51 : decode cX5_told 51 = .ok (.iload_n 2, 1) := by decide +kernel
theorem dX5_told_52 : decode cX5_told 52 = .ok (.invokevirtual 126, 3) := by decide +kernel
theorem dX5_told_55 : decode cX5_told 55 = .ok (.ireturn, 1) := by decide +kernel
set_option maxRecDepth 20000 in
theorem ggX5_glare_X5_within : GoodIn wsX5_glare wsX5_within := goodIn_r _ [8] (by decide +kernel) (by decide +kernel)
set_option maxRecDepth 20000 in
theorem gX5_glare_X5_within : GoodIn wsX5_glare (va_wsS RX5 33 yX5_within wsX5_within) := goodIn_app (goodIn_of _ (by decide +kernel)) ggX5_glare_X5_within
set_option maxRecDepth 20000 in
theorem ggX5_glare_X2_glareOn : GoodIn wsX5_glare wsX2_glareOn := goodIn_r _ [13, 14, 15, 16, 17, 18, 19, 20, 34, 35, 36, 37, 38, 39] (by decide +kernel) (by decide +kernel)
set_option maxRecDepth 20000 in
theorem gX5_glare_X2_glareOn : GoodIn wsX5_glare (wsV RX5 129 RX2 yX2_glareOn wsX2_glareOn) := goodIn_app (goodIn_of _ (by decide +kernel)) ggX5_glare_X2_glareOn
theorem dX5_glare_0 : decode cX5_glare 0 = .ok (.iload_n 1, 1) := by decide +kernel
theorem dX5_glare_1 : decode cX5_glare 1 = .ok (.iconst 0, 1) := by decide +kernel
theorem dX5_glare_2 : decode cX5_glare 2 = .ok (.bipush 11, 2) := by decide +kernel
theorem dX5_glare_4 : decode cX5_glare 4 = .ok (.invokestatic 33, 3) := by decide +kernel
theorem dX5_glare_7 : decode cX5_glare 7 = .ok (.ifCond .ne 13, 3) := by decide +kernel
theorem dX5_glare_10 : decode cX5_glare 10 = .ok (.new 71, 3) := by decide +kernel
theorem dX5_glare_13 : decode cX5_glare 13 = .ok (.dup, 1) := by decide +kernel
theorem dX5_glare_14 : decode cX5_glare 14 = .ok (.ldc 39, 2) := by decide +kernel
theorem dX5_glare_16 : decode cX5_glare 16 = .ok (.invokespecial 75, 3) := by decide +kernel
theorem dX5_glare_19 : decode cX5_glare 19 = .ok (.athrow, 1) := by decide +kernel
theorem dX5_glare_20 : decode cX5_glare 20 = .ok (.aload_n 0, 1) := by decide +kernel
theorem dX5_glare_21 : decode cX5_glare 21 = .ok (.getfield 26, 3) := by decide +kernel
theorem dX5_glare_24 : decode cX5_glare 24 = .ok (.getfield 48, 3) := by decide +kernel
theorem dX5_glare_27 : decode cX5_glare 27 = .ok (.iload_n 1, 1) := by decide +kernel
theorem dX5_glare_28 : decode cX5_glare 28 = .ok (.invokevirtual 129, 3) := by decide +kernel
theorem dX5_glare_31 : decode cX5_glare 31 = .ok (.ireturn, 1) := by decide +kernel
set_option maxRecDepth 20000 in
theorem ggX5_about_X4_has : GoodIn wsX5_about wsX4_has := goodIn_r _ [9, 10, 52, 53, 54] (by decide +kernel) (by decide +kernel)
set_option maxRecDepth 20000 in
theorem gX5_about_X4_has : GoodIn wsX5_about (wsV RX5 133 RX4 yX4_has wsX4_has) := goodIn_app (goodIn_of _ (by decide +kernel)) ggX5_about_X4_has
set_option maxRecDepth 20000 in
theorem ggX5_about_X5_within : GoodIn wsX5_about wsX5_within := goodIn_r _ [14] (by decide +kernel) (by decide +kernel)
set_option maxRecDepth 20000 in
theorem gX5_about_X5_within : GoodIn wsX5_about (va_wsS RX5 33 yX5_within wsX5_within) := goodIn_app (goodIn_of _ (by decide +kernel)) ggX5_about_X5_within
set_option maxRecDepth 20000 in
theorem ggX5_about_X3_factOfStar : GoodIn wsX5_about wsX3_factOfStar := goodIn_r _ [19, 20, 21, 22, 23, 6, 7, 8, 9, 10, 24, 13, 25, 26, 27, 28, 29, 30, 31, 32, 18, 33, 34, 35, 36, 37, 38, 39, 40, 41, 42, 43, 44, 45, 46, 47, 52, 53, 54, 55, 56, 57, 58, 59, 60, 61, 62, 63, 64, 65, 66, 67, 68, 69] (by decide +kernel) (by decide +kernel)
set_option maxRecDepth 20000 in
theorem gX5_about_X3_factOfStar : GoodIn wsX5_about (wsV RX5 138 RX3 yX3_factOfStar wsX3_factOfStar) := goodIn_app (goodIn_of _ (by decide +kernel)) ggX5_about_X3_factOfStar
theorem dX5_about_0 : decode cX5_about 0 = .ok (.aload_n 0, 1) := by decide +kernel
theorem dX5_about_1 : decode cX5_about 1 = .ok (.getfield 10, 3) := by decide +kernel
theorem dX5_about_4 : decode cX5_about 4 = .ok (.iload_n 1, 1) := by decide +kernel
theorem dX5_about_5 : decode cX5_about 5 = .ok (.invokevirtual 133, 3) := by decide +kernel
theorem dX5_about_8 : decode cX5_about 8 = .ok (.ifCond .ne 13, 3) := by decide +kernel
theorem dX5_about_11 : decode cX5_about 11 = .ok (.new 71, 3) := by decide +kernel
theorem dX5_about_14 : decode cX5_about 14 = .ok (.dup, 1) := by decide +kernel
theorem dX5_about_15 : decode cX5_about 15 = .ok (.ldc 134, 2) := by decide +kernel
theorem dX5_about_17 : decode cX5_about 17 = .ok (.invokespecial 75, 3) := by decide +kernel
theorem dX5_about_20 : decode cX5_about 20 = .ok (.athrow, 1) := by decide +kernel
theorem dX5_about_21 : decode cX5_about 21 = .ok (.iload_n 2, 1) := by decide +kernel
theorem dX5_about_22 : decode cX5_about 22 = .ok (.iconst 0, 1) := by decide +kernel
theorem dX5_about_23 : decode cX5_about 23 = .ok (.iconst 3, 1) := by decide +kernel
theorem dX5_about_24 : decode cX5_about 24 = .ok (.invokestatic 33, 3) := by decide +kernel
theorem dX5_about_27 : decode cX5_about 27 = .ok (.ifCond .ne 13, 3) := by decide +kernel
theorem dX5_about_30 : decode cX5_about 30 = .ok (.new 71, 3) := by decide +kernel
theorem dX5_about_33 : decode cX5_about 33 = .ok (.dup, 1) := by decide +kernel
theorem dX5_about_34 : decode cX5_about 34 = .ok (.ldc 136, 2) := by decide +kernel
theorem dX5_about_36 : decode cX5_about 36 = .ok (.invokespecial 75, 3) := by decide +kernel
theorem dX5_about_39 : decode cX5_about 39 = .ok (.athrow, 1) := by decide +kernel
theorem dX5_about_40 : decode cX5_about 40 = .ok (.aload_n 0, 1) := by decide +kernel
theorem dX5_about_41 : decode cX5_about 41 = .ok (.getfield 26, 3) := by decide +kernel
theorem dX5_about_44 : decode cX5_about 44 = .ok (.aload_n 0, 1) := by decide +kernel
theorem dX5_about_45 : decode cX5_about 45 = .ok (.getfield 10, 3) := by decide +kernel
theorem dX5_about_48 : decode cX5_about 48 = .ok (.iload_n 1, 1) := by decide +kernel
theorem dX5_about_49 : decode cX5_about 49 = .ok (.iload_n 2, 1) := by decide +kernel
theorem dX5_about_50 : decode cX5_about 50 = .ok (.invokevirtual 138, 3) := by decide +kernel
theorem dX5_about_53 : decode cX5_about 53 = .ok (.ireturn, 1) := by decide +kernel
set_option maxRecDepth 20000 in
theorem ggX5_comet_X0_has : GoodIn wsX5_comet wsX0_has := goodIn_r _ [9, 10, 59, 60, 61, 62] (by decide +kernel) (by decide +kernel)
set_option maxRecDepth 20000 in
theorem gX5_comet_X0_has : GoodIn wsX5_comet (wsV RX5 146 RX0 yX0_has wsX0_has) := goodIn_app (goodIn_of _ (by decide +kernel)) ggX5_comet_X0_has
set_option maxRecDepth 20000 in
theorem ggX5_comet_X5_within : GoodIn wsX5_comet wsX5_within := goodIn_r _ [14] (by decide +kernel) (by decide +kernel)
set_option maxRecDepth 20000 in
theorem gX5_comet_X5_within : GoodIn wsX5_comet (va_wsS RX5 33 yX5_within wsX5_within) := goodIn_app (goodIn_of _ (by decide +kernel)) ggX5_comet_X5_within
set_option maxRecDepth 20000 in
theorem ggX5_comet_X3_factOfComet : GoodIn wsX5_comet wsX3_factOfComet := goodIn_r _ [19, 20, 21, 22, 23, 24, 6, 7, 8, 9, 10, 25, 26, 27, 18, 28, 29, 30, 31, 32, 33, 34, 35, 36, 37, 38, 39, 40, 41, 42, 43, 44, 45, 50, 51, 52, 53, 54, 55, 56, 57, 58, 59, 60, 61, 62, 63, 64, 65, 66, 67, 68] (by decide +kernel) (by decide +kernel)
set_option maxRecDepth 20000 in
theorem gX5_comet_X3_factOfComet : GoodIn wsX5_comet (wsV RX5 151 RX3 yX3_factOfComet wsX3_factOfComet) := goodIn_app (goodIn_of _ (by decide +kernel)) ggX5_comet_X3_factOfComet
theorem dX5_comet_0 : decode cX5_comet 0 = .ok (.aload_n 0, 1) := by decide +kernel
theorem dX5_comet_1 : decode cX5_comet 1 = .ok (.getfield 26, 3) := by decide +kernel
theorem dX5_comet_4 : decode cX5_comet 4 = .ok (.getfield 142, 3) := by decide +kernel
theorem dX5_comet_7 : decode cX5_comet 7 = .ok (.iload_n 1, 1) := by decide +kernel
theorem dX5_comet_8 : decode cX5_comet 8 = .ok (.invokevirtual 146, 3) := by decide +kernel
theorem dX5_comet_11 : decode cX5_comet 11 = .ok (.ifCond .ne 13, 3) := by decide +kernel
theorem dX5_comet_14 : decode cX5_comet 14 = .ok (.new 71, 3) := by decide +kernel
theorem dX5_comet_17 : decode cX5_comet 17 = .ok (.dup, 1) := by decide +kernel
theorem dX5_comet_18 : decode cX5_comet 18 = .ok (.ldc 149, 2) := by decide +kernel
theorem dX5_comet_20 : decode cX5_comet 20 = .ok (.invokespecial 75, 3) := by decide +kernel
theorem dX5_comet_23 : decode cX5_comet 23 = .ok (.athrow, 1) := by decide +kernel
theorem dX5_comet_24 : decode cX5_comet 24 = .ok (.iload_n 2, 1) := by decide +kernel
theorem dX5_comet_25 : decode cX5_comet 25 = .ok (.iconst 0, 1) := by decide +kernel
theorem dX5_comet_26 : decode cX5_comet 26 = .ok (.iconst 3, 1) := by decide +kernel
theorem dX5_comet_27 : decode cX5_comet 27 = .ok (.invokestatic 33, 3) := by decide +kernel
theorem dX5_comet_30 : decode cX5_comet 30 = .ok (.ifCond .ne 13, 3) := by decide +kernel
theorem dX5_comet_33 : decode cX5_comet 33 = .ok (.new 71, 3) := by decide +kernel
theorem dX5_comet_36 : decode cX5_comet 36 = .ok (.dup, 1) := by decide +kernel
theorem dX5_comet_37 : decode cX5_comet 37 = .ok (.ldc 136, 2) := by decide +kernel
theorem dX5_comet_39 : decode cX5_comet 39 = .ok (.invokespecial 75, 3) := by decide +kernel
theorem dX5_comet_42 : decode cX5_comet 42 = .ok (.athrow, 1) := by decide +kernel
theorem dX5_comet_43 : decode cX5_comet 43 = .ok (.aload_n 0, 1) := by decide +kernel
theorem dX5_comet_44 : decode cX5_comet 44 = .ok (.getfield 26, 3) := by decide +kernel
theorem dX5_comet_47 : decode cX5_comet 47 = .ok (.iload_n 1, 1) := by decide +kernel
theorem dX5_comet_48 : decode cX5_comet 48 = .ok (.iload_n 2, 1) := by decide +kernel
theorem dX5_comet_49 : decode cX5_comet 49 = .ok (.invokevirtual 151, 3) := by decide +kernel
theorem dX5_comet_52 : decode cX5_comet 52 = .ok (.ireturn, 1) := by decide +kernel
set_option maxRecDepth 20000 in
theorem ggX5_count_X5_within : GoodIn wsX5_count wsX5_within := goodIn_r _ [9] (by decide +kernel) (by decide +kernel)
set_option maxRecDepth 20000 in
theorem gX5_count_X5_within : GoodIn wsX5_count (va_wsS RX5 33 yX5_within wsX5_within) := goodIn_app (goodIn_of _ (by decide +kernel)) ggX5_count_X5_within
set_option maxRecDepth 20000 in
theorem ggX5_count_X3_fact : GoodIn wsX5_count wsX3_fact := goodIn_r _ [14, 15, 16, 17, 18, 19, 20, 21, 22, 23, 24, 25, 26, 27, 28, 29, 30, 13, 31, 32, 33, 34, 35, 36, 37, 38, 39, 40, 41, 42, 43, 44, 8, 45, 46, 47, 48, 49, 50, 51, 52, 53, 54, 55, 56, 57, 58, 59, 60, 61, 62, 63, 64, 65, 66, 67, 68, 69, 70, 71, 72, 73, 74, 75, 76, 77, 78, 83, 84, 85, 86, 87, 88, 89, 90, 91, 92, 93, 94, 95, 96, 97, 98, 99, 100, 101, 102, 103, 104, 105, 106, 107, 108, 109] (by decide +kernel) (by decide +kernel)
set_option maxRecDepth 20000 in
theorem gX5_count_X3_fact : GoodIn wsX5_count (wsV RX5 156 RX3 yX3_fact wsX3_fact) := goodIn_app (goodIn_of _ (by decide +kernel)) ggX5_count_X3_fact
theorem dX5_count_0 : decode cX5_count 0 = .ok (.iload_n 1, 1) := by decide +kernel
theorem dX5_count_1 : decode cX5_count 1 = .ok (.iconst 0, 1) := by decide +kernel
theorem dX5_count_2 : decode cX5_count 2 = .ok (.bipush 12, 2) := by decide +kernel
theorem dX5_count_4 : decode cX5_count 4 = .ok (.invokestatic 33, 3) := by decide +kernel
theorem dX5_count_7 : decode cX5_count 7 = .ok (.ifCond .ne 13, 3) := by decide +kernel
theorem dX5_count_10 : decode cX5_count 10 = .ok (.new 71, 3) := by decide +kernel
theorem dX5_count_13 : decode cX5_count 13 = .ok (.dup, 1) := by decide +kernel
theorem dX5_count_14 : decode cX5_count 14 = .ok (.ldc 154, 2) := by decide +kernel
theorem dX5_count_16 : decode cX5_count 16 = .ok (.invokespecial 75, 3) := by decide +kernel
theorem dX5_count_19 : decode cX5_count 19 = .ok (.athrow, 1) := by decide +kernel
theorem dX5_count_20 : decode cX5_count 20 = .ok (.aload_n 0, 1) := by decide +kernel
theorem dX5_count_21 : decode cX5_count 21 = .ok (.getfield 26, 3) := by decide +kernel
theorem dX5_count_24 : decode cX5_count 24 = .ok (.iload_n 1, 1) := by decide +kernel
theorem dX5_count_25 : decode cX5_count 25 = .ok (.aload_n 0, 1) := by decide +kernel
theorem dX5_count_26 : decode cX5_count 26 = .ok (.getfield 10, 3) := by decide +kernel
theorem dX5_count_29 : decode cX5_count 29 = .ok (.aload_n 0, 1) := by decide +kernel
theorem dX5_count_30 : decode cX5_count 30 = .ok (.getfield 19, 3) := by decide +kernel
theorem dX5_count_33 : decode cX5_count 33 = .ok (.invokevirtual 156, 3) := by decide +kernel
theorem dX5_count_36 : decode cX5_count 36 = .ok (.ireturn, 1) := by decide +kernel
set_option maxRecDepth 20000 in
theorem ggX5_next_X1_firstFrom : GoodIn wsX5_next wsX1_firstFrom := goodIn_r _ [8, 9, 10, 11, 12, 13, 7, 14, 15, 16, 17, 18, 32, 33, 34, 35, 36] (by decide +kernel) (by decide +kernel)
set_option maxRecDepth 20000 in
theorem gX5_next_X1_firstFrom : GoodIn wsX5_next (wsV RX5 159 RX1 yX1_firstFrom wsX1_firstFrom) := goodIn_app (goodIn_of _ (by decide +kernel)) ggX5_next_X1_firstFrom
theorem dX5_next_0 : decode cX5_next 0 = .ok (.aload_n 0, 1) := by decide +kernel
theorem dX5_next_1 : decode cX5_next 1 = .ok (.getfield 19, 3) := by decide +kernel
theorem dX5_next_4 : decode cX5_next 4 = .ok (.aload_n 0, 1) := by decide +kernel
theorem dX5_next_5 : decode cX5_next 5 = .ok (.getfield 26, 3) := by decide +kernel
theorem dX5_next_8 : decode cX5_next 8 = .ok (.getfield 110, 3) := by decide +kernel
theorem dX5_next_11 : decode cX5_next 11 = .ok (.invokevirtual 159, 3) := by decide +kernel
theorem dX5_next_14 : decode cX5_next 14 = .ok (.ireturn, 1) := by decide +kernel
set_option maxRecDepth 20000 in
theorem ggX5_when_X1_has : GoodIn wsX5_when wsX1_has := goodIn_r _ [11, 12, 37, 38, 39, 40, 41] (by decide +kernel) (by decide +kernel)
set_option maxRecDepth 20000 in
theorem gX5_when_X1_has : GoodIn wsX5_when (wsV RX5 162 RX1 yX1_has wsX1_has) := goodIn_app (goodIn_of _ (by decide +kernel)) ggX5_when_X1_has
set_option maxRecDepth 20000 in
theorem ggX5_when_X1_timeOf : GoodIn wsX5_when wsX1_timeOf := goodIn_r _ [16, 17, 18, 8, 9, 10, 11, 12, 37, 38, 39, 40, 41] (by decide +kernel) (by decide +kernel)
set_option maxRecDepth 20000 in
theorem gX5_when_X1_timeOf : GoodIn wsX5_when (wsV RX5 165 RX1 yX1_timeOf wsX1_timeOf) := goodIn_app (goodIn_of _ (by decide +kernel)) ggX5_when_X1_timeOf
set_option maxRecDepth 20000 in
theorem ggX5_when_X1_holdWithin : GoodIn wsX5_when wsX1_holdWithin := goodIn_r _ [22, 12, 23, 17, 37, 38, 39, 40, 41] (by decide +kernel) (by decide +kernel)
set_option maxRecDepth 20000 in
theorem gX5_when_X1_holdWithin : GoodIn wsX5_when (wsV RX5 168 RX1 yX1_holdWithin wsX1_holdWithin) := goodIn_app (goodIn_of _ (by decide +kernel)) ggX5_when_X1_holdWithin
theorem dX5_when_0 : decode cX5_when 0 = .ok (.aload_n 0, 1) := by decide +kernel
theorem dX5_when_1 : decode cX5_when 1 = .ok (.getfield 19, 3) := by decide +kernel
theorem dX5_when_4 : decode cX5_when 4 = .ok (.iload_n 1, 1) := by decide +kernel
theorem dX5_when_5 : decode cX5_when 5 = .ok (.invokevirtual 162, 3) := by decide +kernel
theorem dX5_when_8 : decode cX5_when 8 = .ok (.ifCond .ne 13, 3) := by decide +kernel
theorem dX5_when_11 : decode cX5_when 11 = .ok (.new 71, 3) := by decide +kernel
theorem dX5_when_14 : decode cX5_when 14 = .ok (.dup, 1) := by decide +kernel
theorem dX5_when_15 : decode cX5_when 15 = .ok (.ldc 163, 2) := by decide +kernel
theorem dX5_when_17 : decode cX5_when 17 = .ok (.invokespecial 75, 3) := by decide +kernel
theorem dX5_when_20 : decode cX5_when 20 = .ok (.athrow, 1) := by decide +kernel
theorem dX5_when_21 : decode cX5_when 21 = .ok (.aload_n 0, 1) := by decide +kernel
theorem dX5_when_22 : decode cX5_when 22 = .ok (.getfield 19, 3) := by decide +kernel
theorem dX5_when_25 : decode cX5_when 25 = .ok (.iload_n 1, 1) := by decide +kernel
theorem dX5_when_26 : decode cX5_when 26 = .ok (.invokevirtual 165, 3) := by decide +kernel
theorem dX5_when_29 : decode cX5_when 29 = .ok (.istore_n 2, 1) := by decide +kernel
theorem dX5_when_30 : decode cX5_when 30 = .ok (.aload_n 0, 1) := by decide +kernel
theorem dX5_when_31 : decode cX5_when 31 = .ok (.getfield 26, 3) := by decide +kernel
theorem dX5_when_34 : decode cX5_when 34 = .ok (.getfield 104, 3) := by decide +kernel
theorem dX5_when_37 : decode cX5_when 37 = .ok (.ifCond .eq 32, 3) := by decide +kernel
theorem dX5_when_40 : decode cX5_when 40 = .ok (.iload_n 2, 1) := by decide +kernel
theorem dX5_when_41 : decode cX5_when 41 = .ok (.aload_n 0, 1) := by decide +kernel
theorem dX5_when_42 : decode cX5_when 42 = .ok (.getfield 26, 3) := by decide +kernel
theorem dX5_when_45 : decode cX5_when 45 = .ok (.getfield 110, 3) := by decide +kernel
theorem dX5_when_48 : decode cX5_when 48 = .ok (.if_icmp .lt 21, 3) := by decide +kernel
theorem dX5_when_51 : decode cX5_when 51 = .ok (.aload_n 0, 1) := by decide +kernel
theorem dX5_when_52 : decode cX5_when 52 = .ok (.getfield 19, 3) := by decide +kernel
theorem dX5_when_55 : decode cX5_when 55 = .ok (.aload_n 0, 1) := by decide +kernel
theorem dX5_when_56 : decode cX5_when 56 = .ok (.getfield 26, 3) := by decide +kernel
theorem dX5_when_59 : decode cX5_when 59 = .ok (.getfield 110, 3) := by decide +kernel
theorem dX5_when_62 : decode cX5_when 62 = .ok (.iload_n 2, 1) := by decide +kernel
theorem dX5_when_63 : decode cX5_when 63 = .ok (.invokevirtual 168, 3) := by decide +kernel
theorem dX5_when_66 : decode cX5_when 66 = .ok (.ifCond .eq 5, 3) := by decide +kernel
theorem dX5_when_69 : decode cX5_when 69 = .ok (.iconst (-1), 1) := by decide +kernel
theorem dX5_when_70 : decode cX5_when 70 = .ok (.ireturn, 1) := by decide +kernel
theorem dX5_when_71 : decode cX5_when 71 = .ok (.iload_n 2, 1) := by decide +kernel
theorem dX5_when_72 : decode cX5_when 72 = .ok (.aload_n 0, 1) := by decide +kernel
theorem dX5_when_73 : decode cX5_when 73 = .ok (.getfield 26, 3) := by decide +kernel
theorem dX5_when_76 : decode cX5_when 76 = .ok (.getfield 110, 3) := by decide +kernel
theorem dX5_when_79 : decode cX5_when 79 = .ok (.isub, 1) := by decide +kernel
theorem dX5_when_80 : decode cX5_when 80 = .ok (.iconst 1, 1) := by decide +kernel
theorem dX5_when_81 : decode cX5_when 81 = .ok (.iadd, 1) := by decide +kernel
theorem dX5_when_82 : decode cX5_when 82 = .ok (.ireturn, 1) := by decide +kernel
set_option maxRecDepth 20000 in
theorem ggX5_lasts_X2_has : GoodIn wsX5_lasts wsX2_has := goodIn_r _ [11, 12, 121, 122, 123, 124, 125, 126] (by decide +kernel) (by decide +kernel)
set_option maxRecDepth 20000 in
theorem gX5_lasts_X2_has : GoodIn wsX5_lasts (wsV RX5 67 RX2 yX2_has wsX2_has) := goodIn_app (goodIn_of _ (by decide +kernel)) ggX5_lasts_X2_has
set_option maxRecDepth 20000 in
theorem ggX5_lasts_X3_become : GoodIn wsX5_lasts wsX3_become := goodIn_r _ [17, 18, 19, 20, 21, 22, 23, 24, 25, 26, 27, 28, 29, 10, 30, 31, 32, 33, 34, 35, 12, 36, 37, 38, 39, 40, 41, 42, 43, 44, 112, 113, 114, 115, 116, 117, 118, 119, 120, 121, 122, 123, 124, 125, 126, 127, 128, 129, 130] (by decide +kernel) (by decide +kernel)
set_option maxRecDepth 20000 in
theorem gX5_lasts_X3_become : GoodIn wsX5_lasts (wsV RX5 172 RX3 yX3_become wsX3_become) := goodIn_app (goodIn_of _ (by decide +kernel)) ggX5_lasts_X3_become
set_option maxRecDepth 20000 in
theorem ggX5_lasts_X2_hasLife : GoodIn wsX5_lasts wsX2_hasLife := goodIn_r _ [48, 35, 49, 8, 9, 10, 11, 12, 121, 122, 123, 124, 125, 126] (by decide +kernel) (by decide +kernel)
set_option maxRecDepth 20000 in
theorem gX5_lasts_X2_hasLife : GoodIn wsX5_lasts (wsV RX5 176 RX2 yX2_hasLife wsX2_hasLife) := goodIn_app (goodIn_of _ (by decide +kernel)) ggX5_lasts_X2_hasLife
set_option maxRecDepth 20000 in
theorem ggX5_lasts_X3_goOn : GoodIn wsX5_lasts wsX3_goOn := goodIn_r _ [53, 20, 25, 21, 22, 26, 18, 54, 55, 56, 16, 57, 58, 59, 19, 60, 61, 62, 63, 64, 65, 66, 23, 24, 67, 68, 69, 10, 70, 33, 49, 8, 9, 11, 12, 71, 72, 73, 39, 74, 44, 41, 42, 43, 75, 76, 77, 78, 32, 34, 35, 79, 80, 81, 82, 83, 84, 85, 86, 87, 88, 89, 90, 91, 92, 93, 94, 95, 96, 97, 98, 99, 100, 101, 102, 103, 104, 105, 106, 107, 112, 113, 114, 115, 116, 117, 118, 119, 120, 131, 132, 133, 134, 135, 121, 122, 123, 124, 125, 126, 127, 128, 129, 130] (by decide +kernel) (by decide +kernel)
set_option maxRecDepth 20000 in
theorem gX5_lasts_X3_goOn : GoodIn wsX5_lasts (wsV RX5 179 RX3 yX3_goOn wsX3_goOn) := goodIn_app (goodIn_of _ (by decide +kernel)) ggX5_lasts_X3_goOn
theorem dX5_lasts_0 : decode cX5_lasts 0 = .ok (.aload_n 0, 1) := by decide +kernel
theorem dX5_lasts_1 : decode cX5_lasts 1 = .ok (.getfield 26, 3) := by decide +kernel
theorem dX5_lasts_4 : decode cX5_lasts 4 = .ok (.getfield 48, 3) := by decide +kernel
theorem dX5_lasts_7 : decode cX5_lasts 7 = .ok (.iload_n 1, 1) := by decide +kernel
theorem dX5_lasts_8 : decode cX5_lasts 8 = .ok (.invokevirtual 67, 3) := by decide +kernel
theorem dX5_lasts_11 : decode cX5_lasts 11 = .ok (.ifCond .ne 13, 3) := by decide +kernel
theorem dX5_lasts_14 : decode cX5_lasts 14 = .ok (.new 71, 3) := by decide +kernel
theorem dX5_lasts_17 : decode cX5_lasts 17 = .ok (.dup, 1) := by decide +kernel
theorem dX5_lasts_18 : decode cX5_lasts 18 = .ok (.ldc 73, 2) := by decide +kernel
theorem dX5_lasts_20 : decode cX5_lasts 20 = .ok (.invokespecial 75, 3) := by decide +kernel
theorem dX5_lasts_23 : decode cX5_lasts 23 = .ok (.athrow, 1) := by decide +kernel
theorem dX5_lasts_24 : decode cX5_lasts 24 = .ok (.aload_n 0, 1) := by decide +kernel
theorem dX5_lasts_25 : decode cX5_lasts 25 = .ok (.getfield 30, 3) := by decide +kernel
theorem dX5_lasts_28 : decode cX5_lasts 28 = .ok (.aload_n 0, 1) := by decide +kernel
theorem dX5_lasts_29 : decode cX5_lasts 29 = .ok (.getfield 26, 3) := by decide +kernel
theorem dX5_lasts_32 : decode cX5_lasts 32 = .ok (.invokevirtual 172, 3) := by decide +kernel
theorem dX5_lasts_35 : decode cX5_lasts 35 = .ok (.iconst 0, 1) := by decide +kernel
theorem dX5_lasts_36 : decode cX5_lasts 36 = .ok (.istore_n 2, 1) := by decide +kernel
theorem dX5_lasts_37 : decode cX5_lasts 37 = .ok (.iload_n 2, 1) := by decide +kernel
theorem dX5_lasts_38 : decode cX5_lasts 38 = .ok (.sipush 500, 3) := by decide +kernel
theorem dX5_lasts_41 : decode cX5_lasts 41 = .ok (.if_icmp .gt 37, 3) := by decide +kernel
theorem dX5_lasts_44 : decode cX5_lasts 44 = .ok (.aload_n 0, 1) := by decide +kernel
theorem dX5_lasts_45 : decode cX5_lasts 45 = .ok (.getfield 30, 3) := by decide +kernel
theorem dX5_lasts_48 : decode cX5_lasts 48 = .ok (.getfield 48, 3) := by decide +kernel
theorem dX5_lasts_51 : decode cX5_lasts 51 = .ok (.iload_n 1, 1) := by decide +kernel
theorem dX5_lasts_52 : decode cX5_lasts 52 = .ok (.invokevirtual 176, 3) := by decide +kernel
theorem dX5_lasts_55 : decode cX5_lasts 55 = .ok (.ifCond .ne 5, 3) := by decide +kernel
theorem dX5_lasts_58 : decode cX5_lasts 58 = .ok (.iload_n 2, 1) := by decide +kernel
theorem dX5_lasts_59 : decode cX5_lasts 59 = .ok (.ireturn, 1) := by decide +kernel
theorem dX5_lasts_60 : decode cX5_lasts 60 = .ok (.aload_n 0, 1) := by decide +kernel
theorem dX5_lasts_61 : decode cX5_lasts 61 = .ok (.getfield 30, 3) := by decide +kernel
theorem dX5_lasts_64 : decode cX5_lasts 64 = .ok (.aload_n 0, 1) := by decide +kernel
theorem dX5_lasts_65 : decode cX5_lasts 65 = .ok (.getfield 19, 3) := by decide +kernel
theorem dX5_lasts_68 : decode cX5_lasts 68 = .ok (.invokevirtual 179, 3) := by decide +kernel
theorem dX5_lasts_71 : decode cX5_lasts 71 = .ok (.pop, 1) := by decide +kernel
theorem dX5_lasts_72 : decode cX5_lasts 72 = .ok (.iinc 2 1, 3) := by decide +kernel
theorem dX5_lasts_75 : decode cX5_lasts 75 = .ok (.goto (-38), 3) := by decide +kernel
theorem dX5_lasts_78 : decode cX5_lasts 78 = .ok (.iconst (-1), 1) := by decide +kernel
theorem dX5_lasts_79 : decode cX5_lasts 79 = .ok (.ireturn, 1) := by decide +kernel
set_option maxRecDepth 20000 in
theorem ggX5_foresee_X5_within : GoodIn wsX5_foresee wsX5_within := goodIn_r _ [12] (by decide +kernel) (by decide +kernel)
set_option maxRecDepth 20000 in
theorem gX5_foresee_X5_within : GoodIn wsX5_foresee (va_wsS RX5 33 yX5_within wsX5_within) := goodIn_app (goodIn_of _ (by decide +kernel)) ggX5_foresee_X5_within
set_option maxRecDepth 20000 in
theorem ggX5_foresee_X5_foreseeable : GoodIn wsX5_foresee wsX5_foreseeable := goodIn_r _ [15] (by decide +kernel) (by decide +kernel)
set_option maxRecDepth 20000 in
theorem gX5_foresee_X5_foreseeable : GoodIn wsX5_foresee (va_wsS RX5 183 yX5_foreseeable wsX5_foreseeable) := goodIn_app (goodIn_of _ (by decide +kernel)) ggX5_foresee_X5_foreseeable
set_option maxRecDepth 20000 in
theorem ggX5_foresee_X3_become : GoodIn wsX5_foresee wsX3_become := goodIn_r _ [20, 21, 22, 23, 24, 25, 26, 27, 28, 29, 30, 31, 32, 33, 34, 35, 36, 37, 38, 39, 40, 41, 42, 43, 44, 45, 46, 47, 48, 49, 165, 166, 167, 168, 169, 170, 171, 172, 173, 174, 175, 176, 177, 178, 179, 180, 181, 182, 183] (by decide +kernel) (by decide +kernel)
set_option maxRecDepth 20000 in
theorem gX5_foresee_X3_become : GoodIn wsX5_foresee (wsV RX5 172 RX3 yX3_become wsX3_become) := goodIn_app (goodIn_of _ (by decide +kernel)) ggX5_foresee_X3_become
set_option maxRecDepth 20000 in
theorem ggX5_foresee_X3_goOnFor : GoodIn wsX5_foresee wsX3_goOnFor := goodIn_r _ [53, 54, 55, 56, 19, 57, 23, 28, 24, 25, 29, 21, 58, 59, 60, 61, 62, 63, 22, 64, 65, 66, 67, 68, 69, 70, 26, 27, 71, 72, 73, 33, 74, 37, 75, 76, 77, 78, 40, 79, 80, 81, 44, 82, 49, 46, 47, 48, 83, 84, 85, 86, 36, 38, 39, 87, 88, 89, 90, 91, 92, 93, 94, 95, 96, 97, 98, 99, 100, 101, 11, 102, 103, 104, 105, 106, 107, 108, 109, 110, 111, 112, 113, 114, 165, 166, 167, 168, 169, 170, 171, 172, 173, 184, 185, 186, 187, 188, 174, 175, 176, 177, 178, 179, 180, 181, 182, 183] (by decide +kernel) (by decide +kernel)
set_option maxRecDepth 20000 in
theorem gX5_foresee_X3_goOnFor : GoodIn wsX5_foresee (wsV RX5 120 RX3 yX3_goOnFor wsX3_goOnFor) := goodIn_app (goodIn_of _ (by decide +kernel)) ggX5_foresee_X3_goOnFor
set_option maxRecDepth 20000 in
theorem ggX5_foresee_X3_fact : GoodIn wsX5_foresee wsX3_fact := goodIn_r _ [118, 21, 22, 23, 28, 119, 120, 29, 121, 62, 26, 27, 24, 25, 122, 123, 124, 19, 125, 126, 127, 128, 129, 130, 131, 132, 133, 134, 135, 136, 137, 101, 11, 102, 103, 104, 105, 106, 138, 139, 140, 141, 142, 143, 144, 33, 145, 40, 35, 36, 146, 147, 148, 149, 150, 151, 152, 153, 154, 155, 156, 157, 158, 159, 44, 160, 49, 165, 166, 167, 168, 169, 170, 171, 172, 173, 174, 175, 176, 177, 178, 179, 189, 190, 191, 180, 181, 182, 183, 184, 185, 186, 187, 188] (by decide +kernel) (by decide +kernel)
set_option maxRecDepth 20000 in
theorem gX5_foresee_X3_fact : GoodIn wsX5_foresee (wsV RX5 156 RX3 yX3_fact wsX3_fact) := goodIn_app (goodIn_of _ (by decide +kernel)) ggX5_foresee_X3_fact
theorem dX5_foresee_0 : decode cX5_foresee 0 = .ok (.iload_n 1, 1) := by decide +kernel
theorem dX5_foresee_1 : decode cX5_foresee 1 = .ok (.iconst 1, 1) := by decide +kernel
theorem dX5_foresee_2 : decode cX5_foresee 2 = .ok (.sipush 500, 3) := by decide +kernel
theorem dX5_foresee_5 : decode cX5_foresee 5 = .ok (.invokestatic 33, 3) := by decide +kernel
theorem dX5_foresee_8 : decode cX5_foresee 8 = .ok (.ifCond .ne 13, 3) := by decide +kernel
theorem dX5_foresee_11 : decode cX5_foresee 11 = .ok (.new 37, 3) := by decide +kernel
theorem dX5_foresee_14 : decode cX5_foresee 14 = .ok (.dup, 1) := by decide +kernel
theorem dX5_foresee_15 : decode cX5_foresee 15 = .ok (.ldc 118, 2) := by decide +kernel
theorem dX5_foresee_17 : decode cX5_foresee 17 = .ok (.invokespecial 41, 3) := by decide +kernel
theorem dX5_foresee_20 : decode cX5_foresee 20 = .ok (.athrow, 1) := by decide +kernel
theorem dX5_foresee_21 : decode cX5_foresee 21 = .ok (.iload_n 2, 1) := by decide +kernel
theorem dX5_foresee_22 : decode cX5_foresee 22 = .ok (.invokestatic 183, 3) := by decide +kernel
theorem dX5_foresee_25 : decode cX5_foresee 25 = .ok (.ifCond .ne 13, 3) := by decide +kernel
theorem dX5_foresee_28 : decode cX5_foresee 28 = .ok (.new 71, 3) := by decide +kernel
theorem dX5_foresee_31 : decode cX5_foresee 31 = .ok (.dup, 1) := by decide +kernel
theorem dX5_foresee_32 : decode cX5_foresee 32 = .ok (.ldc 186, 2) := by decide +kernel
theorem dX5_foresee_34 : decode cX5_foresee 34 = .ok (.invokespecial 75, 3) := by decide +kernel
theorem dX5_foresee_37 : decode cX5_foresee 37 = .ok (.athrow, 1) := by decide +kernel
theorem dX5_foresee_38 : decode cX5_foresee 38 = .ok (.aload_n 0, 1) := by decide +kernel
theorem dX5_foresee_39 : decode cX5_foresee 39 = .ok (.getfield 30, 3) := by decide +kernel
theorem dX5_foresee_42 : decode cX5_foresee 42 = .ok (.aload_n 0, 1) := by decide +kernel
theorem dX5_foresee_43 : decode cX5_foresee 43 = .ok (.getfield 26, 3) := by decide +kernel
theorem dX5_foresee_46 : decode cX5_foresee 46 = .ok (.invokevirtual 172, 3) := by decide +kernel
theorem dX5_foresee_49 : decode cX5_foresee 49 = .ok (.aload_n 0, 1) := by decide +kernel
theorem dX5_foresee_50 : decode cX5_foresee 50 = .ok (.getfield 30, 3) := by decide +kernel
theorem dX5_foresee_53 : decode cX5_foresee 53 = .ok (.iload_n 1, 1) := by decide +kernel
theorem dX5_foresee_54 : decode cX5_foresee 54 = .ok (.aload_n 0, 1) := by decide +kernel
theorem dX5_foresee_55 : decode cX5_foresee 55 = .ok (.getfield 19, 3) := by decide +kernel
theorem dX5_foresee_58 : decode cX5_foresee 58 = .ok (.invokevirtual 120, 3) := by decide +kernel
theorem dX5_foresee_61 : decode cX5_foresee 61 = .ok (.pop, 1) := by decide +kernel
theorem dX5_foresee_62 : decode cX5_foresee 62 = .ok (.aload_n 0, 1) := by decide +kernel
theorem dX5_foresee_63 : decode cX5_foresee 63 = .ok (.getfield 30, 3) := by decide +kernel
theorem dX5_foresee_66 : decode cX5_foresee 66 = .ok (.iload_n 2, 1) := by decide +kernel
theorem dX5_foresee_67 : decode cX5_foresee 67 = .ok (.aload_n 0, 1) := by decide +kernel
theorem dX5_foresee_68 : decode cX5_foresee 68 = .ok (.getfield 10, 3) := by decide +kernel
theorem dX5_foresee_71 : decode cX5_foresee 71 = .ok (.aload_n 0, 1) := by decide +kernel
theorem dX5_foresee_72 : decode cX5_foresee 72 = .ok (.getfield 19, 3) := by decide +kernel
theorem dX5_foresee_75 : decode cX5_foresee 75 = .ok (.invokevirtual 156, 3) := by decide +kernel
theorem dX5_foresee_78 : decode cX5_foresee 78 = .ok (.ireturn, 1) := by decide +kernel
set_option maxRecDepth 20000 in
theorem ggX5_darkest_X2_glareOn : GoodIn wsX5_darkest wsX2_glareOn := goodIn_r _ [7, 8, 9, 10, 11, 12, 13, 14, 28, 29, 30, 31, 32, 33] (by decide +kernel) (by decide +kernel)
set_option maxRecDepth 20000 in
theorem gX5_darkest_X2_glareOn : GoodIn wsX5_darkest (wsV RX5 129 RX2 yX2_glareOn wsX2_glareOn) := goodIn_app (goodIn_of _ (by decide +kernel)) ggX5_darkest_X2_glareOn
theorem dX5_darkest_0 : decode cX5_darkest 0 = .ok (.iconst 0, 1) := by decide +kernel
theorem dX5_darkest_1 : decode cX5_darkest 1 = .ok (.istore_n 1, 1) := by decide +kernel
theorem dX5_darkest_2 : decode cX5_darkest 2 = .ok (.iconst 1, 1) := by decide +kernel
theorem dX5_darkest_3 : decode cX5_darkest 3 = .ok (.istore_n 2, 1) := by decide +kernel
theorem dX5_darkest_4 : decode cX5_darkest 4 = .ok (.iload_n 2, 1) := by decide +kernel
theorem dX5_darkest_5 : decode cX5_darkest 5 = .ok (.bipush 12, 2) := by decide +kernel
theorem dX5_darkest_7 : decode cX5_darkest 7 = .ok (.if_icmp .ge 36, 3) := by decide +kernel
theorem dX5_darkest_10 : decode cX5_darkest 10 = .ok (.aload_n 0, 1) := by decide +kernel
theorem dX5_darkest_11 : decode cX5_darkest 11 = .ok (.getfield 26, 3) := by decide +kernel
theorem dX5_darkest_14 : decode cX5_darkest 14 = .ok (.getfield 48, 3) := by decide +kernel
theorem dX5_darkest_17 : decode cX5_darkest 17 = .ok (.iload_n 2, 1) := by decide +kernel
theorem dX5_darkest_18 : decode cX5_darkest 18 = .ok (.invokevirtual 129, 3) := by decide +kernel
theorem dX5_darkest_21 : decode cX5_darkest 21 = .ok (.aload_n 0, 1) := by decide +kernel
theorem dX5_darkest_22 : decode cX5_darkest 22 = .ok (.getfield 26, 3) := by decide +kernel
theorem dX5_darkest_25 : decode cX5_darkest 25 = .ok (.getfield 48, 3) := by decide +kernel
theorem dX5_darkest_28 : decode cX5_darkest 28 = .ok (.iload_n 1, 1) := by decide +kernel
theorem dX5_darkest_29 : decode cX5_darkest 29 = .ok (.invokevirtual 129, 3) := by decide +kernel
theorem dX5_darkest_32 : decode cX5_darkest 32 = .ok (.if_icmp .ge 5, 3) := by decide +kernel
theorem dX5_darkest_35 : decode cX5_darkest 35 = .ok (.iload_n 2, 1) := by decide +kernel
theorem dX5_darkest_36 : decode cX5_darkest 36 = .ok (.istore_n 1, 1) := by decide +kernel
theorem dX5_darkest_37 : decode cX5_darkest 37 = .ok (.iinc 2 1, 3) := by decide +kernel
theorem dX5_darkest_40 : decode cX5_darkest 40 = .ok (.goto (-36), 3) := by decide +kernel
theorem dX5_darkest_43 : decode cX5_darkest 43 = .ok (.iload_n 1, 1) := by decide +kernel
theorem dX5_darkest_44 : decode cX5_darkest 44 = .ok (.ireturn, 1) := by decide +kernel
set_option maxRecDepth 20000 in
theorem ggX5_mean_X2_glareOn : GoodIn wsX5_mean wsX2_glareOn := goodIn_r _ [8, 9, 10, 11, 12, 13, 14, 15, 29, 30, 31, 32, 33, 34] (by decide +kernel) (by decide +kernel)
set_option maxRecDepth 20000 in
theorem gX5_mean_X2_glareOn : GoodIn wsX5_mean (wsV RX5 129 RX2 yX2_glareOn wsX2_glareOn) := goodIn_app (goodIn_of _ (by decide +kernel)) ggX5_mean_X2_glareOn
theorem dX5_mean_0 : decode cX5_mean 0 = .ok (.iconst 0, 1) := by decide +kernel
theorem dX5_mean_1 : decode cX5_mean 1 = .ok (.istore_n 1, 1) := by decide +kernel
theorem dX5_mean_2 : decode cX5_mean 2 = .ok (.iconst 0, 1) := by decide +kernel
theorem dX5_mean_3 : decode cX5_mean 3 = .ok (.istore_n 2, 1) := by decide +kernel
theorem dX5_mean_4 : decode cX5_mean 4 = .ok (.iload_n 2, 1) := by decide +kernel
theorem dX5_mean_5 : decode cX5_mean 5 = .ok (.bipush 12, 2) := by decide +kernel
theorem dX5_mean_7 : decode cX5_mean 7 = .ok (.if_icmp .ge 23, 3) := by decide +kernel
theorem dX5_mean_10 : decode cX5_mean 10 = .ok (.iload_n 1, 1) := by decide +kernel
theorem dX5_mean_11 : decode cX5_mean 11 = .ok (.aload_n 0, 1) := by decide +kernel
theorem dX5_mean_12 : decode cX5_mean 12 = .ok (.getfield 26, 3) := by decide +kernel
theorem dX5_mean_15 : decode cX5_mean 15 = .ok (.getfield 48, 3) := by decide +kernel
theorem dX5_mean_18 : decode cX5_mean 18 = .ok (.iload_n 2, 1) := by decide +kernel
theorem dX5_mean_19 : decode cX5_mean 19 = .ok (.invokevirtual 129, 3) := by decide +kernel
theorem dX5_mean_22 : decode cX5_mean 22 = .ok (.iadd, 1) := by decide +kernel
theorem dX5_mean_23 : decode cX5_mean 23 = .ok (.istore_n 1, 1) := by decide +kernel
theorem dX5_mean_24 : decode cX5_mean 24 = .ok (.iinc 2 1, 3) := by decide +kernel
theorem dX5_mean_27 : decode cX5_mean 27 = .ok (.goto (-23), 3) := by decide +kernel
theorem dX5_mean_30 : decode cX5_mean 30 = .ok (.iload_n 1, 1) := by decide +kernel
theorem dX5_mean_31 : decode cX5_mean 31 = .ok (.i2d, 1) := by decide +kernel
theorem dX5_mean_32 : decode cX5_mean 32 = .ok (.ldc2_w 188, 3) := by decide +kernel
theorem dX5_mean_35 : decode cX5_mean 35 = .ok (.ddiv, 1) := by decide +kernel
theorem dX5_mean_36 : decode cX5_mean 36 = .ok (.dreturn, 1) := by decide +kernel
set_option maxRecDepth 20000 in
theorem ggX5_digest_X3_fact : GoodIn wsX5_digest wsX3_fact := goodIn_r _ [10, 11, 12, 13, 14, 15, 16, 17, 18, 19, 20, 21, 22, 23, 24, 25, 26, 9, 27, 28, 29, 30, 31, 32, 33, 34, 35, 36, 37, 38, 39, 40, 41, 42, 43, 44, 45, 46, 47, 48, 49, 50, 51, 52, 53, 54, 55, 56, 57, 58, 59, 60, 61, 62, 63, 64, 65, 66, 67, 68, 69, 70, 71, 72, 73, 74, 75, 140, 141, 142, 143, 144, 145, 146, 147, 148, 149, 150, 151, 152, 153, 154, 155, 156, 157, 158, 159, 160, 161, 162, 163, 164, 165, 166] (by decide +kernel) (by decide +kernel)
set_option maxRecDepth 20000 in
theorem gX5_digest_X3_fact : GoodIn wsX5_digest (wsV RX5 156 RX3 yX3_fact wsX3_fact) := goodIn_app (goodIn_of _ (by decide +kernel)) ggX5_digest_X3_fact
set_option maxRecDepth 20000 in
theorem ggX5_digest_X5_joined : GoodIn wsX5_digest wsX5_joined := goodIn_r _ [78, 79] (by decide +kernel) (by decide +kernel)
set_option maxRecDepth 20000 in
theorem gX5_digest_X5_joined : GoodIn wsX5_digest (va_wsS RX5 192 yX5_joined wsX5_joined) := goodIn_app (goodIn_of _ (by decide +kernel)) ggX5_digest_X5_joined
set_option maxRecDepth 20000 in
theorem ggX5_digest_X2_glareOn : GoodIn wsX5_digest wsX2_glareOn := goodIn_r _ [55, 56, 57, 58, 59, 44, 45, 46, 149, 150, 151, 152, 153, 154] (by decide +kernel) (by decide +kernel)
set_option maxRecDepth 20000 in
theorem gX5_digest_X2_glareOn : GoodIn wsX5_digest (wsV RX5 129 RX2 yX2_glareOn wsX2_glareOn) := goodIn_app (goodIn_of _ (by decide +kernel)) ggX5_digest_X2_glareOn
set_option maxRecDepth 20000 in
theorem ggX5_digest_X5_joinedDimmers : GoodIn wsX5_digest wsX5_joinedDimmers := goodIn_r _ [84, 2, 5, 85, 86, 87, 88, 54, 89, 57, 58, 90, 91, 92, 93, 94, 95, 96, 56, 76, 77, 41, 78, 79, 136, 137, 138, 139, 140, 141, 142, 143, 144, 145, 146, 147, 148, 149, 150, 151, 152, 153, 154] (by decide +kernel) (by decide +kernel)
set_option maxRecDepth 20000 in
theorem gX5_digest_X5_joinedDimmers : GoodIn wsX5_digest (wsV RX5 196 RX5 yX5_joinedDimmers wsX5_joinedDimmers) := goodIn_app (goodIn_of _ (by decide +kernel)) ggX5_digest_X5_joinedDimmers
set_option maxRecDepth 20000 in
theorem ggX5_digest_X5_joinedStars : GoodIn wsX5_digest wsX5_joinedStars := goodIn_r _ [100, 3, 101, 2, 102, 103, 104, 9, 105, 32, 33, 22, 34, 35, 36, 37, 38, 39, 40, 41, 42, 43, 44, 45, 46, 28, 29, 30, 31, 47, 48, 49, 50, 14, 51, 52, 53, 54, 55, 56, 57, 58, 59, 76, 77, 78, 79, 136, 137, 138, 139, 155, 156, 157, 140, 141, 142, 143, 144, 145, 146, 147, 148, 149, 150, 151, 152, 153, 154] (by decide +kernel) (by decide +kernel)
set_option maxRecDepth 20000 in
theorem gX5_digest_X5_joinedStars : GoodIn wsX5_digest (wsV RX5 200 RX5 yX5_joinedStars wsX5_joinedStars) := goodIn_app (goodIn_of _ (by decide +kernel)) ggX5_digest_X5_joinedStars
set_option maxRecDepth 20000 in
theorem ggX5_digest_X5_joinedComets : GoodIn wsX5_digest wsX5_joinedComets := goodIn_r _ [109, 2, 110, 111, 112, 113, 114, 9, 115, 17, 69, 116, 68, 70, 71, 72, 73, 74, 75, 64, 65, 66, 67, 47, 48, 49, 50, 14, 51, 52, 53, 54, 55, 56, 57, 58, 59, 44, 45, 46, 76, 77, 41, 78, 79, 136, 137, 138, 139, 140, 141, 142, 143, 144, 145, 146, 147, 148, 158, 159, 160, 161, 149, 150, 151, 152, 153, 154] (by decide +kernel) (by decide +kernel)
set_option maxRecDepth 20000 in
theorem gX5_digest_X5_joinedComets : GoodIn wsX5_digest (wsV RX5 203 RX5 yX5_joinedComets wsX5_joinedComets) := goodIn_app (goodIn_of _ (by decide +kernel)) ggX5_digest_X5_joinedComets
set_option maxRecDepth 20000 in
theorem ggX5_digest_X5_joinedCues : GoodIn wsX5_digest wsX5_joinedCues := goodIn_r _ [120, 4, 121, 122, 123, 124, 125, 126, 127, 128, 129, 130, 131, 132, 133, 134, 135, 76, 77, 41, 78, 79, 136, 137, 138, 139, 162, 163, 164, 165, 166] (by decide +kernel) (by decide +kernel)
set_option maxRecDepth 20000 in
theorem gX5_digest_X5_joinedCues : GoodIn wsX5_digest (wsV RX5 206 RX5 yX5_joinedCues wsX5_joinedCues) := goodIn_app (goodIn_of _ (by decide +kernel)) ggX5_digest_X5_joinedCues
theorem dX5_digest_0 : decode cX5_digest 0 = .ok (.ldc2_w 190, 3) := by decide +kernel
theorem dX5_digest_3 : decode cX5_digest 3 = .ok (.lstore_n 1, 1) := by decide +kernel
theorem dX5_digest_4 : decode cX5_digest 4 = .ok (.iconst 0, 1) := by decide +kernel
theorem dX5_digest_5 : decode cX5_digest 5 = .ok (.istore_n 3, 1) := by decide +kernel
theorem dX5_digest_6 : decode cX5_digest 6 = .ok (.iload_n 3, 1) := by decide +kernel
theorem dX5_digest_7 : decode cX5_digest 7 = .ok (.bipush 13, 2) := by decide +kernel
theorem dX5_digest_9 : decode cX5_digest 9 = .ok (.if_icmp .ge 30, 3) := by decide +kernel
theorem dX5_digest_12 : decode cX5_digest 12 = .ok (.lload_n 1, 1) := by decide +kernel
theorem dX5_digest_13 : decode cX5_digest 13 = .ok (.aload_n 0, 1) := by decide +kernel
theorem dX5_digest_14 : decode cX5_digest 14 = .ok (.getfield 26, 3) := by decide +kernel
theorem dX5_digest_17 : decode cX5_digest 17 = .ok (.iload_n 3, 1) := by decide +kernel
theorem dX5_digest_18 : decode cX5_digest 18 = .ok (.aload_n 0, 1) := by decide +kernel
theorem dX5_digest_19 : decode cX5_digest 19 = .ok (.getfield 10, 3) := by decide +kernel
theorem dX5_digest_22 : decode cX5_digest 22 = .ok (.aload_n 0, 1) := by decide +kernel
theorem dX5_digest_23 : decode cX5_digest 23 = .ok (.getfield 19, 3) := by decide +kernel
theorem dX5_digest_26 : decode cX5_digest 26 = .ok (.invokevirtual 156, 3) := by decide +kernel
theorem dX5_digest_29 : decode cX5_digest 29 = .ok (.invokestatic 192, 3) := by decide +kernel
theorem dX5_digest_32 : decode cX5_digest 32 = .ok (.lstore_n 1, 1) := by decide +kernel
theorem dX5_digest_33 : decode cX5_digest 33 = .ok (.iinc 3 1, 3) := by decide +kernel
theorem dX5_digest_36 : decode cX5_digest 36 = .ok (.goto (-30), 3) := by decide +kernel
theorem dX5_digest_39 : decode cX5_digest 39 = .ok (.iconst 0, 1) := by decide +kernel
theorem dX5_digest_40 : decode cX5_digest 40 = .ok (.istore_n 3, 1) := by decide +kernel
theorem dX5_digest_41 : decode cX5_digest 41 = .ok (.iload_n 3, 1) := by decide +kernel
theorem dX5_digest_42 : decode cX5_digest 42 = .ok (.bipush 12, 2) := by decide +kernel
theorem dX5_digest_44 : decode cX5_digest 44 = .ok (.if_icmp .ge 25, 3) := by decide +kernel
theorem dX5_digest_47 : decode cX5_digest 47 = .ok (.lload_n 1, 1) := by decide +kernel
theorem dX5_digest_48 : decode cX5_digest 48 = .ok (.aload_n 0, 1) := by decide +kernel
theorem dX5_digest_49 : decode cX5_digest 49 = .ok (.getfield 26, 3) := by decide +kernel
theorem dX5_digest_52 : decode cX5_digest 52 = .ok (.getfield 48, 3) := by decide +kernel
theorem dX5_digest_55 : decode cX5_digest 55 = .ok (.iload_n 3, 1) := by decide +kernel
theorem dX5_digest_56 : decode cX5_digest 56 = .ok (.invokevirtual 129, 3) := by decide +kernel
theorem dX5_digest_59 : decode cX5_digest 59 = .ok (.invokestatic 192, 3) := by decide +kernel
theorem dX5_digest_62 : decode cX5_digest 62 = .ok (.lstore_n 1, 1) := by decide +kernel
theorem dX5_digest_63 : decode cX5_digest 63 = .ok (.iinc 3 1, 3) := by decide +kernel
theorem dX5_digest_66 : decode cX5_digest 66 = .ok (.goto (-25), 3) := by decide +kernel
theorem dX5_digest_69 : decode cX5_digest 69 = .ok (.aload_n 0, 1) := by decide +kernel
theorem dX5_digest_70 : decode cX5_digest 70 = .ok (.lload_n 1, 1) := by decide +kernel
theorem dX5_digest_71 : decode cX5_digest 71 = .ok (.invokevirtual 196, 3) := by decide +kernel
theorem dX5_digest_74 : decode cX5_digest 74 = .ok (.lstore_n 1, 1) := by decide +kernel
theorem dX5_digest_75 : decode cX5_digest 75 = .ok (.aload_n 0, 1) := by decide +kernel
theorem dX5_digest_76 : decode cX5_digest 76 = .ok (.lload_n 1, 1) := by decide +kernel
theorem dX5_digest_77 : decode cX5_digest 77 = .ok (.invokevirtual 200, 3) := by decide +kernel
theorem dX5_digest_80 : decode cX5_digest 80 = .ok (.lstore_n 1, 1) := by decide +kernel
theorem dX5_digest_81 : decode cX5_digest 81 = .ok (.aload_n 0, 1) := by decide +kernel
theorem dX5_digest_82 : decode cX5_digest 82 = .ok (.lload_n 1, 1) := by decide +kernel
theorem dX5_digest_83 : decode cX5_digest 83 = .ok (.invokevirtual 203, 3) := by decide +kernel
theorem dX5_digest_86 : decode cX5_digest 86 = .ok (.lstore_n 1, 1) := by decide +kernel
theorem dX5_digest_87 : decode cX5_digest 87 = .ok (.aload_n 0, 1) := by decide +kernel
theorem dX5_digest_88 : decode cX5_digest 88 = .ok (.lload_n 1, 1) := by decide +kernel
theorem dX5_digest_89 : decode cX5_digest 89 = .ok (.invokevirtual 206, 3) := by decide +kernel
theorem dX5_digest_92 : decode cX5_digest 92 = .ok (.lreturn, 1) := by decide +kernel
set_option maxRecDepth 20000 in
theorem ggX5_joinedDimmers_X2_fact : GoodIn wsX5_joinedDimmers wsX2_fact := goodIn_r _ [8, 9, 10, 11, 12, 13, 14, 15, 16, 7, 17, 18, 37, 38, 39, 40, 41, 42] (by decide +kernel) (by decide +kernel)
set_option maxRecDepth 20000 in
theorem gX5_joinedDimmers_X2_fact : GoodIn wsX5_joinedDimmers (wsV RX5 126 RX2 yX2_fact wsX2_fact) := goodIn_app (goodIn_of _ (by decide +kernel)) ggX5_joinedDimmers_X2_fact
set_option maxRecDepth 20000 in
theorem ggX5_joinedDimmers_X5_joined : GoodIn wsX5_joinedDimmers wsX5_joined := goodIn_r _ [22, 23] (by decide +kernel) (by decide +kernel)
set_option maxRecDepth 20000 in
theorem gX5_joinedDimmers_X5_joined : GoodIn wsX5_joinedDimmers (va_wsS RX5 192 yX5_joined wsX5_joined) := goodIn_app (goodIn_of _ (by decide +kernel)) ggX5_joinedDimmers_X5_joined
theorem dX5_joinedDimmers_0 : decode cX5_joinedDimmers 0 = .ok (.lload_n 1, 1) := by decide +kernel
theorem dX5_joinedDimmers_1 : decode cX5_joinedDimmers 1 = .ok (.lstore_n 3, 1) := by decide +kernel
theorem dX5_joinedDimmers_2 : decode cX5_joinedDimmers 2 = .ok (.iconst 0, 1) := by decide +kernel
theorem dX5_joinedDimmers_3 : decode cX5_joinedDimmers 3 = .ok (.istore 5, 2) := by decide +kernel
theorem dX5_joinedDimmers_5 : decode cX5_joinedDimmers 5 = .ok (.iload 5, 2) := by decide +kernel
theorem dX5_joinedDimmers_7 : decode cX5_joinedDimmers 7 = .ok (.aload_n 0, 1) := by decide +kernel
theorem dX5_joinedDimmers_8 : decode cX5_joinedDimmers 8 = .ok (.getfield 26, 3) := by decide +kernel
theorem dX5_joinedDimmers_11 : decode cX5_joinedDimmers 11 = .ok (.getfield 48, 3) := by decide +kernel
theorem dX5_joinedDimmers_14 : decode cX5_joinedDimmers 14 = .ok (.getfield 52, 3) := by decide +kernel
theorem dX5_joinedDimmers_17 : decode cX5_joinedDimmers 17 = .ok (.if_icmp .ge 43, 3) := by decide +kernel
theorem dX5_joinedDimmers_20 : decode cX5_joinedDimmers 20 = .ok (.iconst 0, 1) := by decide +kernel
theorem dX5_joinedDimmers_21 : decode cX5_joinedDimmers 21 = .ok (.istore 6, 2) := by decide +kernel
theorem dX5_joinedDimmers_23 : decode cX5_joinedDimmers 23 = .ok (.iload 6, 2) := by decide +kernel
theorem dX5_joinedDimmers_25 : decode cX5_joinedDimmers 25 = .ok (.iconst 5, 1) := by decide +kernel
theorem dX5_joinedDimmers_26 : decode cX5_joinedDimmers 26 = .ok (.if_icmp .ge 28, 3) := by decide +kernel
theorem dX5_joinedDimmers_29 : decode cX5_joinedDimmers 29 = .ok (.lload_n 3, 1) := by decide +kernel
theorem dX5_joinedDimmers_30 : decode cX5_joinedDimmers 30 = .ok (.aload_n 0, 1) := by decide +kernel
theorem dX5_joinedDimmers_31 : decode cX5_joinedDimmers 31 = .ok (.getfield 26, 3) := by decide +kernel
theorem dX5_joinedDimmers_34 : decode cX5_joinedDimmers 34 = .ok (.getfield 48, 3) := by decide +kernel
theorem dX5_joinedDimmers_37 : decode cX5_joinedDimmers 37 = .ok (.iload 5, 2) := by decide +kernel
theorem dX5_joinedDimmers_39 : decode cX5_joinedDimmers 39 = .ok (.iload 6, 2) := by decide +kernel
theorem dX5_joinedDimmers_41 : decode cX5_joinedDimmers 41 = .ok (.invokevirtual 126, 3) := by decide +kernel
theorem dX5_joinedDimmers_44 : decode cX5_joinedDimmers 44 = .ok (.invokestatic 192, 3) := by decide +kernel
theorem dX5_joinedDimmers_47 : decode cX5_joinedDimmers 47 = .ok (.lstore_n 3, 1) := by decide +kernel
theorem dX5_joinedDimmers_48 : decode cX5_joinedDimmers 48 = .ok (.iinc 6 1, 3) := by decide +kernel
theorem dX5_joinedDimmers_51 : decode cX5_joinedDimmers 51 = .ok (.goto (-28), 3) := by decide +kernel
theorem dX5_joinedDimmers_54 : decode cX5_joinedDimmers 54 = .ok (.iinc 5 1, 3) := by decide +kernel
theorem dX5_joinedDimmers_57 : decode cX5_joinedDimmers 57 = .ok (.goto (-52), 3) := by decide +kernel
theorem dX5_joinedDimmers_60 : decode cX5_joinedDimmers 60 = .ok (.lload_n 3, 1) := by decide +kernel
theorem dX5_joinedDimmers_61 : decode cX5_joinedDimmers 61 = .ok (.lreturn, 1) := by decide +kernel
set_option maxRecDepth 20000 in
theorem ggX5_joinedStars_X3_factOfStar : GoodIn wsX5_joinedStars wsX3_factOfStar := goodIn_r _ [8, 9, 10, 11, 12, 13, 14, 15, 16, 17, 18, 19, 20, 21, 22, 23, 24, 25, 26, 27, 7, 28, 29, 30, 31, 32, 33, 34, 35, 36, 37, 38, 39, 40, 41, 42, 51, 52, 53, 54, 55, 56, 57, 58, 59, 60, 61, 62, 63, 64, 65, 66, 67, 68] (by decide +kernel) (by decide +kernel)
set_option maxRecDepth 20000 in
theorem gX5_joinedStars_X3_factOfStar : GoodIn wsX5_joinedStars (wsV RX5 138 RX3 yX3_factOfStar wsX3_factOfStar) := goodIn_app (goodIn_of _ (by decide +kernel)) ggX5_joinedStars_X3_factOfStar
set_option maxRecDepth 20000 in
theorem ggX5_joinedStars_X5_joined : GoodIn wsX5_joinedStars wsX5_joined := goodIn_r _ [45, 46] (by decide +kernel) (by decide +kernel)
set_option maxRecDepth 20000 in
theorem gX5_joinedStars_X5_joined : GoodIn wsX5_joinedStars (va_wsS RX5 192 yX5_joined wsX5_joined) := goodIn_app (goodIn_of _ (by decide +kernel)) ggX5_joinedStars_X5_joined
theorem dX5_joinedStars_0 : decode cX5_joinedStars 0 = .ok (.lload_n 1, 1) := by decide +kernel
theorem dX5_joinedStars_1 : decode cX5_joinedStars 1 = .ok (.lstore_n 3, 1) := by decide +kernel
theorem dX5_joinedStars_2 : decode cX5_joinedStars 2 = .ok (.iconst 0, 1) := by decide +kernel
theorem dX5_joinedStars_3 : decode cX5_joinedStars 3 = .ok (.istore 5, 2) := by decide +kernel
theorem dX5_joinedStars_5 : decode cX5_joinedStars 5 = .ok (.iload 5, 2) := by decide +kernel
theorem dX5_joinedStars_7 : decode cX5_joinedStars 7 = .ok (.aload_n 0, 1) := by decide +kernel
theorem dX5_joinedStars_8 : decode cX5_joinedStars 8 = .ok (.getfield 10, 3) := by decide +kernel
theorem dX5_joinedStars_11 : decode cX5_joinedStars 11 = .ok (.getfield 84, 3) := by decide +kernel
theorem dX5_joinedStars_14 : decode cX5_joinedStars 14 = .ok (.if_icmp .ge 44, 3) := by decide +kernel
theorem dX5_joinedStars_17 : decode cX5_joinedStars 17 = .ok (.iconst 0, 1) := by decide +kernel
theorem dX5_joinedStars_18 : decode cX5_joinedStars 18 = .ok (.istore 6, 2) := by decide +kernel
theorem dX5_joinedStars_20 : decode cX5_joinedStars 20 = .ok (.iload 6, 2) := by decide +kernel
theorem dX5_joinedStars_22 : decode cX5_joinedStars 22 = .ok (.iconst 4, 1) := by decide +kernel
theorem dX5_joinedStars_23 : decode cX5_joinedStars 23 = .ok (.if_icmp .ge 29, 3) := by decide +kernel
theorem dX5_joinedStars_26 : decode cX5_joinedStars 26 = .ok (.lload_n 3, 1) := by decide +kernel
theorem dX5_joinedStars_27 : decode cX5_joinedStars 27 = .ok (.aload_n 0, 1) := by decide +kernel
theorem dX5_joinedStars_28 : decode cX5_joinedStars 28 = .ok (.getfield 26, 3) := by decide +kernel
theorem dX5_joinedStars_31 : decode cX5_joinedStars 31 = .ok (.aload_n 0, 1) := by decide +kernel
theorem dX5_joinedStars_32 : decode cX5_joinedStars 32 = .ok (.getfield 10, 3) := by decide +kernel
theorem dX5_joinedStars_35 : decode cX5_joinedStars 35 = .ok (.iload 5, 2) := by decide +kernel
theorem dX5_joinedStars_37 : decode cX5_joinedStars 37 = .ok (.iload 6, 2) := by decide +kernel
theorem dX5_joinedStars_39 : decode cX5_joinedStars 39 = .ok (.invokevirtual 138, 3) := by decide +kernel
theorem dX5_joinedStars_42 : decode cX5_joinedStars 42 = .ok (.invokestatic 192, 3) := by decide +kernel
theorem dX5_joinedStars_45 : decode cX5_joinedStars 45 = .ok (.lstore_n 3, 1) := by decide +kernel
theorem dX5_joinedStars_46 : decode cX5_joinedStars 46 = .ok (.iinc 6 1, 3) := by decide +kernel
theorem dX5_joinedStars_49 : decode cX5_joinedStars 49 = .ok (.goto (-29), 3) := by decide +kernel
theorem dX5_joinedStars_52 : decode cX5_joinedStars 52 = .ok (.iinc 5 1, 3) := by decide +kernel
theorem dX5_joinedStars_55 : decode cX5_joinedStars 55 = .ok (.goto (-50), 3) := by decide +kernel
theorem dX5_joinedStars_58 : decode cX5_joinedStars 58 = .ok (.lload_n 3, 1) := by decide +kernel
theorem dX5_joinedStars_59 : decode cX5_joinedStars 59 = .ok (.lreturn, 1) := by decide +kernel
set_option maxRecDepth 20000 in
theorem ggX5_joinedComets_X3_factOfComet : GoodIn wsX5_joinedComets wsX3_factOfComet := goodIn_r _ [8, 9, 10, 11, 12, 13, 14, 15, 16, 17, 18, 19, 20, 21, 7, 22, 23, 24, 25, 26, 27, 28, 29, 30, 31, 32, 33, 34, 35, 36, 37, 38, 39, 49, 50, 51, 52, 53, 54, 55, 56, 57, 58, 59, 60, 61, 62, 63, 64, 65, 66, 67] (by decide +kernel) (by decide +kernel)
set_option maxRecDepth 20000 in
theorem gX5_joinedComets_X3_factOfComet : GoodIn wsX5_joinedComets (wsV RX5 151 RX3 yX3_factOfComet wsX3_factOfComet) := goodIn_app (goodIn_of _ (by decide +kernel)) ggX5_joinedComets_X3_factOfComet
set_option maxRecDepth 20000 in
theorem ggX5_joinedComets_X5_joined : GoodIn wsX5_joinedComets wsX5_joined := goodIn_r _ [43, 44] (by decide +kernel) (by decide +kernel)
set_option maxRecDepth 20000 in
theorem gX5_joinedComets_X5_joined : GoodIn wsX5_joinedComets (va_wsS RX5 192 yX5_joined wsX5_joined) := goodIn_app (goodIn_of _ (by decide +kernel)) ggX5_joinedComets_X5_joined
theorem dX5_joinedComets_0 : decode cX5_joinedComets 0 = .ok (.lload_n 1, 1) := by decide +kernel
theorem dX5_joinedComets_1 : decode cX5_joinedComets 1 = .ok (.lstore_n 3, 1) := by decide +kernel
theorem dX5_joinedComets_2 : decode cX5_joinedComets 2 = .ok (.iconst 0, 1) := by decide +kernel
theorem dX5_joinedComets_3 : decode cX5_joinedComets 3 = .ok (.istore 5, 2) := by decide +kernel
theorem dX5_joinedComets_5 : decode cX5_joinedComets 5 = .ok (.iload 5, 2) := by decide +kernel
theorem dX5_joinedComets_7 : decode cX5_joinedComets 7 = .ok (.aload_n 0, 1) := by decide +kernel
theorem dX5_joinedComets_8 : decode cX5_joinedComets 8 = .ok (.getfield 26, 3) := by decide +kernel
theorem dX5_joinedComets_11 : decode cX5_joinedComets 11 = .ok (.getfield 142, 3) := by decide +kernel
theorem dX5_joinedComets_14 : decode cX5_joinedComets 14 = .ok (.getfield 209, 3) := by decide +kernel
theorem dX5_joinedComets_17 : decode cX5_joinedComets 17 = .ok (.if_icmp .ge 40, 3) := by decide +kernel
theorem dX5_joinedComets_20 : decode cX5_joinedComets 20 = .ok (.iconst 0, 1) := by decide +kernel
theorem dX5_joinedComets_21 : decode cX5_joinedComets 21 = .ok (.istore 6, 2) := by decide +kernel
theorem dX5_joinedComets_23 : decode cX5_joinedComets 23 = .ok (.iload 6, 2) := by decide +kernel
theorem dX5_joinedComets_25 : decode cX5_joinedComets 25 = .ok (.iconst 4, 1) := by decide +kernel
theorem dX5_joinedComets_26 : decode cX5_joinedComets 26 = .ok (.if_icmp .ge 25, 3) := by decide +kernel
theorem dX5_joinedComets_29 : decode cX5_joinedComets 29 = .ok (.lload_n 3, 1) := by decide +kernel
theorem dX5_joinedComets_30 : decode cX5_joinedComets 30 = .ok (.aload_n 0, 1) := by decide +kernel
theorem dX5_joinedComets_31 : decode cX5_joinedComets 31 = .ok (.getfield 26, 3) := by decide +kernel
theorem dX5_joinedComets_34 : decode cX5_joinedComets 34 = .ok (.iload 5, 2) := by decide +kernel
theorem dX5_joinedComets_36 : decode cX5_joinedComets 36 = .ok (.iload 6, 2) := by decide +kernel
theorem dX5_joinedComets_38 : decode cX5_joinedComets 38 = .ok (.invokevirtual 151, 3) := by decide +kernel
theorem dX5_joinedComets_41 : decode cX5_joinedComets 41 = .ok (.invokestatic 192, 3) := by decide +kernel
theorem dX5_joinedComets_44 : decode cX5_joinedComets 44 = .ok (.lstore_n 3, 1) := by decide +kernel
theorem dX5_joinedComets_45 : decode cX5_joinedComets 45 = .ok (.iinc 6 1, 3) := by decide +kernel
theorem dX5_joinedComets_48 : decode cX5_joinedComets 48 = .ok (.goto (-25), 3) := by decide +kernel
theorem dX5_joinedComets_51 : decode cX5_joinedComets 51 = .ok (.iinc 5 1, 3) := by decide +kernel
theorem dX5_joinedComets_54 : decode cX5_joinedComets 54 = .ok (.goto (-49), 3) := by decide +kernel
theorem dX5_joinedComets_57 : decode cX5_joinedComets 57 = .ok (.lload_n 3, 1) := by decide +kernel
theorem dX5_joinedComets_58 : decode cX5_joinedComets 58 = .ok (.lreturn, 1) := by decide +kernel
set_option maxRecDepth 20000 in
theorem ggX5_joinedCues_X1_fact : GoodIn wsX5_joinedCues wsX1_fact := goodIn_r _ [7, 8, 9, 10, 11, 12, 13, 14, 6, 15, 16, 26, 27, 28, 29, 30] (by decide +kernel) (by decide +kernel)
set_option maxRecDepth 20000 in
theorem gX5_joinedCues_X1_fact : GoodIn wsX5_joinedCues (wsV RX5 210 RX1 yX1_fact wsX1_fact) := goodIn_app (goodIn_of _ (by decide +kernel)) ggX5_joinedCues_X1_fact
set_option maxRecDepth 20000 in
theorem ggX5_joinedCues_X5_joined : GoodIn wsX5_joinedCues wsX5_joined := goodIn_r _ [20, 21] (by decide +kernel) (by decide +kernel)
set_option maxRecDepth 20000 in
theorem gX5_joinedCues_X5_joined : GoodIn wsX5_joinedCues (va_wsS RX5 192 yX5_joined wsX5_joined) := goodIn_app (goodIn_of _ (by decide +kernel)) ggX5_joinedCues_X5_joined
theorem dX5_joinedCues_0 : decode cX5_joinedCues 0 = .ok (.lload_n 1, 1) := by decide +kernel
theorem dX5_joinedCues_1 : decode cX5_joinedCues 1 = .ok (.lstore_n 3, 1) := by decide +kernel
theorem dX5_joinedCues_2 : decode cX5_joinedCues 2 = .ok (.iconst 0, 1) := by decide +kernel
theorem dX5_joinedCues_3 : decode cX5_joinedCues 3 = .ok (.istore 5, 2) := by decide +kernel
theorem dX5_joinedCues_5 : decode cX5_joinedCues 5 = .ok (.iload 5, 2) := by decide +kernel
theorem dX5_joinedCues_7 : decode cX5_joinedCues 7 = .ok (.aload_n 0, 1) := by decide +kernel
theorem dX5_joinedCues_8 : decode cX5_joinedCues 8 = .ok (.getfield 19, 3) := by decide +kernel
theorem dX5_joinedCues_11 : decode cX5_joinedCues 11 = .ok (.getfield 98, 3) := by decide +kernel
theorem dX5_joinedCues_14 : decode cX5_joinedCues 14 = .ok (.if_icmp .ge 40, 3) := by decide +kernel
theorem dX5_joinedCues_17 : decode cX5_joinedCues 17 = .ok (.iconst 0, 1) := by decide +kernel
theorem dX5_joinedCues_18 : decode cX5_joinedCues 18 = .ok (.istore 6, 2) := by decide +kernel
theorem dX5_joinedCues_20 : decode cX5_joinedCues 20 = .ok (.iload 6, 2) := by decide +kernel
theorem dX5_joinedCues_22 : decode cX5_joinedCues 22 = .ok (.iconst 4, 1) := by decide +kernel
theorem dX5_joinedCues_23 : decode cX5_joinedCues 23 = .ok (.if_icmp .ge 25, 3) := by decide +kernel
theorem dX5_joinedCues_26 : decode cX5_joinedCues 26 = .ok (.lload_n 3, 1) := by decide +kernel
theorem dX5_joinedCues_27 : decode cX5_joinedCues 27 = .ok (.aload_n 0, 1) := by decide +kernel
theorem dX5_joinedCues_28 : decode cX5_joinedCues 28 = .ok (.getfield 19, 3) := by decide +kernel
theorem dX5_joinedCues_31 : decode cX5_joinedCues 31 = .ok (.iload 5, 2) := by decide +kernel
theorem dX5_joinedCues_33 : decode cX5_joinedCues 33 = .ok (.iload 6, 2) := by decide +kernel
theorem dX5_joinedCues_35 : decode cX5_joinedCues 35 = .ok (.invokevirtual 210, 3) := by decide +kernel
theorem dX5_joinedCues_38 : decode cX5_joinedCues 38 = .ok (.invokestatic 192, 3) := by decide +kernel
theorem dX5_joinedCues_41 : decode cX5_joinedCues 41 = .ok (.lstore_n 3, 1) := by decide +kernel
theorem dX5_joinedCues_42 : decode cX5_joinedCues 42 = .ok (.iinc 6 1, 3) := by decide +kernel
theorem dX5_joinedCues_45 : decode cX5_joinedCues 45 = .ok (.goto (-25), 3) := by decide +kernel
theorem dX5_joinedCues_48 : decode cX5_joinedCues 48 = .ok (.iinc 5 1, 3) := by decide +kernel
theorem dX5_joinedCues_51 : decode cX5_joinedCues 51 = .ok (.goto (-46), 3) := by decide +kernel
theorem dX5_joinedCues_54 : decode cX5_joinedCues 54 = .ok (.lload_n 3, 1) := by decide +kernel
theorem dX5_joinedCues_55 : decode cX5_joinedCues 55 = .ok (.lreturn, 1) := by decide +kernel
theorem dX5_joined_0 : decode cX5_joined 0 = .ok (.lload_n 0, 1) := by decide +kernel
theorem dX5_joined_1 : decode cX5_joined 1 = .ok (.ldc2_w 211, 3) := by decide +kernel
theorem dX5_joined_4 : decode cX5_joined 4 = .ok (.lmul, 1) := by decide +kernel
theorem dX5_joined_5 : decode cX5_joined 5 = .ok (.iload_n 2, 1) := by decide +kernel
theorem dX5_joined_6 : decode cX5_joined 6 = .ok (.i2l, 1) := by decide +kernel
theorem dX5_joined_7 : decode cX5_joined 7 = .ok (.ladd, 1) := by decide +kernel
theorem dX5_joined_8 : decode cX5_joined 8 = .ok (.lreturn, 1) := by decide +kernel
set_option maxRecDepth 20000 in
theorem ggX5_suits_X2_has : GoodIn wsX5_suits wsX2_has := goodIn_r _ [7, 8, 26, 27, 28, 29, 30, 31] (by decide +kernel) (by decide +kernel)
set_option maxRecDepth 20000 in
theorem gX5_suits_X2_has : GoodIn wsX5_suits (wsV RX5 67 RX2 yX2_has wsX2_has) := goodIn_app (goodIn_of _ (by decide +kernel)) ggX5_suits_X2_has
set_option maxRecDepth 20000 in
theorem ggX5_suits_X5_within : GoodIn wsX5_suits wsX5_within := goodIn_r _ [12] (by decide +kernel) (by decide +kernel)
set_option maxRecDepth 20000 in
theorem gX5_suits_X5_within : GoodIn wsX5_suits (va_wsS RX5 33 yX5_within wsX5_within) := goodIn_app (goodIn_of _ (by decide +kernel)) ggX5_suits_X5_within
theorem dX5_suits_0 : decode cX5_suits 0 = .ok (.iload_n 1, 1) := by decide +kernel
theorem dX5_suits_1 : decode cX5_suits 1 = .ok (.tableswitch 154 0 4 #[35, 65, 86, 114, 140], 35) := by decide +kernel
theorem dX5_suits_36 : decode cX5_suits 36 = .ok (.aload_n 0, 1) := by decide +kernel
theorem dX5_suits_37 : decode cX5_suits 37 = .ok (.getfield 26, 3) := by decide +kernel
theorem dX5_suits_40 : decode cX5_suits 40 = .ok (.getfield 48, 3) := by decide +kernel
theorem dX5_suits_43 : decode cX5_suits 43 = .ok (.iload_n 2, 1) := by decide +kernel
theorem dX5_suits_44 : decode cX5_suits 44 = .ok (.invokevirtual 67, 3) := by decide +kernel
theorem dX5_suits_47 : decode cX5_suits 47 = .ok (.ifCond .eq 17, 3) := by decide +kernel
theorem dX5_suits_50 : decode cX5_suits 50 = .ok (.iload_n 3, 1) := by decide +kernel
theorem dX5_suits_51 : decode cX5_suits 51 = .ok (.iconst 0, 1) := by decide +kernel
theorem dX5_suits_52 : decode cX5_suits 52 = .ok (.bipush 100, 2) := by decide +kernel
theorem dX5_suits_54 : decode cX5_suits 54 = .ok (.invokestatic 33, 3) := by decide +kernel
theorem dX5_suits_57 : decode cX5_suits 57 = .ok (.ifCond .eq 7, 3) := by decide +kernel
theorem dX5_suits_60 : decode cX5_suits 60 = .ok (.iconst 1, 1) := by decide +kernel
theorem dX5_suits_61 : decode cX5_suits 61 = .ok (.goto 4, 3) := by decide +kernel
theorem dX5_suits_64 : decode cX5_suits 64 = .ok (.iconst 0, 1) := by decide +kernel
theorem dX5_suits_65 : decode cX5_suits 65 = .ok (.ireturn, 1) := by decide +kernel
theorem dX5_suits_66 : decode cX5_suits 66 = .ok (.iload_n 2, 1) := by decide +kernel
theorem dX5_suits_67 : decode cX5_suits 67 = .ok (.ifCond .ne 18, 3) := by decide +kernel
theorem dX5_suits_70 : decode cX5_suits 70 = .ok (.iload_n 3, 1) := by decide +kernel
theorem dX5_suits_71 : decode cX5_suits 71 = .ok (.bipush (-30), 2) := by decide +kernel
theorem dX5_suits_73 : decode cX5_suits 73 = .ok (.bipush 30, 2) := by decide +kernel
theorem dX5_suits_75 : decode cX5_suits 75 = .ok (.invokestatic 33, 3) := by decide +kernel
theorem dX5_suits_78 : decode cX5_suits 78 = .ok (.ifCond .eq 7, 3) := by decide +kernel
theorem dX5_suits_81 : decode cX5_suits 81 = .ok (.iconst 1, 1) := by decide +kernel
theorem dX5_suits_82 : decode cX5_suits 82 = .ok (.goto 4, 3) := by decide +kernel
theorem dX5_suits_85 : decode cX5_suits 85 = .ok (.iconst 0, 1) := by decide +kernel
theorem dX5_suits_86 : decode cX5_suits 86 = .ok (.ireturn, 1) := by decide +kernel
theorem dX5_suits_87 : decode cX5_suits 87 = .ok (.iload_n 2, 1) := by decide +kernel
theorem dX5_suits_88 : decode cX5_suits 88 = .ok (.iconst 0, 1) := by decide +kernel
theorem dX5_suits_89 : decode cX5_suits 89 = .ok (.sipush 359, 3) := by decide +kernel
theorem dX5_suits_92 : decode cX5_suits 92 = .ok (.invokestatic 33, 3) := by decide +kernel
theorem dX5_suits_95 : decode cX5_suits 95 = .ok (.ifCond .eq 18, 3) := by decide +kernel
theorem dX5_suits_98 : decode cX5_suits 98 = .ok (.iload_n 3, 1) := by decide +kernel
theorem dX5_suits_99 : decode cX5_suits 99 = .ok (.bipush (-20), 2) := by decide +kernel
theorem dX5_suits_101 : decode cX5_suits 101 = .ok (.bipush 20, 2) := by decide +kernel
theorem dX5_suits_103 : decode cX5_suits 103 = .ok (.invokestatic 33, 3) := by decide +kernel
theorem dX5_suits_106 : decode cX5_suits 106 = .ok (.ifCond .eq 7, 3) := by decide +kernel
theorem dX5_suits_109 : decode cX5_suits 109 = .ok (.iconst 1, 1) := by decide +kernel
theorem dX5_suits_110 : decode cX5_suits 110 = .ok (.goto 4, 3) := by decide +kernel
theorem dX5_suits_113 : decode cX5_suits 113 = .ok (.iconst 0, 1) := by decide +kernel
theorem dX5_suits_114 : decode cX5_suits 114 = .ok (.ireturn, 1) := by decide +kernel
theorem dX5_suits_115 : decode cX5_suits 115 = .ok (.iload_n 2, 1) := by decide +kernel
theorem dX5_suits_116 : decode cX5_suits 116 = .ok (.iconst 0, 1) := by decide +kernel
theorem dX5_suits_117 : decode cX5_suits 117 = .ok (.bipush 99, 2) := by decide +kernel
theorem dX5_suits_119 : decode cX5_suits 119 = .ok (.invokestatic 33, 3) := by decide +kernel
theorem dX5_suits_122 : decode cX5_suits 122 = .ok (.ifCond .eq 17, 3) := by decide +kernel
theorem dX5_suits_125 : decode cX5_suits 125 = .ok (.iload_n 3, 1) := by decide +kernel
theorem dX5_suits_126 : decode cX5_suits 126 = .ok (.iconst 1, 1) := by decide +kernel
theorem dX5_suits_127 : decode cX5_suits 127 = .ok (.bipush 60, 2) := by decide +kernel
theorem dX5_suits_129 : decode cX5_suits 129 = .ok (.invokestatic 33, 3) := by decide +kernel
theorem dX5_suits_132 : decode cX5_suits 132 = .ok (.ifCond .eq 7, 3) := by decide +kernel
theorem dX5_suits_135 : decode cX5_suits 135 = .ok (.iconst 1, 1) := by decide +kernel
theorem dX5_suits_136 : decode cX5_suits 136 = .ok (.goto 4, 3) := by decide +kernel
theorem dX5_suits_139 : decode cX5_suits 139 = .ok (.iconst 0, 1) := by decide +kernel
theorem dX5_suits_140 : decode cX5_suits 140 = .ok (.ireturn, 1) := by decide +kernel
theorem dX5_suits_141 : decode cX5_suits 141 = .ok (.iload_n 2, 1) := by decide +kernel
theorem dX5_suits_142 : decode cX5_suits 142 = .ok (.ifCond .ne 11, 3) := by decide +kernel
theorem dX5_suits_145 : decode cX5_suits 145 = .ok (.iload_n 3, 1) := by decide +kernel
theorem dX5_suits_146 : decode cX5_suits 146 = .ok (.ifCond .ne 7, 3) := by decide +kernel
theorem dX5_suits_149 : decode cX5_suits 149 = .ok (.iconst 1, 1) := by decide +kernel
theorem dX5_suits_150 : decode cX5_suits 150 = .ok (.goto 4, 3) := by decide +kernel
theorem dX5_suits_153 : decode cX5_suits 153 = .ok (.iconst 0, 1) := by decide +kernel
theorem dX5_suits_154 : decode cX5_suits 154 = .ok (.ireturn, 1) := by decide +kernel
theorem dX5_suits_155 : decode cX5_suits 155 = .ok (.iconst 0, 1) := by decide +kernel
theorem dX5_suits_156 : decode cX5_suits 156 = .ok (.ireturn, 1) := by decide +kernel
theorem dX5_foreseeable_0 : decode cX5_foreseeable 0 = .ok (.iload_n 0, 1) := by decide +kernel
theorem dX5_foreseeable_1 : decode cX5_foreseeable 1 = .ok (.iconst 1, 1) := by decide +kernel
theorem dX5_foreseeable_2 : decode cX5_foreseeable 2 = .ok (.if_icmp .eq 26, 3) := by decide +kernel
theorem dX5_foreseeable_5 : decode cX5_foreseeable 5 = .ok (.iload_n 0, 1) := by decide +kernel
theorem dX5_foreseeable_6 : decode cX5_foreseeable 6 = .ok (.iconst 5, 1) := by decide +kernel
theorem dX5_foreseeable_7 : decode cX5_foreseeable 7 = .ok (.if_icmp .eq 21, 3) := by decide +kernel
theorem dX5_foreseeable_10 : decode cX5_foreseeable 10 = .ok (.iload_n 0, 1) := by decide +kernel
theorem dX5_foreseeable_11 : decode cX5_foreseeable 11 = .ok (.bipush 7, 2) := by decide +kernel
theorem dX5_foreseeable_13 : decode cX5_foreseeable 13 = .ok (.if_icmp .eq 15, 3) := by decide +kernel
theorem dX5_foreseeable_16 : decode cX5_foreseeable 16 = .ok (.iload_n 0, 1) := by decide +kernel
theorem dX5_foreseeable_17 : decode cX5_foreseeable 17 = .ok (.bipush 8, 2) := by decide +kernel
theorem dX5_foreseeable_19 : decode cX5_foreseeable 19 = .ok (.if_icmp .eq 9, 3) := by decide +kernel
theorem dX5_foreseeable_22 : decode cX5_foreseeable 22 = .ok (.iload_n 0, 1) := by decide +kernel
theorem dX5_foreseeable_23 : decode cX5_foreseeable 23 = .ok (.bipush 11, 2) := by decide +kernel
theorem dX5_foreseeable_25 : decode cX5_foreseeable 25 = .ok (.if_icmp .ne 7, 3) := by decide +kernel
theorem dX5_foreseeable_28 : decode cX5_foreseeable 28 = .ok (.iconst 1, 1) := by decide +kernel
theorem dX5_foreseeable_29 : decode cX5_foreseeable 29 = .ok (.goto 4, 3) := by decide +kernel
theorem dX5_foreseeable_32 : decode cX5_foreseeable 32 = .ok (.iconst 0, 1) := by decide +kernel
theorem dX5_foreseeable_33 : decode cX5_foreseeable 33 = .ok (.ireturn, 1) := by decide +kernel
theorem dX5_within_0 : decode cX5_within 0 = .ok (.iload_n 0, 1) := by decide +kernel
theorem dX5_within_1 : decode cX5_within 1 = .ok (.iload_n 1, 1) := by decide +kernel
theorem dX5_within_2 : decode cX5_within 2 = .ok (.if_icmp .lt 12, 3) := by decide +kernel
theorem dX5_within_5 : decode cX5_within 5 = .ok (.iload_n 0, 1) := by decide +kernel
theorem dX5_within_6 : decode cX5_within 6 = .ok (.iload_n 2, 1) := by decide +kernel
theorem dX5_within_7 : decode cX5_within 7 = .ok (.if_icmp .gt 7, 3) := by decide +kernel
theorem dX5_within_10 : decode cX5_within 10 = .ok (.iconst 1, 1) := by decide +kernel
theorem dX5_within_11 : decode cX5_within 11 = .ok (.goto 4, 3) := by decide +kernel
theorem dX5_within_14 : decode cX5_within 14 = .ok (.iconst 0, 1) := by decide +kernel
theorem dX5_within_15 : decode cX5_within 15 = .ok (.ireturn, 1) := by decide +kernel
set_option maxRecDepth 20000 in
theorem ggX5_turned_J9_floorMod_7cf53 : GoodIn wsX5_turned wsJ9_floorMod_7cf53 := goodIn_r _ [4] (by decide +kernel) (by decide +kernel)
set_option maxRecDepth 20000 in
theorem gX5_turned_J9_floorMod_7cf53 : GoodIn wsX5_turned (va_wsS RX5 213 yJ9_floorMod_7cf53 wsJ9_floorMod_7cf53) := goodIn_app (goodIn_of _ (by decide +kernel)) ggX5_turned_J9_floorMod_7cf53
theorem dX5_turned_0 : decode cX5_turned 0 = .ok (.iload_n 0, 1) := by decide +kernel
theorem dX5_turned_1 : decode cX5_turned 1 = .ok (.iload_n 1, 1) := by decide +kernel
theorem dX5_turned_2 : decode cX5_turned 2 = .ok (.iadd, 1) := by decide +kernel
theorem dX5_turned_3 : decode cX5_turned 3 = .ok (.sipush 360, 3) := by decide +kernel
theorem dX5_turned_6 : decode cX5_turned 6 = .ok (.invokestatic 213, 3) := by decide +kernel
theorem dX5_turned_9 : decode cX5_turned 9 = .ok (.ireturn, 1) := by decide +kernel
end
section
theorem dX6_init_0 : decode cX6_init 0 = .ok (.aload_n 0, 1) := by decide +kernel
theorem dX6_init_1 : decode cX6_init 1 = .ok (.invokespecial 1, 3) := by decide +kernel
theorem dX6_init_4 : decode cX6_init 4 = .ok (.aload_n 0, 1) := by decide +kernel
theorem dX6_init_5 : decode cX6_init 5 = .ok (.bipush 40, 2) := by decide +kernel
theorem dX6_init_7 : decode cX6_init 7 = .ok (.newarray .int, 2) := by decide +kernel
theorem dX6_init_9 : decode cX6_init 9 = .ok (.putfield 9, 3) := by decide +kernel
theorem dX6_init_12 : decode cX6_init 12 = .ok (.aload_n 0, 1) := by decide +kernel
theorem dX6_init_13 : decode cX6_init 13 = .ok (.bipush 40, 2) := by decide +kernel
theorem dX6_init_15 : decode cX6_init 15 = .ok (.newarray .int, 2) := by decide +kernel
theorem dX6_init_17 : decode cX6_init 17 = .ok (.putfield 13, 3) := by decide +kernel
theorem dX6_init_20 : decode cX6_init 20 = .ok (.aload_n 0, 1) := by decide +kernel
theorem dX6_init_21 : decode cX6_init 21 = .ok (.bipush 36, 2) := by decide +kernel
theorem dX6_init_23 : decode cX6_init 23 = .ok (.newarray .int, 2) := by decide +kernel
theorem dX6_init_25 : decode cX6_init 25 = .ok (.putfield 16, 3) := by decide +kernel
theorem dX6_init_28 : decode cX6_init 28 = .ok (.aload_n 0, 1) := by decide +kernel
theorem dX6_init_29 : decode cX6_init 29 = .ok (.bipush 96, 2) := by decide +kernel
theorem dX6_init_31 : decode cX6_init 31 = .ok (.newarray .int, 2) := by decide +kernel
theorem dX6_init_33 : decode cX6_init 33 = .ok (.putfield 19, 3) := by decide +kernel
theorem dX6_init_36 : decode cX6_init 36 = .ok (.aload_n 0, 1) := by decide +kernel
theorem dX6_init_37 : decode cX6_init 37 = .ok (.bipush 8, 2) := by decide +kernel
theorem dX6_init_39 : decode cX6_init 39 = .ok (.newarray .int, 2) := by decide +kernel
theorem dX6_init_41 : decode cX6_init 41 = .ok (.dup, 1) := by decide +kernel
theorem dX6_init_42 : decode cX6_init 42 = .ok (.iconst 0, 1) := by decide +kernel
theorem dX6_init_43 : decode cX6_init 43 = .ok (.iconst 0, 1) := by decide +kernel
theorem dX6_init_44 : decode cX6_init 44 = .ok (.iastore, 1) := by decide +kernel
theorem dX6_init_45 : decode cX6_init 45 = .ok (.dup, 1) := by decide +kernel
theorem dX6_init_46 : decode cX6_init 46 = .ok (.iconst 1, 1) := by decide +kernel
theorem dX6_init_47 : decode cX6_init 47 = .ok (.iconst 0, 1) := by decide +kernel
theorem dX6_init_48 : decode cX6_init 48 = .ok (.iastore, 1) := by decide +kernel
theorem dX6_init_49 : decode cX6_init 49 = .ok (.dup, 1) := by decide +kernel
theorem dX6_init_50 : decode cX6_init 50 = .ok (.iconst 2, 1) := by decide +kernel
theorem dX6_init_51 : decode cX6_init 51 = .ok (.iconst 0, 1) := by decide +kernel
theorem dX6_init_52 : decode cX6_init 52 = .ok (.iastore, 1) := by decide +kernel
theorem dX6_init_53 : decode cX6_init 53 = .ok (.dup, 1) := by decide +kernel
theorem dX6_init_54 : decode cX6_init 54 = .ok (.iconst 3, 1) := by decide +kernel
theorem dX6_init_55 : decode cX6_init 55 = .ok (.iconst (-1), 1) := by decide +kernel
theorem dX6_init_56 : decode cX6_init 56 = .ok (.iastore, 1) := by decide +kernel
theorem dX6_init_57 : decode cX6_init 57 = .ok (.dup, 1) := by decide +kernel
theorem dX6_init_58 : decode cX6_init 58 = .ok (.iconst 4, 1) := by decide +kernel
theorem dX6_init_59 : decode cX6_init 59 = .ok (.iconst 0, 1) := by decide +kernel
theorem dX6_init_60 : decode cX6_init 60 = .ok (.iastore, 1) := by decide +kernel
theorem dX6_init_61 : decode cX6_init 61 = .ok (.dup, 1) := by decide +kernel
theorem dX6_init_62 : decode cX6_init 62 = .ok (.iconst 5, 1) := by decide +kernel
theorem dX6_init_63 : decode cX6_init 63 = .ok (.iconst 0, 1) := by decide +kernel
theorem dX6_init_64 : decode cX6_init 64 = .ok (.iastore, 1) := by decide +kernel
theorem dX6_init_65 : decode cX6_init 65 = .ok (.dup, 1) := by decide +kernel
theorem dX6_init_66 : decode cX6_init 66 = .ok (.bipush 6, 2) := by decide +kernel
theorem dX6_init_68 : decode cX6_init 68 = .ok (.iconst 0, 1) := by decide +kernel
theorem dX6_init_69 : decode cX6_init 69 = .ok (.iastore, 1) := by decide +kernel
theorem dX6_init_70 : decode cX6_init 70 = .ok (.dup, 1) := by decide +kernel
theorem dX6_init_71 : decode cX6_init 71 = .ok (.bipush 7, 2) := by decide +kernel
theorem dX6_init_73 : decode cX6_init 73 = .ok (.iconst 0, 1) := by decide +kernel
theorem dX6_init_74 : decode cX6_init 74 = .ok (.iastore, 1) := by decide +kernel
theorem dX6_init_75 : decode cX6_init 75 = .ok (.putfield 22, 3) := by decide +kernel
theorem dX6_init_78 : decode cX6_init 78 = .ok (.return_, 1) := by decide +kernel
theorem dX6_thrown_0 : decode cX6_thrown 0 = .ok (.aload_n 0, 1) := by decide +kernel
theorem dX6_thrown_1 : decode cX6_thrown 1 = .ok (.getfield 25, 3) := by decide +kernel
theorem dX6_thrown_4 : decode cX6_thrown 4 = .ok (.ireturn, 1) := by decide +kernel
theorem dX6_fail_0 : decode cX6_fail 0 = .ok (.aload_n 0, 1) := by decide +kernel
theorem dX6_fail_1 : decode cX6_fail 1 = .ok (.iload_n 1, 1) := by decide +kernel
theorem dX6_fail_2 : decode cX6_fail 2 = .ok (.putfield 25, 3) := by decide +kernel
theorem dX6_fail_5 : decode cX6_fail 5 = .ok (.iconst 0, 1) := by decide +kernel
theorem dX6_fail_6 : decode cX6_fail 6 = .ok (.ireturn, 1) := by decide +kernel
theorem dX6_isIn_0 : decode cX6_isIn 0 = .ok (.iload_n 0, 1) := by decide +kernel
theorem dX6_isIn_1 : decode cX6_isIn 1 = .ok (.iload_n 1, 1) := by decide +kernel
theorem dX6_isIn_2 : decode cX6_isIn 2 = .ok (.if_icmp .lt 12, 3) := by decide +kernel
theorem dX6_isIn_5 : decode cX6_isIn 5 = .ok (.iload_n 0, 1) := by decide +kernel
theorem dX6_isIn_6 : decode cX6_isIn 6 = .ok (.iload_n 2, 1) := by decide +kernel
theorem dX6_isIn_7 : decode cX6_isIn 7 = .ok (.if_icmp .gt 7, 3) := by decide +kernel
theorem dX6_isIn_10 : decode cX6_isIn 10 = .ok (.iconst 1, 1) := by decide +kernel
theorem dX6_isIn_11 : decode cX6_isIn 11 = .ok (.goto 4, 3) := by decide +kernel
theorem dX6_isIn_14 : decode cX6_isIn 14 = .ok (.iconst 0, 1) := by decide +kernel
theorem dX6_isIn_15 : decode cX6_isIn 15 = .ok (.ireturn, 1) := by decide +kernel
set_option maxRecDepth 20000 in
theorem ggX6_isDimmer_X6_isIn : GoodIn wsX6_isDimmer wsX6_isIn := goodIn_r _ [5] (by decide +kernel) (by decide +kernel)
set_option maxRecDepth 20000 in
theorem gX6_isDimmer_X6_isIn : GoodIn wsX6_isDimmer (va_wsS RX6 32 yX6_isIn wsX6_isIn) := goodIn_app (goodIn_of _ (by decide +kernel)) ggX6_isDimmer_X6_isIn
theorem dX6_isDimmer_0 : decode cX6_isDimmer 0 = .ok (.iload_n 1, 1) := by decide +kernel
theorem dX6_isDimmer_1 : decode cX6_isDimmer 1 = .ok (.iconst 0, 1) := by decide +kernel
theorem dX6_isDimmer_2 : decode cX6_isDimmer 2 = .ok (.aload_n 0, 1) := by decide +kernel
theorem dX6_isDimmer_3 : decode cX6_isDimmer 3 = .ok (.getfield 29, 3) := by decide +kernel
theorem dX6_isDimmer_6 : decode cX6_isDimmer 6 = .ok (.iconst 1, 1) := by decide +kernel
theorem dX6_isDimmer_7 : decode cX6_isDimmer 7 = .ok (.isub, 1) := by decide +kernel
theorem dX6_isDimmer_8 : decode cX6_isDimmer 8 = .ok (.invokestatic 32, 3) := by decide +kernel
theorem dX6_isDimmer_11 : decode cX6_isDimmer 11 = .ok (.ireturn, 1) := by decide +kernel
theorem dX6_la_0 : decode cX6_la 0 = .ok (.aload_n 0, 1) := by decide +kernel
theorem dX6_la_1 : decode cX6_la 1 = .ok (.getfield 9, 3) := by decide +kernel
theorem dX6_la_4 : decode cX6_la 4 = .ok (.iconst 5, 1) := by decide +kernel
theorem dX6_la_5 : decode cX6_la 5 = .ok (.iload_n 1, 1) := by decide +kernel
theorem dX6_la_6 : decode cX6_la 6 = .ok (.imul, 1) := by decide +kernel
theorem dX6_la_7 : decode cX6_la 7 = .ok (.iload_n 2, 1) := by decide +kernel
theorem dX6_la_8 : decode cX6_la 8 = .ok (.iadd, 1) := by decide +kernel
theorem dX6_la_9 : decode cX6_la 9 = .ok (.iaload, 1) := by decide +kernel
theorem dX6_la_10 : decode cX6_la 10 = .ok (.ireturn, 1) := by decide +kernel
theorem dX6_put_0 : decode cX6_put 0 = .ok (.aload_n 0, 1) := by decide +kernel
theorem dX6_put_1 : decode cX6_put 1 = .ok (.getfield 9, 3) := by decide +kernel
theorem dX6_put_4 : decode cX6_put 4 = .ok (.iconst 5, 1) := by decide +kernel
theorem dX6_put_5 : decode cX6_put 5 = .ok (.iload_n 1, 1) := by decide +kernel
theorem dX6_put_6 : decode cX6_put 6 = .ok (.imul, 1) := by decide +kernel
theorem dX6_put_7 : decode cX6_put 7 = .ok (.iload_n 2, 1) := by decide +kernel
theorem dX6_put_8 : decode cX6_put 8 = .ok (.iadd, 1) := by decide +kernel
theorem dX6_put_9 : decode cX6_put 9 = .ok (.iload_n 3, 1) := by decide +kernel
theorem dX6_put_10 : decode cX6_put 10 = .ok (.iastore, 1) := by decide +kernel
theorem dX6_put_11 : decode cX6_put 11 = .ok (.return_, 1) := by decide +kernel
set_option maxRecDepth 20000 in
theorem ggX6_dimmer_X6_isIn : GoodIn wsX6_dimmer wsX6_isIn := goodIn_r _ [12] (by decide +kernel) (by decide +kernel)
set_option maxRecDepth 20000 in
theorem gX6_dimmer_X6_isIn : GoodIn wsX6_dimmer (va_wsS RX6 32 yX6_isIn wsX6_isIn) := goodIn_app (goodIn_of _ (by decide +kernel)) ggX6_dimmer_X6_isIn
set_option maxRecDepth 20000 in
theorem ggX6_dimmer_X6_fail : GoodIn wsX6_dimmer wsX6_fail := goodIn_r _ [16, 1, 17, 18, 19, 20, 21, 22, 23, 24, 25] (by decide +kernel) (by decide +kernel)
set_option maxRecDepth 20000 in
theorem gX6_dimmer_X6_fail : GoodIn wsX6_dimmer (wsV RX6 36 RX6 yX6_fail wsX6_fail) := goodIn_app (goodIn_of _ (by decide +kernel)) ggX6_dimmer_X6_fail
theorem dX6_dimmer_0 : decode cX6_dimmer 0 = .ok (.aload_n 0, 1) := by decide +kernel
theorem dX6_dimmer_1 : decode cX6_dimmer 1 = .ok (.iconst 0, 1) := by decide +kernel
theorem dX6_dimmer_2 : decode cX6_dimmer 2 = .ok (.putfield 25, 3) := by decide +kernel
theorem dX6_dimmer_5 : decode cX6_dimmer 5 = .ok (.iload_n 1, 1) := by decide +kernel
theorem dX6_dimmer_6 : decode cX6_dimmer 6 = .ok (.iconst 0, 1) := by decide +kernel
theorem dX6_dimmer_7 : decode cX6_dimmer 7 = .ok (.bipush 11, 2) := by decide +kernel
theorem dX6_dimmer_9 : decode cX6_dimmer 9 = .ok (.invokestatic 32, 3) := by decide +kernel
theorem dX6_dimmer_12 : decode cX6_dimmer 12 = .ok (.ifCond .eq 24, 3) := by decide +kernel
theorem dX6_dimmer_15 : decode cX6_dimmer 15 = .ok (.iload_n 2, 1) := by decide +kernel
theorem dX6_dimmer_16 : decode cX6_dimmer 16 = .ok (.iconst 1, 1) := by decide +kernel
theorem dX6_dimmer_17 : decode cX6_dimmer 17 = .ok (.bipush 50, 2) := by decide +kernel
theorem dX6_dimmer_19 : decode cX6_dimmer 19 = .ok (.invokestatic 32, 3) := by decide +kernel
theorem dX6_dimmer_22 : decode cX6_dimmer 22 = .ok (.ifCond .eq 14, 3) := by decide +kernel
theorem dX6_dimmer_25 : decode cX6_dimmer 25 = .ok (.iload_n 3, 1) := by decide +kernel
theorem dX6_dimmer_26 : decode cX6_dimmer 26 = .ok (.iconst 0, 1) := by decide +kernel
theorem dX6_dimmer_27 : decode cX6_dimmer 27 = .ok (.sipush 9999, 3) := by decide +kernel
theorem dX6_dimmer_30 : decode cX6_dimmer 30 = .ok (.invokestatic 32, 3) := by decide +kernel
theorem dX6_dimmer_33 : decode cX6_dimmer 33 = .ok (.ifCond .ne 9, 3) := by decide +kernel
theorem dX6_dimmer_36 : decode cX6_dimmer 36 = .ok (.aload_n 0, 1) := by decide +kernel
theorem dX6_dimmer_37 : decode cX6_dimmer 37 = .ok (.iconst 1, 1) := by decide +kernel
theorem dX6_dimmer_38 : decode cX6_dimmer 38 = .ok (.invokevirtual 36, 3) := by decide +kernel
theorem dX6_dimmer_41 : decode cX6_dimmer 41 = .ok (.ireturn, 1) := by decide +kernel
theorem dX6_dimmer_42 : decode cX6_dimmer 42 = .ok (.aload_n 0, 1) := by decide +kernel
theorem dX6_dimmer_43 : decode cX6_dimmer 43 = .ok (.getfield 29, 3) := by decide +kernel
theorem dX6_dimmer_46 : decode cX6_dimmer 46 = .ok (.bipush 8, 2) := by decide +kernel
theorem dX6_dimmer_48 : decode cX6_dimmer 48 = .ok (.if_icmp .ne 9, 3) := by decide +kernel
theorem dX6_dimmer_51 : decode cX6_dimmer 51 = .ok (.aload_n 0, 1) := by decide +kernel
theorem dX6_dimmer_52 : decode cX6_dimmer 52 = .ok (.iconst 2, 1) := by decide +kernel
theorem dX6_dimmer_53 : decode cX6_dimmer 53 = .ok (.invokevirtual 36, 3) := by decide +kernel
theorem dX6_dimmer_56 : decode cX6_dimmer 56 = .ok (.ireturn, 1) := by decide +kernel
theorem dX6_dimmer_57 : decode cX6_dimmer 57 = .ok (.iconst 5, 1) := by decide +kernel
theorem dX6_dimmer_58 : decode cX6_dimmer 58 = .ok (.newarray .int, 2) := by decide +kernel
theorem dX6_dimmer_60 : decode cX6_dimmer 60 = .ok (.dup, 1) := by decide +kernel
theorem dX6_dimmer_61 : decode cX6_dimmer 61 = .ok (.iconst 0, 1) := by decide +kernel
theorem dX6_dimmer_62 : decode cX6_dimmer 62 = .ok (.iload_n 1, 1) := by decide +kernel
theorem dX6_dimmer_63 : decode cX6_dimmer 63 = .ok (.iastore, 1) := by decide +kernel
theorem dX6_dimmer_64 : decode cX6_dimmer 64 = .ok (.dup, 1) := by decide +kernel
theorem dX6_dimmer_65 : decode cX6_dimmer 65 = .ok (.iconst 1, 1) := by decide +kernel
theorem dX6_dimmer_66 : decode cX6_dimmer 66 = .ok (.iconst 0, 1) := by decide +kernel
theorem dX6_dimmer_67 : decode cX6_dimmer 67 = .ok (.iastore, 1) := by decide +kernel
theorem dX6_dimmer_68 : decode cX6_dimmer 68 = .ok (.dup, 1) := by decide +kernel
theorem dX6_dimmer_69 : decode cX6_dimmer 69 = .ok (.iconst 2, 1) := by decide +kernel
theorem dX6_dimmer_70 : decode cX6_dimmer 70 = .ok (.iconst 0, 1) := by decide +kernel
theorem dX6_dimmer_71 : decode cX6_dimmer 71 = .ok (.iastore, 1) := by decide +kernel
theorem dX6_dimmer_72 : decode cX6_dimmer 72 = .ok (.dup, 1) := by decide +kernel
theorem dX6_dimmer_73 : decode cX6_dimmer 73 = .ok (.iconst 3, 1) := by decide +kernel
theorem dX6_dimmer_74 : decode cX6_dimmer 74 = .ok (.iload_n 2, 1) := by decide +kernel
theorem dX6_dimmer_75 : decode cX6_dimmer 75 = .ok (.iastore, 1) := by decide +kernel
theorem dX6_dimmer_76 : decode cX6_dimmer 76 = .ok (.dup, 1) := by decide +kernel
theorem dX6_dimmer_77 : decode cX6_dimmer 77 = .ok (.iconst 4, 1) := by decide +kernel
theorem dX6_dimmer_78 : decode cX6_dimmer 78 = .ok (.iload_n 3, 1) := by decide +kernel
theorem dX6_dimmer_79 : decode cX6_dimmer 79 = .ok (.iastore, 1) := by decide +kernel
theorem dX6_dimmer_80 : decode cX6_dimmer 80 = .ok (.astore 4, 2) := by decide +kernel
theorem dX6_dimmer_82 : decode cX6_dimmer 82 = .ok (.aload 4, 2) := by decide +kernel
theorem dX6_dimmer_84 : decode cX6_dimmer 84 = .ok (.iconst 0, 1) := by decide +kernel
theorem dX6_dimmer_85 : decode cX6_dimmer 85 = .ok (.aload_n 0, 1) := by decide +kernel
theorem dX6_dimmer_86 : decode cX6_dimmer 86 = .ok (.getfield 9, 3) := by decide +kernel
theorem dX6_dimmer_89 : decode cX6_dimmer 89 = .ok (.iconst 5, 1) := by decide +kernel
theorem dX6_dimmer_90 : decode cX6_dimmer 90 = .ok (.aload_n 0, 1) := by decide +kernel
theorem dX6_dimmer_91 : decode cX6_dimmer 91 = .ok (.getfield 29, 3) := by decide +kernel
theorem dX6_dimmer_94 : decode cX6_dimmer 94 = .ok (.imul, 1) := by decide +kernel
theorem dX6_dimmer_95 : decode cX6_dimmer 95 = .ok (.iconst 5, 1) := by decide +kernel
theorem dX6_dimmer_96 : decode cX6_dimmer 96 = .ok (.invokestatic 40, 3) := by decide +kernel
theorem dX6_dimmer_99 : decode cX6_dimmer 99 = .ok (.aload_n 0, 1) := by decide +kernel
theorem dX6_dimmer_100 : decode cX6_dimmer 100 = .ok (.dup, 1) := by decide +kernel
theorem dX6_dimmer_101 : decode cX6_dimmer 101 = .ok (.getfield 29, 3) := by decide +kernel
theorem dX6_dimmer_104 : decode cX6_dimmer 104 = .ok (.iconst 1, 1) := by decide +kernel
theorem dX6_dimmer_105 : decode cX6_dimmer 105 = .ok (.iadd, 1) := by decide +kernel
theorem dX6_dimmer_106 : decode cX6_dimmer 106 = .ok (.putfield 29, 3) := by decide +kernel
theorem dX6_dimmer_109 : decode cX6_dimmer 109 = .ok (.aload_n 0, 1) := by decide +kernel
theorem dX6_dimmer_110 : decode cX6_dimmer 110 = .ok (.getfield 29, 3) := by decide +kernel
theorem dX6_dimmer_113 : decode cX6_dimmer 113 = .ok (.iconst 1, 1) := by decide +kernel
theorem dX6_dimmer_114 : decode cX6_dimmer 114 = .ok (.isub, 1) := by decide +kernel
theorem dX6_dimmer_115 : decode cX6_dimmer 115 = .ok (.ireturn, 1) := by decide +kernel
set_option maxRecDepth 20000 in
theorem ggX6_lamp_X6_isDimmer : GoodIn wsX6_lamp wsX6_isDimmer := goodIn_r _ [6, 7, 8, 9, 5, 10, 24, 25, 26, 27, 28, 29, 30, 31, 32] (by decide +kernel) (by decide +kernel)
set_option maxRecDepth 20000 in
theorem gX6_lamp_X6_isDimmer : GoodIn wsX6_lamp (wsV RX6 46 RX6 yX6_isDimmer wsX6_isDimmer) := goodIn_app (goodIn_of _ (by decide +kernel)) ggX6_lamp_X6_isDimmer
set_option maxRecDepth 20000 in
theorem ggX6_lamp_X6_fail : GoodIn wsX6_lamp wsX6_fail := goodIn_r _ [14, 1, 24, 25, 26, 27, 28, 29, 30, 31, 32] (by decide +kernel) (by decide +kernel)
set_option maxRecDepth 20000 in
theorem gX6_lamp_X6_fail : GoodIn wsX6_lamp (wsV RX6 36 RX6 yX6_fail wsX6_fail) := goodIn_app (goodIn_of _ (by decide +kernel)) ggX6_lamp_X6_fail
set_option maxRecDepth 20000 in
theorem ggX6_lamp_X6_isIn : GoodIn wsX6_lamp wsX6_isIn := goodIn_r _ [10] (by decide +kernel) (by decide +kernel)
set_option maxRecDepth 20000 in
theorem gX6_lamp_X6_isIn : GoodIn wsX6_lamp (va_wsS RX6 32 yX6_isIn wsX6_isIn) := goodIn_app (goodIn_of _ (by decide +kernel)) ggX6_lamp_X6_isIn
set_option maxRecDepth 20000 in
theorem ggX6_lamp_X6_la : GoodIn wsX6_lamp wsX6_la := goodIn_r _ [18, 19, 24, 25, 26, 27, 28, 29, 30, 31, 32] (by decide +kernel) (by decide +kernel)
set_option maxRecDepth 20000 in
theorem gX6_lamp_X6_la : GoodIn wsX6_lamp (wsV RX6 50 RX6 yX6_la wsX6_la) := goodIn_app (goodIn_of _ (by decide +kernel)) ggX6_lamp_X6_la
set_option maxRecDepth 20000 in
theorem ggX6_lamp_X6_put : GoodIn wsX6_lamp wsX6_put := goodIn_r _ [23, 19, 24, 25, 26, 27, 28, 29, 30, 31, 32] (by decide +kernel) (by decide +kernel)
set_option maxRecDepth 20000 in
theorem gX6_lamp_X6_put : GoodIn wsX6_lamp (wsV RX6 54 RX6 yX6_put wsX6_put) := goodIn_app (goodIn_of _ (by decide +kernel)) ggX6_lamp_X6_put
theorem dX6_lamp_0 : decode cX6_lamp 0 = .ok (.aload_n 0, 1) := by decide +kernel
theorem dX6_lamp_1 : decode cX6_lamp 1 = .ok (.iconst 0, 1) := by decide +kernel
theorem dX6_lamp_2 : decode cX6_lamp 2 = .ok (.putfield 25, 3) := by decide +kernel
theorem dX6_lamp_5 : decode cX6_lamp 5 = .ok (.aload_n 0, 1) := by decide +kernel
theorem dX6_lamp_6 : decode cX6_lamp 6 = .ok (.iload_n 1, 1) := by decide +kernel
theorem dX6_lamp_7 : decode cX6_lamp 7 = .ok (.invokevirtual 46, 3) := by decide +kernel
theorem dX6_lamp_10 : decode cX6_lamp 10 = .ok (.ifCond .ne 9, 3) := by decide +kernel
theorem dX6_lamp_13 : decode cX6_lamp 13 = .ok (.aload_n 0, 1) := by decide +kernel
theorem dX6_lamp_14 : decode cX6_lamp 14 = .ok (.iconst 1, 1) := by decide +kernel
theorem dX6_lamp_15 : decode cX6_lamp 15 = .ok (.invokevirtual 36, 3) := by decide +kernel
theorem dX6_lamp_18 : decode cX6_lamp 18 = .ok (.ireturn, 1) := by decide +kernel
theorem dX6_lamp_19 : decode cX6_lamp 19 = .ok (.iload_n 2, 1) := by decide +kernel
theorem dX6_lamp_20 : decode cX6_lamp 20 = .ok (.iconst 0, 1) := by decide +kernel
theorem dX6_lamp_21 : decode cX6_lamp 21 = .ok (.sipush 9999, 3) := by decide +kernel
theorem dX6_lamp_24 : decode cX6_lamp 24 = .ok (.invokestatic 32, 3) := by decide +kernel
theorem dX6_lamp_27 : decode cX6_lamp 27 = .ok (.ifCond .ne 9, 3) := by decide +kernel
theorem dX6_lamp_30 : decode cX6_lamp 30 = .ok (.aload_n 0, 1) := by decide +kernel
theorem dX6_lamp_31 : decode cX6_lamp 31 = .ok (.iconst 2, 1) := by decide +kernel
theorem dX6_lamp_32 : decode cX6_lamp 32 = .ok (.invokevirtual 36, 3) := by decide +kernel
theorem dX6_lamp_35 : decode cX6_lamp 35 = .ok (.ireturn, 1) := by decide +kernel
theorem dX6_lamp_36 : decode cX6_lamp 36 = .ok (.aload_n 0, 1) := by decide +kernel
theorem dX6_lamp_37 : decode cX6_lamp 37 = .ok (.iload_n 1, 1) := by decide +kernel
theorem dX6_lamp_38 : decode cX6_lamp 38 = .ok (.iconst 4, 1) := by decide +kernel
theorem dX6_lamp_39 : decode cX6_lamp 39 = .ok (.invokevirtual 50, 3) := by decide +kernel
theorem dX6_lamp_42 : decode cX6_lamp 42 = .ok (.istore_n 3, 1) := by decide +kernel
theorem dX6_lamp_43 : decode cX6_lamp 43 = .ok (.aload_n 0, 1) := by decide +kernel
theorem dX6_lamp_44 : decode cX6_lamp 44 = .ok (.iload_n 1, 1) := by decide +kernel
theorem dX6_lamp_45 : decode cX6_lamp 45 = .ok (.iconst 4, 1) := by decide +kernel
theorem dX6_lamp_46 : decode cX6_lamp 46 = .ok (.iload_n 2, 1) := by decide +kernel
theorem dX6_lamp_47 : decode cX6_lamp 47 = .ok (.invokevirtual 54, 3) := by decide +kernel
theorem dX6_lamp_50 : decode cX6_lamp 50 = .ok (.iload_n 2, 1) := by decide +kernel
theorem dX6_lamp_51 : decode cX6_lamp 51 = .ok (.ifCond .ne 10, 3) := by decide +kernel
theorem dX6_lamp_54 : decode cX6_lamp 54 = .ok (.aload_n 0, 1) := by decide +kernel
theorem dX6_lamp_55 : decode cX6_lamp 55 = .ok (.iload_n 1, 1) := by decide +kernel
theorem dX6_lamp_56 : decode cX6_lamp 56 = .ok (.iconst 1, 1) := by decide +kernel
theorem dX6_lamp_57 : decode cX6_lamp 57 = .ok (.iconst 0, 1) := by decide +kernel
theorem dX6_lamp_58 : decode cX6_lamp 58 = .ok (.invokevirtual 54, 3) := by decide +kernel
theorem dX6_lamp_61 : decode cX6_lamp 61 = .ok (.iload_n 3, 1) := by decide +kernel
theorem dX6_lamp_62 : decode cX6_lamp 62 = .ok (.ireturn, 1) := by decide +kernel
set_option maxRecDepth 20000 in
theorem ggX6_star_X6_isIn : GoodIn wsX6_star wsX6_isIn := goodIn_r _ [7] (by decide +kernel) (by decide +kernel)
set_option maxRecDepth 20000 in
theorem gX6_star_X6_isIn : GoodIn wsX6_star (va_wsS RX6 32 yX6_isIn wsX6_isIn) := goodIn_app (goodIn_of _ (by decide +kernel)) ggX6_star_X6_isIn
set_option maxRecDepth 20000 in
theorem ggX6_star_X6_fail : GoodIn wsX6_star wsX6_fail := goodIn_r _ [11, 1, 12, 13, 14, 15, 16, 17, 18, 19, 20] (by decide +kernel) (by decide +kernel)
set_option maxRecDepth 20000 in
theorem gX6_star_X6_fail : GoodIn wsX6_star (wsV RX6 36 RX6 yX6_fail wsX6_fail) := goodIn_app (goodIn_of _ (by decide +kernel)) ggX6_star_X6_fail
theorem dX6_star_0 : decode cX6_star 0 = .ok (.aload_n 0, 1) := by decide +kernel
theorem dX6_star_1 : decode cX6_star 1 = .ok (.iconst 0, 1) := by decide +kernel
theorem dX6_star_2 : decode cX6_star 2 = .ok (.putfield 25, 3) := by decide +kernel
theorem dX6_star_5 : decode cX6_star 5 = .ok (.iload_n 1, 1) := by decide +kernel
theorem dX6_star_6 : decode cX6_star 6 = .ok (.iconst 0, 1) := by decide +kernel
theorem dX6_star_7 : decode cX6_star 7 = .ok (.sipush 359, 3) := by decide +kernel
theorem dX6_star_10 : decode cX6_star 10 = .ok (.invokestatic 32, 3) := by decide +kernel
theorem dX6_star_13 : decode cX6_star 13 = .ok (.ifCond .eq 13, 3) := by decide +kernel
theorem dX6_star_16 : decode cX6_star 16 = .ok (.iload_n 2, 1) := by decide +kernel
theorem dX6_star_17 : decode cX6_star 17 = .ok (.iconst 1, 1) := by decide +kernel
theorem dX6_star_18 : decode cX6_star 18 = .ok (.bipush 9, 2) := by decide +kernel
theorem dX6_star_20 : decode cX6_star 20 = .ok (.invokestatic 32, 3) := by decide +kernel
theorem dX6_star_23 : decode cX6_star 23 = .ok (.ifCond .ne 9, 3) := by decide +kernel
theorem dX6_star_26 : decode cX6_star 26 = .ok (.aload_n 0, 1) := by decide +kernel
theorem dX6_star_27 : decode cX6_star 27 = .ok (.iconst 1, 1) := by decide +kernel
theorem dX6_star_28 : decode cX6_star 28 = .ok (.invokevirtual 36, 3) := by decide +kernel
theorem dX6_star_31 : decode cX6_star 31 = .ok (.ireturn, 1) := by decide +kernel
theorem dX6_star_32 : decode cX6_star 32 = .ok (.aload_n 0, 1) := by decide +kernel
theorem dX6_star_33 : decode cX6_star 33 = .ok (.getfield 58, 3) := by decide +kernel
theorem dX6_star_36 : decode cX6_star 36 = .ok (.bipush 20, 2) := by decide +kernel
theorem dX6_star_38 : decode cX6_star 38 = .ok (.if_icmp .ne 9, 3) := by decide +kernel
theorem dX6_star_41 : decode cX6_star 41 = .ok (.aload_n 0, 1) := by decide +kernel
theorem dX6_star_42 : decode cX6_star 42 = .ok (.iconst 2, 1) := by decide +kernel
theorem dX6_star_43 : decode cX6_star 43 = .ok (.invokevirtual 36, 3) := by decide +kernel
theorem dX6_star_46 : decode cX6_star 46 = .ok (.ireturn, 1) := by decide +kernel
theorem dX6_star_47 : decode cX6_star 47 = .ok (.aload_n 0, 1) := by decide +kernel
theorem dX6_star_48 : decode cX6_star 48 = .ok (.getfield 13, 3) := by decide +kernel
theorem dX6_star_51 : decode cX6_star 51 = .ok (.iconst 2, 1) := by decide +kernel
theorem dX6_star_52 : decode cX6_star 52 = .ok (.aload_n 0, 1) := by decide +kernel
theorem dX6_star_53 : decode cX6_star 53 = .ok (.getfield 58, 3) := by decide +kernel
theorem dX6_star_56 : decode cX6_star 56 = .ok (.imul, 1) := by decide +kernel
theorem dX6_star_57 : decode cX6_star 57 = .ok (.iload_n 1, 1) := by decide +kernel
theorem dX6_star_58 : decode cX6_star 58 = .ok (.iastore, 1) := by decide +kernel
theorem dX6_star_59 : decode cX6_star 59 = .ok (.aload_n 0, 1) := by decide +kernel
theorem dX6_star_60 : decode cX6_star 60 = .ok (.getfield 13, 3) := by decide +kernel
theorem dX6_star_63 : decode cX6_star 63 = .ok (.iconst 2, 1) := by decide +kernel
theorem dX6_star_64 : decode cX6_star 64 = .ok (.aload_n 0, 1) := by decide +kernel
theorem dX6_star_65 : decode cX6_star 65 = .ok (.getfield 58, 3) := by decide +kernel
theorem dX6_star_68 : decode cX6_star 68 = .ok (.imul, 1) := by decide +kernel
theorem dX6_star_69 : decode cX6_star 69 = .ok (.iconst 1, 1) := by decide +kernel
theorem dX6_star_70 : decode cX6_star 70 = .ok (.iadd, 1) := by decide +kernel
theorem dX6_star_71 : decode cX6_star 71 = .ok (.iload_n 2, 1) := by decide +kernel
theorem dX6_star_72 : decode cX6_star 72 = .ok (.iastore, 1) := by decide +kernel
theorem dX6_star_73 : decode cX6_star 73 = .ok (.aload_n 0, 1) := by decide +kernel
theorem dX6_star_74 : decode cX6_star 74 = .ok (.dup, 1) := by decide +kernel
theorem dX6_star_75 : decode cX6_star 75 = .ok (.getfield 58, 3) := by decide +kernel
theorem dX6_star_78 : decode cX6_star 78 = .ok (.iconst 1, 1) := by decide +kernel
theorem dX6_star_79 : decode cX6_star 79 = .ok (.iadd, 1) := by decide +kernel
theorem dX6_star_80 : decode cX6_star 80 = .ok (.putfield 58, 3) := by decide +kernel
theorem dX6_star_83 : decode cX6_star 83 = .ok (.aload_n 0, 1) := by decide +kernel
theorem dX6_star_84 : decode cX6_star 84 = .ok (.getfield 58, 3) := by decide +kernel
theorem dX6_star_87 : decode cX6_star 87 = .ok (.iconst 1, 1) := by decide +kernel
theorem dX6_star_88 : decode cX6_star 88 = .ok (.isub, 1) := by decide +kernel
theorem dX6_star_89 : decode cX6_star 89 = .ok (.ireturn, 1) := by decide +kernel
set_option maxRecDepth 20000 in
theorem ggX6_isCue_X6_isDimmer : GoodIn wsX6_isCue wsX6_isDimmer := goodIn_r _ [5, 6, 7, 8, 4, 9, 10, 11, 12, 13, 14, 15, 16, 17, 18] (by decide +kernel) (by decide +kernel)
set_option maxRecDepth 20000 in
theorem gX6_isCue_X6_isDimmer : GoodIn wsX6_isCue (wsV RX6 46 RX6 yX6_isDimmer wsX6_isDimmer) := goodIn_app (goodIn_of _ (by decide +kernel)) ggX6_isCue_X6_isDimmer
set_option maxRecDepth 20000 in
theorem ggX6_isCue_X6_isIn : GoodIn wsX6_isCue wsX6_isIn := goodIn_r _ [9] (by decide +kernel) (by decide +kernel)
set_option maxRecDepth 20000 in
theorem gX6_isCue_X6_isIn : GoodIn wsX6_isCue (va_wsS RX6 32 yX6_isIn wsX6_isIn) := goodIn_app (goodIn_of _ (by decide +kernel)) ggX6_isCue_X6_isIn
theorem dX6_isCue_0 : decode cX6_isCue 0 = .ok (.iload_n 1, 1) := by decide +kernel
theorem dX6_isCue_1 : decode cX6_isCue 1 = .ok (.tableswitch 148 0 4 #[35, 59, 80, 108, 134], 35) := by decide +kernel
theorem dX6_isCue_36 : decode cX6_isCue 36 = .ok (.aload_n 0, 1) := by decide +kernel
theorem dX6_isCue_37 : decode cX6_isCue 37 = .ok (.iload_n 2, 1) := by decide +kernel
theorem dX6_isCue_38 : decode cX6_isCue 38 = .ok (.invokevirtual 46, 3) := by decide +kernel
theorem dX6_isCue_41 : decode cX6_isCue 41 = .ok (.ifCond .eq 17, 3) := by decide +kernel
theorem dX6_isCue_44 : decode cX6_isCue 44 = .ok (.iload_n 3, 1) := by decide +kernel
theorem dX6_isCue_45 : decode cX6_isCue 45 = .ok (.iconst 0, 1) := by decide +kernel
theorem dX6_isCue_46 : decode cX6_isCue 46 = .ok (.bipush 100, 2) := by decide +kernel
theorem dX6_isCue_48 : decode cX6_isCue 48 = .ok (.invokestatic 32, 3) := by decide +kernel
theorem dX6_isCue_51 : decode cX6_isCue 51 = .ok (.ifCond .eq 7, 3) := by decide +kernel
theorem dX6_isCue_54 : decode cX6_isCue 54 = .ok (.iconst 1, 1) := by decide +kernel
theorem dX6_isCue_55 : decode cX6_isCue 55 = .ok (.goto 4, 3) := by decide +kernel
theorem dX6_isCue_58 : decode cX6_isCue 58 = .ok (.iconst 0, 1) := by decide +kernel
theorem dX6_isCue_59 : decode cX6_isCue 59 = .ok (.ireturn, 1) := by decide +kernel
theorem dX6_isCue_60 : decode cX6_isCue 60 = .ok (.iload_n 2, 1) := by decide +kernel
theorem dX6_isCue_61 : decode cX6_isCue 61 = .ok (.ifCond .ne 18, 3) := by decide +kernel
theorem dX6_isCue_64 : decode cX6_isCue 64 = .ok (.iload_n 3, 1) := by decide +kernel
theorem dX6_isCue_65 : decode cX6_isCue 65 = .ok (.bipush (-30), 2) := by decide +kernel
theorem dX6_isCue_67 : decode cX6_isCue 67 = .ok (.bipush 30, 2) := by decide +kernel
theorem dX6_isCue_69 : decode cX6_isCue 69 = .ok (.invokestatic 32, 3) := by decide +kernel
theorem dX6_isCue_72 : decode cX6_isCue 72 = .ok (.ifCond .eq 7, 3) := by decide +kernel
theorem dX6_isCue_75 : decode cX6_isCue 75 = .ok (.iconst 1, 1) := by decide +kernel
theorem dX6_isCue_76 : decode cX6_isCue 76 = .ok (.goto 4, 3) := by decide +kernel
theorem dX6_isCue_79 : decode cX6_isCue 79 = .ok (.iconst 0, 1) := by decide +kernel
theorem dX6_isCue_80 : decode cX6_isCue 80 = .ok (.ireturn, 1) := by decide +kernel
theorem dX6_isCue_81 : decode cX6_isCue 81 = .ok (.iload_n 2, 1) := by decide +kernel
theorem dX6_isCue_82 : decode cX6_isCue 82 = .ok (.iconst 0, 1) := by decide +kernel
theorem dX6_isCue_83 : decode cX6_isCue 83 = .ok (.sipush 359, 3) := by decide +kernel
theorem dX6_isCue_86 : decode cX6_isCue 86 = .ok (.invokestatic 32, 3) := by decide +kernel
theorem dX6_isCue_89 : decode cX6_isCue 89 = .ok (.ifCond .eq 18, 3) := by decide +kernel
theorem dX6_isCue_92 : decode cX6_isCue 92 = .ok (.iload_n 3, 1) := by decide +kernel
theorem dX6_isCue_93 : decode cX6_isCue 93 = .ok (.bipush (-20), 2) := by decide +kernel
theorem dX6_isCue_95 : decode cX6_isCue 95 = .ok (.bipush 20, 2) := by decide +kernel
theorem dX6_isCue_97 : decode cX6_isCue 97 = .ok (.invokestatic 32, 3) := by decide +kernel
theorem dX6_isCue_100 : decode cX6_isCue 100 = .ok (.ifCond .eq 7, 3) := by decide +kernel
theorem dX6_isCue_103 : decode cX6_isCue 103 = .ok (.iconst 1, 1) := by decide +kernel
theorem dX6_isCue_104 : decode cX6_isCue 104 = .ok (.goto 4, 3) := by decide +kernel
theorem dX6_isCue_107 : decode cX6_isCue 107 = .ok (.iconst 0, 1) := by decide +kernel
theorem dX6_isCue_108 : decode cX6_isCue 108 = .ok (.ireturn, 1) := by decide +kernel
theorem dX6_isCue_109 : decode cX6_isCue 109 = .ok (.iload_n 2, 1) := by decide +kernel
theorem dX6_isCue_110 : decode cX6_isCue 110 = .ok (.iconst 0, 1) := by decide +kernel
theorem dX6_isCue_111 : decode cX6_isCue 111 = .ok (.bipush 99, 2) := by decide +kernel
theorem dX6_isCue_113 : decode cX6_isCue 113 = .ok (.invokestatic 32, 3) := by decide +kernel
theorem dX6_isCue_116 : decode cX6_isCue 116 = .ok (.ifCond .eq 17, 3) := by decide +kernel
theorem dX6_isCue_119 : decode cX6_isCue 119 = .ok (.iload_n 3, 1) := by decide +kernel
theorem dX6_isCue_120 : decode cX6_isCue 120 = .ok (.iconst 1, 1) := by decide +kernel
theorem dX6_isCue_121 : decode cX6_isCue 121 = .ok (.bipush 60, 2) := by decide +kernel
theorem dX6_isCue_123 : decode cX6_isCue 123 = .ok (.invokestatic 32, 3) := by decide +kernel
theorem dX6_isCue_126 : decode cX6_isCue 126 = .ok (.ifCond .eq 7, 3) := by decide +kernel
theorem dX6_isCue_129 : decode cX6_isCue 129 = .ok (.iconst 1, 1) := by decide +kernel
theorem dX6_isCue_130 : decode cX6_isCue 130 = .ok (.goto 4, 3) := by decide +kernel
theorem dX6_isCue_133 : decode cX6_isCue 133 = .ok (.iconst 0, 1) := by decide +kernel
theorem dX6_isCue_134 : decode cX6_isCue 134 = .ok (.ireturn, 1) := by decide +kernel
theorem dX6_isCue_135 : decode cX6_isCue 135 = .ok (.iload_n 2, 1) := by decide +kernel
theorem dX6_isCue_136 : decode cX6_isCue 136 = .ok (.ifCond .ne 11, 3) := by decide +kernel
theorem dX6_isCue_139 : decode cX6_isCue 139 = .ok (.iload_n 3, 1) := by decide +kernel
theorem dX6_isCue_140 : decode cX6_isCue 140 = .ok (.ifCond .ne 7, 3) := by decide +kernel
theorem dX6_isCue_143 : decode cX6_isCue 143 = .ok (.iconst 1, 1) := by decide +kernel
theorem dX6_isCue_144 : decode cX6_isCue 144 = .ok (.goto 4, 3) := by decide +kernel
theorem dX6_isCue_147 : decode cX6_isCue 147 = .ok (.iconst 0, 1) := by decide +kernel
theorem dX6_isCue_148 : decode cX6_isCue 148 = .ok (.ireturn, 1) := by decide +kernel
theorem dX6_isCue_149 : decode cX6_isCue 149 = .ok (.iconst 0, 1) := by decide +kernel
theorem dX6_isCue_150 : decode cX6_isCue 150 = .ok (.ireturn, 1) := by decide +kernel
set_option maxRecDepth 20000 in
theorem ggX6_cue_X6_isIn : GoodIn wsX6_cue wsX6_isIn := goodIn_r _ [12] (by decide +kernel) (by decide +kernel)
set_option maxRecDepth 20000 in
theorem gX6_cue_X6_isIn : GoodIn wsX6_cue (va_wsS RX6 32 yX6_isIn wsX6_isIn) := goodIn_app (goodIn_of _ (by decide +kernel)) ggX6_cue_X6_isIn
set_option maxRecDepth 20000 in
theorem ggX6_cue_X6_isCue : GoodIn wsX6_cue wsX6_isCue := goodIn_r _ [16, 17, 18, 19, 11, 20, 21, 9, 10, 12, 26, 27, 28, 29, 30, 31, 32, 33, 34] (by decide +kernel) (by decide +kernel)
set_option maxRecDepth 20000 in
theorem gX6_cue_X6_isCue : GoodIn wsX6_cue (wsV RX6 61 RX6 yX6_isCue wsX6_isCue) := goodIn_app (goodIn_of _ (by decide +kernel)) ggX6_cue_X6_isCue
set_option maxRecDepth 20000 in
theorem ggX6_cue_X6_fail : GoodIn wsX6_cue wsX6_fail := goodIn_r _ [25, 1, 26, 27, 28, 29, 30, 31, 32, 33, 34] (by decide +kernel) (by decide +kernel)
set_option maxRecDepth 20000 in
theorem gX6_cue_X6_fail : GoodIn wsX6_cue (wsV RX6 36 RX6 yX6_fail wsX6_fail) := goodIn_app (goodIn_of _ (by decide +kernel)) ggX6_cue_X6_fail
theorem dX6_cue_0 : decode cX6_cue 0 = .ok (.aload_n 0, 1) := by decide +kernel
theorem dX6_cue_1 : decode cX6_cue 1 = .ok (.iconst 0, 1) := by decide +kernel
theorem dX6_cue_2 : decode cX6_cue 2 = .ok (.putfield 25, 3) := by decide +kernel
theorem dX6_cue_5 : decode cX6_cue 5 = .ok (.iload_n 1, 1) := by decide +kernel
theorem dX6_cue_6 : decode cX6_cue 6 = .ok (.iconst 0, 1) := by decide +kernel
theorem dX6_cue_7 : decode cX6_cue 7 = .ok (.sipush 999, 3) := by decide +kernel
theorem dX6_cue_10 : decode cX6_cue 10 = .ok (.invokestatic 32, 3) := by decide +kernel
theorem dX6_cue_13 : decode cX6_cue 13 = .ok (.ifCond .eq 14, 3) := by decide +kernel
theorem dX6_cue_16 : decode cX6_cue 16 = .ok (.aload_n 0, 1) := by decide +kernel
theorem dX6_cue_17 : decode cX6_cue 17 = .ok (.iload_n 2, 1) := by decide +kernel
theorem dX6_cue_18 : decode cX6_cue 18 = .ok (.iload_n 3, 1) := by decide +kernel
theorem dX6_cue_19 : decode cX6_cue 19 = .ok (.iload 4, 2) := by decide +kernel
theorem dX6_cue_21 : decode cX6_cue 21 = .ok (.invokevirtual 61, 3) := by decide +kernel
theorem dX6_cue_24 : decode cX6_cue 24 = .ok (.ifCond .ne 9, 3) := by decide +kernel
theorem dX6_cue_27 : decode cX6_cue 27 = .ok (.aload_n 0, 1) := by decide +kernel
theorem dX6_cue_28 : decode cX6_cue 28 = .ok (.iconst 1, 1) := by decide +kernel
theorem dX6_cue_29 : decode cX6_cue 29 = .ok (.invokevirtual 36, 3) := by decide +kernel
theorem dX6_cue_32 : decode cX6_cue 32 = .ok (.ireturn, 1) := by decide +kernel
theorem dX6_cue_33 : decode cX6_cue 33 = .ok (.aload_n 0, 1) := by decide +kernel
theorem dX6_cue_34 : decode cX6_cue 34 = .ok (.getfield 64, 3) := by decide +kernel
theorem dX6_cue_37 : decode cX6_cue 37 = .ok (.bipush 24, 2) := by decide +kernel
theorem dX6_cue_39 : decode cX6_cue 39 = .ok (.if_icmp .ne 9, 3) := by decide +kernel
theorem dX6_cue_42 : decode cX6_cue 42 = .ok (.aload_n 0, 1) := by decide +kernel
theorem dX6_cue_43 : decode cX6_cue 43 = .ok (.iconst 2, 1) := by decide +kernel
theorem dX6_cue_44 : decode cX6_cue 44 = .ok (.invokevirtual 36, 3) := by decide +kernel
theorem dX6_cue_47 : decode cX6_cue 47 = .ok (.ireturn, 1) := by decide +kernel
theorem dX6_cue_48 : decode cX6_cue 48 = .ok (.iconst 4, 1) := by decide +kernel
theorem dX6_cue_49 : decode cX6_cue 49 = .ok (.newarray .int, 2) := by decide +kernel
theorem dX6_cue_51 : decode cX6_cue 51 = .ok (.dup, 1) := by decide +kernel
theorem dX6_cue_52 : decode cX6_cue 52 = .ok (.iconst 0, 1) := by decide +kernel
theorem dX6_cue_53 : decode cX6_cue 53 = .ok (.iload_n 1, 1) := by decide +kernel
theorem dX6_cue_54 : decode cX6_cue 54 = .ok (.iastore, 1) := by decide +kernel
theorem dX6_cue_55 : decode cX6_cue 55 = .ok (.dup, 1) := by decide +kernel
theorem dX6_cue_56 : decode cX6_cue 56 = .ok (.iconst 1, 1) := by decide +kernel
theorem dX6_cue_57 : decode cX6_cue 57 = .ok (.iload_n 2, 1) := by decide +kernel
theorem dX6_cue_58 : decode cX6_cue 58 = .ok (.iastore, 1) := by decide +kernel
theorem dX6_cue_59 : decode cX6_cue 59 = .ok (.dup, 1) := by decide +kernel
theorem dX6_cue_60 : decode cX6_cue 60 = .ok (.iconst 2, 1) := by decide +kernel
theorem dX6_cue_61 : decode cX6_cue 61 = .ok (.iload_n 3, 1) := by decide +kernel
theorem dX6_cue_62 : decode cX6_cue 62 = .ok (.iastore, 1) := by decide +kernel
theorem dX6_cue_63 : decode cX6_cue 63 = .ok (.dup, 1) := by decide +kernel
theorem dX6_cue_64 : decode cX6_cue 64 = .ok (.iconst 3, 1) := by decide +kernel
theorem dX6_cue_65 : decode cX6_cue 65 = .ok (.iload 4, 2) := by decide +kernel
theorem dX6_cue_67 : decode cX6_cue 67 = .ok (.iastore, 1) := by decide +kernel
theorem dX6_cue_68 : decode cX6_cue 68 = .ok (.astore 5, 2) := by decide +kernel
theorem dX6_cue_70 : decode cX6_cue 70 = .ok (.aload 5, 2) := by decide +kernel
theorem dX6_cue_72 : decode cX6_cue 72 = .ok (.iconst 0, 1) := by decide +kernel
theorem dX6_cue_73 : decode cX6_cue 73 = .ok (.aload_n 0, 1) := by decide +kernel
theorem dX6_cue_74 : decode cX6_cue 74 = .ok (.getfield 19, 3) := by decide +kernel
theorem dX6_cue_77 : decode cX6_cue 77 = .ok (.iconst 4, 1) := by decide +kernel
theorem dX6_cue_78 : decode cX6_cue 78 = .ok (.aload_n 0, 1) := by decide +kernel
theorem dX6_cue_79 : decode cX6_cue 79 = .ok (.getfield 64, 3) := by decide +kernel
theorem dX6_cue_82 : decode cX6_cue 82 = .ok (.imul, 1) := by decide +kernel
theorem dX6_cue_83 : decode cX6_cue 83 = .ok (.iconst 4, 1) := by decide +kernel
theorem dX6_cue_84 : decode cX6_cue 84 = .ok (.invokestatic 40, 3) := by decide +kernel
theorem dX6_cue_87 : decode cX6_cue 87 = .ok (.aload_n 0, 1) := by decide +kernel
theorem dX6_cue_88 : decode cX6_cue 88 = .ok (.dup, 1) := by decide +kernel
theorem dX6_cue_89 : decode cX6_cue 89 = .ok (.getfield 64, 3) := by decide +kernel
theorem dX6_cue_92 : decode cX6_cue 92 = .ok (.iconst 1, 1) := by decide +kernel
theorem dX6_cue_93 : decode cX6_cue 93 = .ok (.iadd, 1) := by decide +kernel
theorem dX6_cue_94 : decode cX6_cue 94 = .ok (.putfield 64, 3) := by decide +kernel
theorem dX6_cue_97 : decode cX6_cue 97 = .ok (.aload_n 0, 1) := by decide +kernel
theorem dX6_cue_98 : decode cX6_cue 98 = .ok (.getfield 64, 3) := by decide +kernel
theorem dX6_cue_101 : decode cX6_cue 101 = .ok (.iconst 1, 1) := by decide +kernel
theorem dX6_cue_102 : decode cX6_cue 102 = .ok (.isub, 1) := by decide +kernel
theorem dX6_cue_103 : decode cX6_cue 103 = .ok (.ireturn, 1) := by decide +kernel
theorem dX6_run_0 : decode cX6_run 0 = .ok (.aload_n 0, 1) := by decide +kernel
theorem dX6_run_1 : decode cX6_run 1 = .ok (.iconst 0, 1) := by decide +kernel
theorem dX6_run_2 : decode cX6_run 2 = .ok (.putfield 25, 3) := by decide +kernel
theorem dX6_run_5 : decode cX6_run 5 = .ok (.aload_n 0, 1) := by decide +kernel
theorem dX6_run_6 : decode cX6_run 6 = .ok (.getfield 22, 3) := by decide +kernel
theorem dX6_run_9 : decode cX6_run 9 = .ok (.iconst 2, 1) := by decide +kernel
theorem dX6_run_10 : decode cX6_run 10 = .ok (.iconst 1, 1) := by decide +kernel
theorem dX6_run_11 : decode cX6_run 11 = .ok (.aload_n 0, 1) := by decide +kernel
theorem dX6_run_12 : decode cX6_run 12 = .ok (.getfield 22, 3) := by decide +kernel
theorem dX6_run_15 : decode cX6_run 15 = .ok (.iconst 2, 1) := by decide +kernel
theorem dX6_run_16 : decode cX6_run 16 = .ok (.iaload, 1) := by decide +kernel
theorem dX6_run_17 : decode cX6_run 17 = .ok (.isub, 1) := by decide +kernel
theorem dX6_run_18 : decode cX6_run 18 = .ok (.iastore, 1) := by decide +kernel
theorem dX6_run_19 : decode cX6_run 19 = .ok (.aload_n 0, 1) := by decide +kernel
theorem dX6_run_20 : decode cX6_run 20 = .ok (.getfield 22, 3) := by decide +kernel
theorem dX6_run_23 : decode cX6_run 23 = .ok (.iconst 2, 1) := by decide +kernel
theorem dX6_run_24 : decode cX6_run 24 = .ok (.iaload, 1) := by decide +kernel
theorem dX6_run_25 : decode cX6_run 25 = .ok (.iconst 1, 1) := by decide +kernel
theorem dX6_run_26 : decode cX6_run 26 = .ok (.if_icmp .ne 7, 3) := by decide +kernel
theorem dX6_run_29 : decode cX6_run 29 = .ok (.iconst 1, 1) := by decide +kernel
theorem dX6_run_30 : decode cX6_run 30 = .ok (.goto 4, 3) := by decide +kernel
theorem dX6_run_33 : decode cX6_run 33 = .ok (.iconst 0, 1) := by decide +kernel
theorem dX6_run_34 : decode cX6_run 34 = .ok (.ireturn, 1) := by decide +kernel
set_option maxRecDepth 20000 in
theorem ggX6_jump_X6_isIn : GoodIn wsX6_jump wsX6_isIn := goodIn_r _ [6] (by decide +kernel) (by decide +kernel)
set_option maxRecDepth 20000 in
theorem gX6_jump_X6_isIn : GoodIn wsX6_jump (va_wsS RX6 32 yX6_isIn wsX6_isIn) := goodIn_app (goodIn_of _ (by decide +kernel)) ggX6_jump_X6_isIn
set_option maxRecDepth 20000 in
theorem ggX6_jump_X6_fail : GoodIn wsX6_jump wsX6_fail := goodIn_r _ [10, 1, 11, 12, 13, 14, 15, 16, 17, 18, 19] (by decide +kernel) (by decide +kernel)
set_option maxRecDepth 20000 in
theorem gX6_jump_X6_fail : GoodIn wsX6_jump (wsV RX6 36 RX6 yX6_fail wsX6_fail) := goodIn_app (goodIn_of _ (by decide +kernel)) ggX6_jump_X6_fail
theorem dX6_jump_0 : decode cX6_jump 0 = .ok (.aload_n 0, 1) := by decide +kernel
theorem dX6_jump_1 : decode cX6_jump 1 = .ok (.iconst 0, 1) := by decide +kernel
theorem dX6_jump_2 : decode cX6_jump 2 = .ok (.putfield 25, 3) := by decide +kernel
theorem dX6_jump_5 : decode cX6_jump 5 = .ok (.iload_n 1, 1) := by decide +kernel
theorem dX6_jump_6 : decode cX6_jump 6 = .ok (.iconst 0, 1) := by decide +kernel
theorem dX6_jump_7 : decode cX6_jump 7 = .ok (.sipush 1000, 3) := by decide +kernel
theorem dX6_jump_10 : decode cX6_jump 10 = .ok (.invokestatic 32, 3) := by decide +kernel
theorem dX6_jump_13 : decode cX6_jump 13 = .ok (.ifCond .ne 9, 3) := by decide +kernel
theorem dX6_jump_16 : decode cX6_jump 16 = .ok (.aload_n 0, 1) := by decide +kernel
theorem dX6_jump_17 : decode cX6_jump 17 = .ok (.iconst 1, 1) := by decide +kernel
theorem dX6_jump_18 : decode cX6_jump 18 = .ok (.invokevirtual 36, 3) := by decide +kernel
theorem dX6_jump_21 : decode cX6_jump 21 = .ok (.ireturn, 1) := by decide +kernel
theorem dX6_jump_22 : decode cX6_jump 22 = .ok (.aload_n 0, 1) := by decide +kernel
theorem dX6_jump_23 : decode cX6_jump 23 = .ok (.getfield 22, 3) := by decide +kernel
theorem dX6_jump_26 : decode cX6_jump 26 = .ok (.iconst 1, 1) := by decide +kernel
theorem dX6_jump_27 : decode cX6_jump 27 = .ok (.iaload, 1) := by decide +kernel
theorem dX6_jump_28 : decode cX6_jump 28 = .ok (.istore_n 2, 1) := by decide +kernel
theorem dX6_jump_29 : decode cX6_jump 29 = .ok (.aload_n 0, 1) := by decide +kernel
theorem dX6_jump_30 : decode cX6_jump 30 = .ok (.getfield 22, 3) := by decide +kernel
theorem dX6_jump_33 : decode cX6_jump 33 = .ok (.iconst 1, 1) := by decide +kernel
theorem dX6_jump_34 : decode cX6_jump 34 = .ok (.iload_n 1, 1) := by decide +kernel
theorem dX6_jump_35 : decode cX6_jump 35 = .ok (.iastore, 1) := by decide +kernel
theorem dX6_jump_36 : decode cX6_jump 36 = .ok (.iload_n 2, 1) := by decide +kernel
theorem dX6_jump_37 : decode cX6_jump 37 = .ok (.ireturn, 1) := by decide +kernel
set_option maxRecDepth 20000 in
theorem ggX6_fade_X6_isDimmer : GoodIn wsX6_fade wsX6_isDimmer := goodIn_r _ [6, 7, 8, 9, 5, 10, 24, 25, 26, 27, 28, 29, 30, 31, 32] (by decide +kernel) (by decide +kernel)
set_option maxRecDepth 20000 in
theorem gX6_fade_X6_isDimmer : GoodIn wsX6_fade (wsV RX6 46 RX6 yX6_isDimmer wsX6_isDimmer) := goodIn_app (goodIn_of _ (by decide +kernel)) ggX6_fade_X6_isDimmer
set_option maxRecDepth 20000 in
theorem ggX6_fade_X6_fail : GoodIn wsX6_fade wsX6_fail := goodIn_r _ [14, 1, 24, 25, 26, 27, 28, 29, 30, 31, 32] (by decide +kernel) (by decide +kernel)
set_option maxRecDepth 20000 in
theorem gX6_fade_X6_fail : GoodIn wsX6_fade (wsV RX6 36 RX6 yX6_fail wsX6_fail) := goodIn_app (goodIn_of _ (by decide +kernel)) ggX6_fade_X6_fail
set_option maxRecDepth 20000 in
theorem ggX6_fade_X6_isIn : GoodIn wsX6_fade wsX6_isIn := goodIn_r _ [10] (by decide +kernel) (by decide +kernel)
set_option maxRecDepth 20000 in
theorem gX6_fade_X6_isIn : GoodIn wsX6_fade (va_wsS RX6 32 yX6_isIn wsX6_isIn) := goodIn_app (goodIn_of _ (by decide +kernel)) ggX6_fade_X6_isIn
set_option maxRecDepth 20000 in
theorem ggX6_fade_X6_la : GoodIn wsX6_fade wsX6_la := goodIn_r _ [18, 19, 24, 25, 26, 27, 28, 29, 30, 31, 32] (by decide +kernel) (by decide +kernel)
set_option maxRecDepth 20000 in
theorem gX6_fade_X6_la : GoodIn wsX6_fade (wsV RX6 50 RX6 yX6_la wsX6_la) := goodIn_app (goodIn_of _ (by decide +kernel)) ggX6_fade_X6_la
set_option maxRecDepth 20000 in
theorem ggX6_fade_X6_put : GoodIn wsX6_fade wsX6_put := goodIn_r _ [23, 19, 24, 25, 26, 27, 28, 29, 30, 31, 32] (by decide +kernel) (by decide +kernel)
set_option maxRecDepth 20000 in
theorem gX6_fade_X6_put : GoodIn wsX6_fade (wsV RX6 54 RX6 yX6_put wsX6_put) := goodIn_app (goodIn_of _ (by decide +kernel)) ggX6_fade_X6_put
theorem dX6_fade_0 : decode cX6_fade 0 = .ok (.aload_n 0, 1) := by decide +kernel
theorem dX6_fade_1 : decode cX6_fade 1 = .ok (.iconst 0, 1) := by decide +kernel
theorem dX6_fade_2 : decode cX6_fade 2 = .ok (.putfield 25, 3) := by decide +kernel
theorem dX6_fade_5 : decode cX6_fade 5 = .ok (.aload_n 0, 1) := by decide +kernel
theorem dX6_fade_6 : decode cX6_fade 6 = .ok (.iload_n 1, 1) := by decide +kernel
theorem dX6_fade_7 : decode cX6_fade 7 = .ok (.invokevirtual 46, 3) := by decide +kernel
theorem dX6_fade_10 : decode cX6_fade 10 = .ok (.ifCond .ne 9, 3) := by decide +kernel
theorem dX6_fade_13 : decode cX6_fade 13 = .ok (.aload_n 0, 1) := by decide +kernel
theorem dX6_fade_14 : decode cX6_fade 14 = .ok (.iconst 1, 1) := by decide +kernel
theorem dX6_fade_15 : decode cX6_fade 15 = .ok (.invokevirtual 36, 3) := by decide +kernel
theorem dX6_fade_18 : decode cX6_fade 18 = .ok (.ireturn, 1) := by decide +kernel
theorem dX6_fade_19 : decode cX6_fade 19 = .ok (.iload_n 2, 1) := by decide +kernel
theorem dX6_fade_20 : decode cX6_fade 20 = .ok (.iconst 0, 1) := by decide +kernel
theorem dX6_fade_21 : decode cX6_fade 21 = .ok (.bipush 100, 2) := by decide +kernel
theorem dX6_fade_23 : decode cX6_fade 23 = .ok (.invokestatic 32, 3) := by decide +kernel
theorem dX6_fade_26 : decode cX6_fade 26 = .ok (.ifCond .ne 9, 3) := by decide +kernel
theorem dX6_fade_29 : decode cX6_fade 29 = .ok (.aload_n 0, 1) := by decide +kernel
theorem dX6_fade_30 : decode cX6_fade 30 = .ok (.iconst 2, 1) := by decide +kernel
theorem dX6_fade_31 : decode cX6_fade 31 = .ok (.invokevirtual 36, 3) := by decide +kernel
theorem dX6_fade_34 : decode cX6_fade 34 = .ok (.ireturn, 1) := by decide +kernel
theorem dX6_fade_35 : decode cX6_fade 35 = .ok (.aload_n 0, 1) := by decide +kernel
theorem dX6_fade_36 : decode cX6_fade 36 = .ok (.iload_n 1, 1) := by decide +kernel
theorem dX6_fade_37 : decode cX6_fade 37 = .ok (.iconst 2, 1) := by decide +kernel
theorem dX6_fade_38 : decode cX6_fade 38 = .ok (.invokevirtual 50, 3) := by decide +kernel
theorem dX6_fade_41 : decode cX6_fade 41 = .ok (.istore_n 3, 1) := by decide +kernel
theorem dX6_fade_42 : decode cX6_fade 42 = .ok (.aload_n 0, 1) := by decide +kernel
theorem dX6_fade_43 : decode cX6_fade 43 = .ok (.iload_n 1, 1) := by decide +kernel
theorem dX6_fade_44 : decode cX6_fade 44 = .ok (.iconst 2, 1) := by decide +kernel
theorem dX6_fade_45 : decode cX6_fade 45 = .ok (.iload_n 2, 1) := by decide +kernel
theorem dX6_fade_46 : decode cX6_fade 46 = .ok (.invokevirtual 54, 3) := by decide +kernel
theorem dX6_fade_49 : decode cX6_fade 49 = .ok (.iload_n 3, 1) := by decide +kernel
theorem dX6_fade_50 : decode cX6_fade 50 = .ok (.ireturn, 1) := by decide +kernel
set_option maxRecDepth 20000 in
theorem ggX6_carryOut_X6_put : GoodIn wsX6_carryOut wsX6_put := goodIn_r _ [8, 9, 10, 11, 12, 13, 14, 15, 16, 17, 18] (by decide +kernel) (by decide +kernel)
set_option maxRecDepth 20000 in
theorem gX6_carryOut_X6_put : GoodIn wsX6_carryOut (wsV RX6 54 RX6 yX6_put wsX6_put) := goodIn_app (goodIn_of _ (by decide +kernel)) ggX6_carryOut_X6_put
theorem dX6_carryOut_0 : decode cX6_carryOut 0 = .ok (.aload_n 0, 1) := by decide +kernel
theorem dX6_carryOut_1 : decode cX6_carryOut 1 = .ok (.getfield 19, 3) := by decide +kernel
theorem dX6_carryOut_4 : decode cX6_carryOut 4 = .ok (.iconst 4, 1) := by decide +kernel
theorem dX6_carryOut_5 : decode cX6_carryOut 5 = .ok (.iload_n 1, 1) := by decide +kernel
theorem dX6_carryOut_6 : decode cX6_carryOut 6 = .ok (.imul, 1) := by decide +kernel
theorem dX6_carryOut_7 : decode cX6_carryOut 7 = .ok (.iconst 2, 1) := by decide +kernel
theorem dX6_carryOut_8 : decode cX6_carryOut 8 = .ok (.iadd, 1) := by decide +kernel
theorem dX6_carryOut_9 : decode cX6_carryOut 9 = .ok (.iaload, 1) := by decide +kernel
theorem dX6_carryOut_10 : decode cX6_carryOut 10 = .ok (.istore_n 2, 1) := by decide +kernel
theorem dX6_carryOut_11 : decode cX6_carryOut 11 = .ok (.aload_n 0, 1) := by decide +kernel
theorem dX6_carryOut_12 : decode cX6_carryOut 12 = .ok (.getfield 19, 3) := by decide +kernel
theorem dX6_carryOut_15 : decode cX6_carryOut 15 = .ok (.iconst 4, 1) := by decide +kernel
theorem dX6_carryOut_16 : decode cX6_carryOut 16 = .ok (.iload_n 1, 1) := by decide +kernel
theorem dX6_carryOut_17 : decode cX6_carryOut 17 = .ok (.imul, 1) := by decide +kernel
theorem dX6_carryOut_18 : decode cX6_carryOut 18 = .ok (.iconst 3, 1) := by decide +kernel
theorem dX6_carryOut_19 : decode cX6_carryOut 19 = .ok (.iadd, 1) := by decide +kernel
theorem dX6_carryOut_20 : decode cX6_carryOut 20 = .ok (.iaload, 1) := by decide +kernel
theorem dX6_carryOut_21 : decode cX6_carryOut 21 = .ok (.istore_n 3, 1) := by decide +kernel
theorem dX6_carryOut_22 : decode cX6_carryOut 22 = .ok (.aload_n 0, 1) := by decide +kernel
theorem dX6_carryOut_23 : decode cX6_carryOut 23 = .ok (.getfield 19, 3) := by decide +kernel
theorem dX6_carryOut_26 : decode cX6_carryOut 26 = .ok (.iconst 4, 1) := by decide +kernel
theorem dX6_carryOut_27 : decode cX6_carryOut 27 = .ok (.iload_n 1, 1) := by decide +kernel
theorem dX6_carryOut_28 : decode cX6_carryOut 28 = .ok (.imul, 1) := by decide +kernel
theorem dX6_carryOut_29 : decode cX6_carryOut 29 = .ok (.iconst 1, 1) := by decide +kernel
theorem dX6_carryOut_30 : decode cX6_carryOut 30 = .ok (.iadd, 1) := by decide +kernel
theorem dX6_carryOut_31 : decode cX6_carryOut 31 = .ok (.iaload, 1) := by decide +kernel
theorem dX6_carryOut_32 : decode cX6_carryOut 32 = .ok (.tableswitch 141 0 3 #[32, 40, 49, 126], 32) := by decide +kernel
theorem dX6_carryOut_64 : decode cX6_carryOut 64 = .ok (.aload_n 0, 1) := by decide +kernel
theorem dX6_carryOut_65 : decode cX6_carryOut 65 = .ok (.iload_n 2, 1) := by decide +kernel
theorem dX6_carryOut_66 : decode cX6_carryOut 66 = .ok (.iconst 2, 1) := by decide +kernel
theorem dX6_carryOut_67 : decode cX6_carryOut 67 = .ok (.iload_n 3, 1) := by decide +kernel
theorem dX6_carryOut_68 : decode cX6_carryOut 68 = .ok (.invokevirtual 54, 3) := by decide +kernel
theorem dX6_carryOut_71 : decode cX6_carryOut 71 = .ok (.return_, 1) := by decide +kernel
theorem dX6_carryOut_72 : decode cX6_carryOut 72 = .ok (.aload_n 0, 1) := by decide +kernel
theorem dX6_carryOut_73 : decode cX6_carryOut 73 = .ok (.getfield 22, 3) := by decide +kernel
theorem dX6_carryOut_76 : decode cX6_carryOut 76 = .ok (.bipush 6, 2) := by decide +kernel
theorem dX6_carryOut_78 : decode cX6_carryOut 78 = .ok (.iload_n 3, 1) := by decide +kernel
theorem dX6_carryOut_79 : decode cX6_carryOut 79 = .ok (.iastore, 1) := by decide +kernel
theorem dX6_carryOut_80 : decode cX6_carryOut 80 = .ok (.return_, 1) := by decide +kernel
theorem dX6_carryOut_81 : decode cX6_carryOut 81 = .ok (.aload_n 0, 1) := by decide +kernel
theorem dX6_carryOut_82 : decode cX6_carryOut 82 = .ok (.getfield 22, 3) := by decide +kernel
theorem dX6_carryOut_85 : decode cX6_carryOut 85 = .ok (.bipush 7, 2) := by decide +kernel
theorem dX6_carryOut_87 : decode cX6_carryOut 87 = .ok (.iaload, 1) := by decide +kernel
theorem dX6_carryOut_88 : decode cX6_carryOut 88 = .ok (.bipush 12, 2) := by decide +kernel
theorem dX6_carryOut_90 : decode cX6_carryOut 90 = .ok (.if_icmp .ne 4, 3) := by decide +kernel
theorem dX6_carryOut_93 : decode cX6_carryOut 93 = .ok (.return_, 1) := by decide +kernel
theorem dX6_carryOut_94 : decode cX6_carryOut 94 = .ok (.aload_n 0, 1) := by decide +kernel
theorem dX6_carryOut_95 : decode cX6_carryOut 95 = .ok (.getfield 16, 3) := by decide +kernel
theorem dX6_carryOut_98 : decode cX6_carryOut 98 = .ok (.iconst 3, 1) := by decide +kernel
theorem dX6_carryOut_99 : decode cX6_carryOut 99 = .ok (.aload_n 0, 1) := by decide +kernel
theorem dX6_carryOut_100 : decode cX6_carryOut 100 = .ok (.getfield 22, 3) := by decide +kernel
theorem dX6_carryOut_103 : decode cX6_carryOut 103 = .ok (.bipush 7, 2) := by decide +kernel
theorem dX6_carryOut_105 : decode cX6_carryOut 105 = .ok (.iaload, 1) := by decide +kernel
theorem dX6_carryOut_106 : decode cX6_carryOut 106 = .ok (.imul, 1) := by decide +kernel
theorem dX6_carryOut_107 : decode cX6_carryOut 107 = .ok (.iconst 0, 1) := by decide +kernel
theorem dX6_carryOut_108 : decode cX6_carryOut 108 = .ok (.iadd, 1) := by decide +kernel
theorem dX6_carryOut_109 : decode cX6_carryOut 109 = .ok (.iload_n 2, 1) := by decide +kernel
theorem dX6_carryOut_110 : decode cX6_carryOut 110 = .ok (.iastore, 1) := by decide +kernel
theorem dX6_carryOut_111 : decode cX6_carryOut 111 = .ok (.aload_n 0, 1) := by decide +kernel
theorem dX6_carryOut_112 : decode cX6_carryOut 112 = .ok (.getfield 16, 3) := by decide +kernel
theorem dX6_carryOut_115 : decode cX6_carryOut 115 = .ok (.iconst 3, 1) := by decide +kernel
theorem dX6_carryOut_116 : decode cX6_carryOut 116 = .ok (.aload_n 0, 1) := by decide +kernel
theorem dX6_carryOut_117 : decode cX6_carryOut 117 = .ok (.getfield 22, 3) := by decide +kernel
theorem dX6_carryOut_120 : decode cX6_carryOut 120 = .ok (.bipush 7, 2) := by decide +kernel
theorem dX6_carryOut_122 : decode cX6_carryOut 122 = .ok (.iaload, 1) := by decide +kernel
theorem dX6_carryOut_123 : decode cX6_carryOut 123 = .ok (.imul, 1) := by decide +kernel
theorem dX6_carryOut_124 : decode cX6_carryOut 124 = .ok (.iconst 1, 1) := by decide +kernel
theorem dX6_carryOut_125 : decode cX6_carryOut 125 = .ok (.iadd, 1) := by decide +kernel
theorem dX6_carryOut_126 : decode cX6_carryOut 126 = .ok (.iload_n 3, 1) := by decide +kernel
theorem dX6_carryOut_127 : decode cX6_carryOut 127 = .ok (.iastore, 1) := by decide +kernel
theorem dX6_carryOut_128 : decode cX6_carryOut 128 = .ok (.aload_n 0, 1) := by decide +kernel
theorem dX6_carryOut_129 : decode cX6_carryOut 129 = .ok (.getfield 16, 3) := by decide +kernel
theorem dX6_carryOut_132 : decode cX6_carryOut 132 = .ok (.iconst 3, 1) := by decide +kernel
theorem dX6_carryOut_133 : decode cX6_carryOut 133 = .ok (.aload_n 0, 1) := by decide +kernel
theorem dX6_carryOut_134 : decode cX6_carryOut 134 = .ok (.getfield 22, 3) := by decide +kernel
theorem dX6_carryOut_137 : decode cX6_carryOut 137 = .ok (.bipush 7, 2) := by decide +kernel
theorem dX6_carryOut_139 : decode cX6_carryOut 139 = .ok (.iaload, 1) := by decide +kernel
theorem dX6_carryOut_140 : decode cX6_carryOut 140 = .ok (.imul, 1) := by decide +kernel
theorem dX6_carryOut_141 : decode cX6_carryOut 141 = .ok (.iconst 2, 1) := by decide +kernel
theorem dX6_carryOut_142 : decode cX6_carryOut 142 = .ok (.iadd, 1) := by decide +kernel
theorem dX6_carryOut_143 : decode cX6_carryOut 143 = .ok (.bipush 20, 2) := by decide +kernel
theorem dX6_carryOut_145 : decode cX6_carryOut 145 = .ok (.iastore, 1) := by decide +kernel
theorem dX6_carryOut_146 : decode cX6_carryOut 146 = .ok (.aload_n 0, 1) := by decide +kernel
theorem dX6_carryOut_147 : decode cX6_carryOut 147 = .ok (.getfield 22, 3) := by decide +kernel
theorem dX6_carryOut_150 : decode cX6_carryOut 150 = .ok (.bipush 7, 2) := by decide +kernel
theorem dX6_carryOut_152 : decode cX6_carryOut 152 = .ok (.dup2, 1) := by decide +kernel
theorem dX6_carryOut_153 : decode cX6_carryOut 153 = .ok (.iaload, 1) := by decide +kernel
theorem dX6_carryOut_154 : decode cX6_carryOut 154 = .ok (.iconst 1, 1) := by decide +kernel
theorem dX6_carryOut_155 : decode cX6_carryOut 155 = .ok (.iadd, 1) := by decide +kernel
theorem dX6_carryOut_156 : decode cX6_carryOut 156 = .ok (.iastore, 1) := by decide +kernel
theorem dX6_carryOut_157 : decode cX6_carryOut 157 = .ok (.return_, 1) := by decide +kernel
theorem dX6_carryOut_158 : decode cX6_carryOut 158 = .ok (.aload_n 0, 1) := by decide +kernel
theorem dX6_carryOut_159 : decode cX6_carryOut 159 = .ok (.getfield 22, 3) := by decide +kernel
theorem dX6_carryOut_162 : decode cX6_carryOut 162 = .ok (.iconst 3, 1) := by decide +kernel
theorem dX6_carryOut_163 : decode cX6_carryOut 163 = .ok (.iload_n 2, 1) := by decide +kernel
theorem dX6_carryOut_164 : decode cX6_carryOut 164 = .ok (.iastore, 1) := by decide +kernel
theorem dX6_carryOut_165 : decode cX6_carryOut 165 = .ok (.aload_n 0, 1) := by decide +kernel
theorem dX6_carryOut_166 : decode cX6_carryOut 166 = .ok (.getfield 22, 3) := by decide +kernel
theorem dX6_carryOut_169 : decode cX6_carryOut 169 = .ok (.iconst 4, 1) := by decide +kernel
theorem dX6_carryOut_170 : decode cX6_carryOut 170 = .ok (.iload_n 3, 1) := by decide +kernel
theorem dX6_carryOut_171 : decode cX6_carryOut 171 = .ok (.iastore, 1) := by decide +kernel
theorem dX6_carryOut_172 : decode cX6_carryOut 172 = .ok (.return_, 1) := by decide +kernel
theorem dX6_carryOut_173 : decode cX6_carryOut 173 = .ok (.aload_n 0, 1) := by decide +kernel
theorem dX6_carryOut_174 : decode cX6_carryOut 174 = .ok (.getfield 22, 3) := by decide +kernel
theorem dX6_carryOut_177 : decode cX6_carryOut 177 = .ok (.iconst 2, 1) := by decide +kernel
theorem dX6_carryOut_178 : decode cX6_carryOut 178 = .ok (.iconst 0, 1) := by decide +kernel
theorem dX6_carryOut_179 : decode cX6_carryOut 179 = .ok (.iastore, 1) := by decide +kernel
theorem dX6_carryOut_180 : decode cX6_carryOut 180 = .ok (.return_, 1) := by decide +kernel
theorem dX6_round_0 : decode cX6_round 0 = .ok (.iload_n 0, 1) := by decide +kernel
theorem dX6_round_1 : decode cX6_round 1 = .ok (.sipush 360, 3) := by decide +kernel
theorem dX6_round_4 : decode cX6_round 4 = .ok (.iadd, 1) := by decide +kernel
theorem dX6_round_5 : decode cX6_round 5 = .ok (.sipush 360, 3) := by decide +kernel
theorem dX6_round_8 : decode cX6_round 8 = .ok (.irem, 1) := by decide +kernel
theorem dX6_round_9 : decode cX6_round 9 = .ok (.ireturn, 1) := by decide +kernel
set_option maxRecDepth 20000 in
theorem ggX6_glow_X6_la : GoodIn wsX6_glow wsX6_la := goodIn_r _ [12, 13, 18, 19, 20, 21, 22, 23, 24, 25, 26] (by decide +kernel) (by decide +kernel)
set_option maxRecDepth 20000 in
theorem gX6_glow_X6_la : GoodIn wsX6_glow (wsV RX6 50 RX6 yX6_la wsX6_la) := goodIn_app (goodIn_of _ (by decide +kernel)) ggX6_glow_X6_la
set_option maxRecDepth 20000 in
theorem ggX6_glow_X6_put : GoodIn wsX6_glow wsX6_put := goodIn_r _ [17, 13, 18, 19, 20, 21, 22, 23, 24, 25, 26] (by decide +kernel) (by decide +kernel)
set_option maxRecDepth 20000 in
theorem gX6_glow_X6_put : GoodIn wsX6_glow (wsV RX6 54 RX6 yX6_put wsX6_put) := goodIn_app (goodIn_of _ (by decide +kernel)) ggX6_glow_X6_put
theorem dX6_glow_0 : decode cX6_glow 0 = .ok (.aload_n 0, 1) := by decide +kernel
theorem dX6_glow_1 : decode cX6_glow 1 = .ok (.iload_n 1, 1) := by decide +kernel
theorem dX6_glow_2 : decode cX6_glow 2 = .ok (.iconst 2, 1) := by decide +kernel
theorem dX6_glow_3 : decode cX6_glow 3 = .ok (.invokevirtual 50, 3) := by decide +kernel
theorem dX6_glow_6 : decode cX6_glow 6 = .ok (.aload_n 0, 1) := by decide +kernel
theorem dX6_glow_7 : decode cX6_glow 7 = .ok (.iload_n 1, 1) := by decide +kernel
theorem dX6_glow_8 : decode cX6_glow 8 = .ok (.iconst 1, 1) := by decide +kernel
theorem dX6_glow_9 : decode cX6_glow 9 = .ok (.invokevirtual 50, 3) := by decide +kernel
theorem dX6_glow_12 : decode cX6_glow 12 = .ok (.isub, 1) := by decide +kernel
theorem dX6_glow_13 : decode cX6_glow 13 = .ok (.istore_n 2, 1) := by decide +kernel
theorem dX6_glow_14 : decode cX6_glow 14 = .ok (.aload_n 0, 1) := by decide +kernel
theorem dX6_glow_15 : decode cX6_glow 15 = .ok (.iload_n 1, 1) := by decide +kernel
theorem dX6_glow_16 : decode cX6_glow 16 = .ok (.iconst 1, 1) := by decide +kernel
theorem dX6_glow_17 : decode cX6_glow 17 = .ok (.invokevirtual 50, 3) := by decide +kernel
theorem dX6_glow_20 : decode cX6_glow 20 = .ok (.aload_n 0, 1) := by decide +kernel
theorem dX6_glow_21 : decode cX6_glow 21 = .ok (.iload_n 1, 1) := by decide +kernel
theorem dX6_glow_22 : decode cX6_glow 22 = .ok (.iconst 3, 1) := by decide +kernel
theorem dX6_glow_23 : decode cX6_glow 23 = .ok (.invokevirtual 50, 3) := by decide +kernel
theorem dX6_glow_26 : decode cX6_glow 26 = .ok (.ineg, 1) := by decide +kernel
theorem dX6_glow_27 : decode cX6_glow 27 = .ok (.aload_n 0, 1) := by decide +kernel
theorem dX6_glow_28 : decode cX6_glow 28 = .ok (.iload_n 1, 1) := by decide +kernel
theorem dX6_glow_29 : decode cX6_glow 29 = .ok (.iconst 3, 1) := by decide +kernel
theorem dX6_glow_30 : decode cX6_glow 30 = .ok (.invokevirtual 50, 3) := by decide +kernel
theorem dX6_glow_33 : decode cX6_glow 33 = .ok (.iload_n 2, 1) := by decide +kernel
theorem dX6_glow_34 : decode cX6_glow 34 = .ok (.invokestatic 67, 3) := by decide +kernel
theorem dX6_glow_37 : decode cX6_glow 37 = .ok (.invokestatic 72, 3) := by decide +kernel
theorem dX6_glow_40 : decode cX6_glow 40 = .ok (.iadd, 1) := by decide +kernel
theorem dX6_glow_41 : decode cX6_glow 41 = .ok (.istore_n 3, 1) := by decide +kernel
theorem dX6_glow_42 : decode cX6_glow 42 = .ok (.iconst 0, 1) := by decide +kernel
theorem dX6_glow_43 : decode cX6_glow 43 = .ok (.aload_n 0, 1) := by decide +kernel
theorem dX6_glow_44 : decode cX6_glow 44 = .ok (.iload_n 1, 1) := by decide +kernel
theorem dX6_glow_45 : decode cX6_glow 45 = .ok (.iconst 4, 1) := by decide +kernel
theorem dX6_glow_46 : decode cX6_glow 46 = .ok (.invokevirtual 50, 3) := by decide +kernel
theorem dX6_glow_49 : decode cX6_glow 49 = .ok (.iload_n 3, 1) := by decide +kernel
theorem dX6_glow_50 : decode cX6_glow 50 = .ok (.bipush 10, 2) := by decide +kernel
theorem dX6_glow_52 : decode cX6_glow 52 = .ok (.idiv, 1) := by decide +kernel
theorem dX6_glow_53 : decode cX6_glow 53 = .ok (.isub, 1) := by decide +kernel
theorem dX6_glow_54 : decode cX6_glow 54 = .ok (.invokestatic 72, 3) := by decide +kernel
theorem dX6_glow_57 : decode cX6_glow 57 = .ok (.istore 4, 2) := by decide +kernel
theorem dX6_glow_59 : decode cX6_glow 59 = .ok (.aload_n 0, 1) := by decide +kernel
theorem dX6_glow_60 : decode cX6_glow 60 = .ok (.iload_n 1, 1) := by decide +kernel
theorem dX6_glow_61 : decode cX6_glow 61 = .ok (.iconst 4, 1) := by decide +kernel
theorem dX6_glow_62 : decode cX6_glow 62 = .ok (.iload 4, 2) := by decide +kernel
theorem dX6_glow_64 : decode cX6_glow 64 = .ok (.invokevirtual 54, 3) := by decide +kernel
theorem dX6_glow_67 : decode cX6_glow 67 = .ok (.aload_n 0, 1) := by decide +kernel
theorem dX6_glow_68 : decode cX6_glow 68 = .ok (.iload_n 1, 1) := by decide +kernel
theorem dX6_glow_69 : decode cX6_glow 69 = .ok (.iconst 1, 1) := by decide +kernel
theorem dX6_glow_70 : decode cX6_glow 70 = .ok (.iload 4, 2) := by decide +kernel
theorem dX6_glow_72 : decode cX6_glow 72 = .ok (.ifCond .ne 7, 3) := by decide +kernel
theorem dX6_glow_75 : decode cX6_glow 75 = .ok (.iconst 0, 1) := by decide +kernel
theorem dX6_glow_76 : decode cX6_glow 76 = .ok (.goto 4, 3) := by decide +kernel
theorem dX6_glow_79 : decode cX6_glow 79 = .ok (.iload_n 3, 1) := by decide +kernel
theorem dX6_glow_80 : decode cX6_glow 80 = .ok (.invokevirtual 54, 3) := by decide +kernel
theorem dX6_glow_83 : decode cX6_glow 83 = .ok (.return_, 1) := by decide +kernel
set_option maxRecDepth 20000 in
theorem ggX6_tickOn_X6_carryOut : GoodIn wsX6_tickOn wsX6_carryOut := goodIn_r _ [10, 3, 1, 5, 11, 12, 13, 9, 14, 15, 34, 35, 36, 37, 38, 39, 40, 41, 42] (by decide +kernel) (by decide +kernel)
set_option maxRecDepth 20000 in
theorem gX6_tickOn_X6_carryOut : GoodIn wsX6_tickOn (wsV RX6 75 RX6 yX6_carryOut wsX6_carryOut) := goodIn_app (goodIn_of _ (by decide +kernel)) ggX6_tickOn_X6_carryOut
set_option maxRecDepth 20000 in
theorem ggX6_tickOn_X6_glow : GoodIn wsX6_tickOn wsX6_glow := goodIn_r _ [19, 20, 21, 22, 23, 24, 25, 26, 27, 28, 29, 9, 30, 15, 11, 12, 13, 14, 34, 35, 36, 37, 38, 39, 40, 41, 42] (by decide +kernel) (by decide +kernel)
set_option maxRecDepth 20000 in
theorem gX6_tickOn_X6_glow : GoodIn wsX6_tickOn (wsV RX6 79 RX6 yX6_glow wsX6_glow) := goodIn_app (goodIn_of _ (by decide +kernel)) ggX6_tickOn_X6_glow
set_option maxRecDepth 20000 in
theorem ggX6_tickOn_X6_round : GoodIn wsX6_tickOn wsX6_round := goodIn_r _ [33] (by decide +kernel) (by decide +kernel)
set_option maxRecDepth 20000 in
theorem gX6_tickOn_X6_round : GoodIn wsX6_tickOn (va_wsS RX6 82 yX6_round wsX6_round) := goodIn_app (goodIn_of _ (by decide +kernel)) ggX6_tickOn_X6_round
theorem dX6_tickOn_0 : decode cX6_tickOn 0 = .ok (.iconst 0, 1) := by decide +kernel
theorem dX6_tickOn_1 : decode cX6_tickOn 1 = .ok (.istore_n 1, 1) := by decide +kernel
theorem dX6_tickOn_2 : decode cX6_tickOn 2 = .ok (.aload_n 0, 1) := by decide +kernel
theorem dX6_tickOn_3 : decode cX6_tickOn 3 = .ok (.getfield 22, 3) := by decide +kernel
theorem dX6_tickOn_6 : decode cX6_tickOn 6 = .ok (.iconst 2, 1) := by decide +kernel
theorem dX6_tickOn_7 : decode cX6_tickOn 7 = .ok (.iaload, 1) := by decide +kernel
theorem dX6_tickOn_8 : decode cX6_tickOn 8 = .ok (.iconst 1, 1) := by decide +kernel
theorem dX6_tickOn_9 : decode cX6_tickOn 9 = .ok (.if_icmp .ne 61, 3) := by decide +kernel
theorem dX6_tickOn_12 : decode cX6_tickOn 12 = .ok (.aload_n 0, 1) := by decide +kernel
theorem dX6_tickOn_13 : decode cX6_tickOn 13 = .ok (.getfield 22, 3) := by decide +kernel
theorem dX6_tickOn_16 : decode cX6_tickOn 16 = .ok (.iconst 1, 1) := by decide +kernel
theorem dX6_tickOn_17 : decode cX6_tickOn 17 = .ok (.iaload, 1) := by decide +kernel
theorem dX6_tickOn_18 : decode cX6_tickOn 18 = .ok (.istore_n 2, 1) := by decide +kernel
theorem dX6_tickOn_19 : decode cX6_tickOn 19 = .ok (.iconst 0, 1) := by decide +kernel
theorem dX6_tickOn_20 : decode cX6_tickOn 20 = .ok (.istore_n 3, 1) := by decide +kernel
theorem dX6_tickOn_21 : decode cX6_tickOn 21 = .ok (.iload_n 3, 1) := by decide +kernel
theorem dX6_tickOn_22 : decode cX6_tickOn 22 = .ok (.aload_n 0, 1) := by decide +kernel
theorem dX6_tickOn_23 : decode cX6_tickOn 23 = .ok (.getfield 64, 3) := by decide +kernel
theorem dX6_tickOn_26 : decode cX6_tickOn 26 = .ok (.if_icmp .ge 34, 3) := by decide +kernel
theorem dX6_tickOn_29 : decode cX6_tickOn 29 = .ok (.aload_n 0, 1) := by decide +kernel
theorem dX6_tickOn_30 : decode cX6_tickOn 30 = .ok (.getfield 19, 3) := by decide +kernel
theorem dX6_tickOn_33 : decode cX6_tickOn 33 = .ok (.iconst 4, 1) := by decide +kernel
theorem dX6_tickOn_34 : decode cX6_tickOn 34 = .ok (.iload_n 3, 1) := by decide +kernel
theorem dX6_tickOn_35 : decode cX6_tickOn 35 = .ok (.imul, 1) := by decide +kernel
theorem dX6_tickOn_36 : decode cX6_tickOn 36 = .ok (.iconst 0, 1) := by decide +kernel
theorem dX6_tickOn_37 : decode cX6_tickOn 37 = .ok (.iadd, 1) := by decide +kernel
theorem dX6_tickOn_38 : decode cX6_tickOn 38 = .ok (.iaload, 1) := by decide +kernel
theorem dX6_tickOn_39 : decode cX6_tickOn 39 = .ok (.iload_n 2, 1) := by decide +kernel
theorem dX6_tickOn_40 : decode cX6_tickOn 40 = .ok (.if_icmp .eq 6, 3) := by decide +kernel
theorem dX6_tickOn_43 : decode cX6_tickOn 43 = .ok (.goto 11, 3) := by decide +kernel
theorem dX6_tickOn_46 : decode cX6_tickOn 46 = .ok (.aload_n 0, 1) := by decide +kernel
theorem dX6_tickOn_47 : decode cX6_tickOn 47 = .ok (.iload_n 3, 1) := by decide +kernel
theorem dX6_tickOn_48 : decode cX6_tickOn 48 = .ok (.invokevirtual 75, 3) := by decide +kernel
theorem dX6_tickOn_51 : decode cX6_tickOn 51 = .ok (.iinc 1 1, 3) := by decide +kernel
theorem dX6_tickOn_54 : decode cX6_tickOn 54 = .ok (.iinc 3 1, 3) := by decide +kernel
theorem dX6_tickOn_57 : decode cX6_tickOn 57 = .ok (.goto (-36), 3) := by decide +kernel
theorem dX6_tickOn_60 : decode cX6_tickOn 60 = .ok (.aload_n 0, 1) := by decide +kernel
theorem dX6_tickOn_61 : decode cX6_tickOn 61 = .ok (.getfield 22, 3) := by decide +kernel
theorem dX6_tickOn_64 : decode cX6_tickOn 64 = .ok (.iconst 1, 1) := by decide +kernel
theorem dX6_tickOn_65 : decode cX6_tickOn 65 = .ok (.dup2, 1) := by decide +kernel
theorem dX6_tickOn_66 : decode cX6_tickOn 66 = .ok (.iaload, 1) := by decide +kernel
theorem dX6_tickOn_67 : decode cX6_tickOn 67 = .ok (.iconst 1, 1) := by decide +kernel
theorem dX6_tickOn_68 : decode cX6_tickOn 68 = .ok (.iadd, 1) := by decide +kernel
theorem dX6_tickOn_69 : decode cX6_tickOn 69 = .ok (.iastore, 1) := by decide +kernel
theorem dX6_tickOn_70 : decode cX6_tickOn 70 = .ok (.iconst 0, 1) := by decide +kernel
theorem dX6_tickOn_71 : decode cX6_tickOn 71 = .ok (.istore_n 2, 1) := by decide +kernel
theorem dX6_tickOn_72 : decode cX6_tickOn 72 = .ok (.iload_n 2, 1) := by decide +kernel
theorem dX6_tickOn_73 : decode cX6_tickOn 73 = .ok (.aload_n 0, 1) := by decide +kernel
theorem dX6_tickOn_74 : decode cX6_tickOn 74 = .ok (.getfield 29, 3) := by decide +kernel
theorem dX6_tickOn_77 : decode cX6_tickOn 77 = .ok (.if_icmp .ge 14, 3) := by decide +kernel
theorem dX6_tickOn_80 : decode cX6_tickOn 80 = .ok (.aload_n 0, 1) := by decide +kernel
theorem dX6_tickOn_81 : decode cX6_tickOn 81 = .ok (.iload_n 2, 1) := by decide +kernel
theorem dX6_tickOn_82 : decode cX6_tickOn 82 = .ok (.invokevirtual 79, 3) := by decide +kernel
theorem dX6_tickOn_85 : decode cX6_tickOn 85 = .ok (.iinc 2 1, 3) := by decide +kernel
theorem dX6_tickOn_88 : decode cX6_tickOn 88 = .ok (.goto (-16), 3) := by decide +kernel
theorem dX6_tickOn_91 : decode cX6_tickOn 91 = .ok (.aload_n 0, 1) := by decide +kernel
theorem dX6_tickOn_92 : decode cX6_tickOn 92 = .ok (.getfield 22, 3) := by decide +kernel
theorem dX6_tickOn_95 : decode cX6_tickOn 95 = .ok (.iconst 5, 1) := by decide +kernel
theorem dX6_tickOn_96 : decode cX6_tickOn 96 = .ok (.aload_n 0, 1) := by decide +kernel
theorem dX6_tickOn_97 : decode cX6_tickOn 97 = .ok (.getfield 22, 3) := by decide +kernel
theorem dX6_tickOn_100 : decode cX6_tickOn 100 = .ok (.iconst 5, 1) := by decide +kernel
theorem dX6_tickOn_101 : decode cX6_tickOn 101 = .ok (.iaload, 1) := by decide +kernel
theorem dX6_tickOn_102 : decode cX6_tickOn 102 = .ok (.aload_n 0, 1) := by decide +kernel
theorem dX6_tickOn_103 : decode cX6_tickOn 103 = .ok (.getfield 22, 3) := by decide +kernel
theorem dX6_tickOn_106 : decode cX6_tickOn 106 = .ok (.bipush 6, 2) := by decide +kernel
theorem dX6_tickOn_108 : decode cX6_tickOn 108 = .ok (.iaload, 1) := by decide +kernel
theorem dX6_tickOn_109 : decode cX6_tickOn 109 = .ok (.iadd, 1) := by decide +kernel
theorem dX6_tickOn_110 : decode cX6_tickOn 110 = .ok (.invokestatic 82, 3) := by decide +kernel
theorem dX6_tickOn_113 : decode cX6_tickOn 113 = .ok (.iastore, 1) := by decide +kernel
theorem dX6_tickOn_114 : decode cX6_tickOn 114 = .ok (.iconst 0, 1) := by decide +kernel
theorem dX6_tickOn_115 : decode cX6_tickOn 115 = .ok (.istore_n 2, 1) := by decide +kernel
theorem dX6_tickOn_116 : decode cX6_tickOn 116 = .ok (.iload_n 2, 1) := by decide +kernel
theorem dX6_tickOn_117 : decode cX6_tickOn 117 = .ok (.aload_n 0, 1) := by decide +kernel
theorem dX6_tickOn_118 : decode cX6_tickOn 118 = .ok (.getfield 22, 3) := by decide +kernel
theorem dX6_tickOn_121 : decode cX6_tickOn 121 = .ok (.bipush 7, 2) := by decide +kernel
theorem dX6_tickOn_123 : decode cX6_tickOn 123 = .ok (.iaload, 1) := by decide +kernel
theorem dX6_tickOn_124 : decode cX6_tickOn 124 = .ok (.if_icmp .ge 73, 3) := by decide +kernel
theorem dX6_tickOn_127 : decode cX6_tickOn 127 = .ok (.aload_n 0, 1) := by decide +kernel
theorem dX6_tickOn_128 : decode cX6_tickOn 128 = .ok (.getfield 16, 3) := by decide +kernel
theorem dX6_tickOn_131 : decode cX6_tickOn 131 = .ok (.iconst 3, 1) := by decide +kernel
theorem dX6_tickOn_132 : decode cX6_tickOn 132 = .ok (.iload_n 2, 1) := by decide +kernel
theorem dX6_tickOn_133 : decode cX6_tickOn 133 = .ok (.imul, 1) := by decide +kernel
theorem dX6_tickOn_134 : decode cX6_tickOn 134 = .ok (.iconst 2, 1) := by decide +kernel
theorem dX6_tickOn_135 : decode cX6_tickOn 135 = .ok (.iadd, 1) := by decide +kernel
theorem dX6_tickOn_136 : decode cX6_tickOn 136 = .ok (.iaload, 1) := by decide +kernel
theorem dX6_tickOn_137 : decode cX6_tickOn 137 = .ok (.ifCond .ne 6, 3) := by decide +kernel
theorem dX6_tickOn_140 : decode cX6_tickOn 140 = .ok (.goto 51, 3) := by decide +kernel
theorem dX6_tickOn_143 : decode cX6_tickOn 143 = .ok (.aload_n 0, 1) := by decide +kernel
theorem dX6_tickOn_144 : decode cX6_tickOn 144 = .ok (.getfield 16, 3) := by decide +kernel
theorem dX6_tickOn_147 : decode cX6_tickOn 147 = .ok (.iconst 3, 1) := by decide +kernel
theorem dX6_tickOn_148 : decode cX6_tickOn 148 = .ok (.iload_n 2, 1) := by decide +kernel
theorem dX6_tickOn_149 : decode cX6_tickOn 149 = .ok (.imul, 1) := by decide +kernel
theorem dX6_tickOn_150 : decode cX6_tickOn 150 = .ok (.iconst 0, 1) := by decide +kernel
theorem dX6_tickOn_151 : decode cX6_tickOn 151 = .ok (.iadd, 1) := by decide +kernel
theorem dX6_tickOn_152 : decode cX6_tickOn 152 = .ok (.aload_n 0, 1) := by decide +kernel
theorem dX6_tickOn_153 : decode cX6_tickOn 153 = .ok (.getfield 16, 3) := by decide +kernel
theorem dX6_tickOn_156 : decode cX6_tickOn 156 = .ok (.iconst 3, 1) := by decide +kernel
theorem dX6_tickOn_157 : decode cX6_tickOn 157 = .ok (.iload_n 2, 1) := by decide +kernel
theorem dX6_tickOn_158 : decode cX6_tickOn 158 = .ok (.imul, 1) := by decide +kernel
theorem dX6_tickOn_159 : decode cX6_tickOn 159 = .ok (.iconst 0, 1) := by decide +kernel
theorem dX6_tickOn_160 : decode cX6_tickOn 160 = .ok (.iadd, 1) := by decide +kernel
theorem dX6_tickOn_161 : decode cX6_tickOn 161 = .ok (.iaload, 1) := by decide +kernel
theorem dX6_tickOn_162 : decode cX6_tickOn 162 = .ok (.aload_n 0, 1) := by decide +kernel
theorem dX6_tickOn_163 : decode cX6_tickOn 163 = .ok (.getfield 16, 3) := by decide +kernel
theorem dX6_tickOn_166 : decode cX6_tickOn 166 = .ok (.iconst 3, 1) := by decide +kernel
theorem dX6_tickOn_167 : decode cX6_tickOn 167 = .ok (.iload_n 2, 1) := by decide +kernel
theorem dX6_tickOn_168 : decode cX6_tickOn 168 = .ok (.imul, 1) := by decide +kernel
theorem dX6_tickOn_169 : decode cX6_tickOn 169 = .ok (.iconst 1, 1) := by decide +kernel
theorem dX6_tickOn_170 : decode cX6_tickOn 170 = .ok (.iadd, 1) := by decide +kernel
theorem dX6_tickOn_171 : decode cX6_tickOn 171 = .ok (.iaload, 1) := by decide +kernel
theorem dX6_tickOn_172 : decode cX6_tickOn 172 = .ok (.iadd, 1) := by decide +kernel
theorem dX6_tickOn_173 : decode cX6_tickOn 173 = .ok (.invokestatic 82, 3) := by decide +kernel
theorem dX6_tickOn_176 : decode cX6_tickOn 176 = .ok (.iastore, 1) := by decide +kernel
theorem dX6_tickOn_177 : decode cX6_tickOn 177 = .ok (.aload_n 0, 1) := by decide +kernel
theorem dX6_tickOn_178 : decode cX6_tickOn 178 = .ok (.getfield 16, 3) := by decide +kernel
theorem dX6_tickOn_181 : decode cX6_tickOn 181 = .ok (.iconst 3, 1) := by decide +kernel
theorem dX6_tickOn_182 : decode cX6_tickOn 182 = .ok (.iload_n 2, 1) := by decide +kernel
theorem dX6_tickOn_183 : decode cX6_tickOn 183 = .ok (.imul, 1) := by decide +kernel
theorem dX6_tickOn_184 : decode cX6_tickOn 184 = .ok (.iconst 2, 1) := by decide +kernel
theorem dX6_tickOn_185 : decode cX6_tickOn 185 = .ok (.iadd, 1) := by decide +kernel
theorem dX6_tickOn_186 : decode cX6_tickOn 186 = .ok (.dup2, 1) := by decide +kernel
theorem dX6_tickOn_187 : decode cX6_tickOn 187 = .ok (.iaload, 1) := by decide +kernel
theorem dX6_tickOn_188 : decode cX6_tickOn 188 = .ok (.iconst 1, 1) := by decide +kernel
theorem dX6_tickOn_189 : decode cX6_tickOn 189 = .ok (.isub, 1) := by decide +kernel
theorem dX6_tickOn_190 : decode cX6_tickOn 190 = .ok (.iastore, 1) := by decide +kernel
theorem dX6_tickOn_191 : decode cX6_tickOn 191 = .ok (.iinc 2 1, 3) := by decide +kernel
theorem dX6_tickOn_194 : decode cX6_tickOn 194 = .ok (.goto (-78), 3) := by decide +kernel
theorem dX6_tickOn_197 : decode cX6_tickOn 197 = .ok (.aload_n 0, 1) := by decide +kernel
theorem dX6_tickOn_198 : decode cX6_tickOn 198 = .ok (.getfield 22, 3) := by decide +kernel
theorem dX6_tickOn_201 : decode cX6_tickOn 201 = .ok (.iconst 4, 1) := by decide +kernel
theorem dX6_tickOn_202 : decode cX6_tickOn 202 = .ok (.iaload, 1) := by decide +kernel
theorem dX6_tickOn_203 : decode cX6_tickOn 203 = .ok (.ifCond .le 13, 3) := by decide +kernel
theorem dX6_tickOn_206 : decode cX6_tickOn 206 = .ok (.aload_n 0, 1) := by decide +kernel
theorem dX6_tickOn_207 : decode cX6_tickOn 207 = .ok (.getfield 22, 3) := by decide +kernel
theorem dX6_tickOn_210 : decode cX6_tickOn 210 = .ok (.iconst 4, 1) := by decide +kernel
theorem dX6_tickOn_211 : decode cX6_tickOn 211 = .ok (.dup2, 1) := by decide +kernel
theorem dX6_tickOn_212 : decode cX6_tickOn 212 = .ok (.iaload, 1) := by decide +kernel
theorem dX6_tickOn_213 : decode cX6_tickOn 213 = .ok (.iconst 1, 1) := by decide +kernel
theorem dX6_tickOn_214 : decode cX6_tickOn 214 = .ok (.isub, 1) := by decide +kernel
theorem dX6_tickOn_215 : decode cX6_tickOn 215 = .ok (.iastore, 1) := by decide +kernel
theorem dX6_tickOn_216 : decode cX6_tickOn 216 = .ok (.aload_n 0, 1) := by decide +kernel
theorem dX6_tickOn_217 : decode cX6_tickOn 217 = .ok (.getfield 22, 3) := by decide +kernel
theorem dX6_tickOn_220 : decode cX6_tickOn 220 = .ok (.iconst 4, 1) := by decide +kernel
theorem dX6_tickOn_221 : decode cX6_tickOn 221 = .ok (.iaload, 1) := by decide +kernel
theorem dX6_tickOn_222 : decode cX6_tickOn 222 = .ok (.ifCond .ne 10, 3) := by decide +kernel
theorem dX6_tickOn_225 : decode cX6_tickOn 225 = .ok (.aload_n 0, 1) := by decide +kernel
theorem dX6_tickOn_226 : decode cX6_tickOn 226 = .ok (.getfield 22, 3) := by decide +kernel
theorem dX6_tickOn_229 : decode cX6_tickOn 229 = .ok (.iconst 3, 1) := by decide +kernel
theorem dX6_tickOn_230 : decode cX6_tickOn 230 = .ok (.iconst (-1), 1) := by decide +kernel
theorem dX6_tickOn_231 : decode cX6_tickOn 231 = .ok (.iastore, 1) := by decide +kernel
theorem dX6_tickOn_232 : decode cX6_tickOn 232 = .ok (.aload_n 0, 1) := by decide +kernel
theorem dX6_tickOn_233 : decode cX6_tickOn 233 = .ok (.getfield 22, 3) := by decide +kernel
theorem dX6_tickOn_236 : decode cX6_tickOn 236 = .ok (.iconst 0, 1) := by decide +kernel
theorem dX6_tickOn_237 : decode cX6_tickOn 237 = .ok (.dup2, 1) := by decide +kernel
theorem dX6_tickOn_238 : decode cX6_tickOn 238 = .ok (.iaload, 1) := by decide +kernel
theorem dX6_tickOn_239 : decode cX6_tickOn 239 = .ok (.iconst 1, 1) := by decide +kernel
theorem dX6_tickOn_240 : decode cX6_tickOn 240 = .ok (.iadd, 1) := by decide +kernel
theorem dX6_tickOn_241 : decode cX6_tickOn 241 = .ok (.iastore, 1) := by decide +kernel
theorem dX6_tickOn_242 : decode cX6_tickOn 242 = .ok (.iload_n 1, 1) := by decide +kernel
theorem dX6_tickOn_243 : decode cX6_tickOn 243 = .ok (.ireturn, 1) := by decide +kernel
set_option maxRecDepth 20000 in
theorem ggX6_ticksOn_X6_tickOn : GoodIn wsX6_ticksOn wsX6_tickOn := goodIn_r _ [5, 6, 7, 8, 9, 10, 11, 12, 13, 4, 14, 15, 16, 17, 18, 19, 20, 21, 22, 23, 24, 25, 26, 27, 28, 29, 30, 31, 32, 33, 34, 35, 36, 37, 38, 39, 40, 41, 42, 43, 44, 45, 46] (by decide +kernel) (by decide +kernel)
set_option maxRecDepth 20000 in
theorem gX6_ticksOn_X6_tickOn : GoodIn wsX6_ticksOn (wsV RX6 85 RX6 yX6_tickOn wsX6_tickOn) := goodIn_app (goodIn_of _ (by decide +kernel)) ggX6_ticksOn_X6_tickOn
theorem dX6_ticksOn_0 : decode cX6_ticksOn 0 = .ok (.iconst 0, 1) := by decide +kernel
theorem dX6_ticksOn_1 : decode cX6_ticksOn 1 = .ok (.istore_n 2, 1) := by decide +kernel
theorem dX6_ticksOn_2 : decode cX6_ticksOn 2 = .ok (.iconst 0, 1) := by decide +kernel
theorem dX6_ticksOn_3 : decode cX6_ticksOn 3 = .ok (.istore_n 3, 1) := by decide +kernel
theorem dX6_ticksOn_4 : decode cX6_ticksOn 4 = .ok (.iload_n 3, 1) := by decide +kernel
theorem dX6_ticksOn_5 : decode cX6_ticksOn 5 = .ok (.iload_n 1, 1) := by decide +kernel
theorem dX6_ticksOn_6 : decode cX6_ticksOn 6 = .ok (.if_icmp .ge 16, 3) := by decide +kernel
theorem dX6_ticksOn_9 : decode cX6_ticksOn 9 = .ok (.iload_n 2, 1) := by decide +kernel
theorem dX6_ticksOn_10 : decode cX6_ticksOn 10 = .ok (.aload_n 0, 1) := by decide +kernel
theorem dX6_ticksOn_11 : decode cX6_ticksOn 11 = .ok (.invokevirtual 85, 3) := by decide +kernel
theorem dX6_ticksOn_14 : decode cX6_ticksOn 14 = .ok (.iadd, 1) := by decide +kernel
theorem dX6_ticksOn_15 : decode cX6_ticksOn 15 = .ok (.istore_n 2, 1) := by decide +kernel
theorem dX6_ticksOn_16 : decode cX6_ticksOn 16 = .ok (.iinc 3 1, 3) := by decide +kernel
theorem dX6_ticksOn_19 : decode cX6_ticksOn 19 = .ok (.goto (-15), 3) := by decide +kernel
theorem dX6_ticksOn_22 : decode cX6_ticksOn 22 = .ok (.iload_n 2, 1) := by decide +kernel
theorem dX6_ticksOn_23 : decode cX6_ticksOn 23 = .ok (.ireturn, 1) := by decide +kernel
set_option maxRecDepth 20000 in
theorem ggX6_pass_X6_isIn : GoodIn wsX6_pass wsX6_isIn := goodIn_r _ [5] (by decide +kernel) (by decide +kernel)
set_option maxRecDepth 20000 in
theorem gX6_pass_X6_isIn : GoodIn wsX6_pass (va_wsS RX6 32 yX6_isIn wsX6_isIn) := goodIn_app (goodIn_of _ (by decide +kernel)) ggX6_pass_X6_isIn
set_option maxRecDepth 20000 in
theorem ggX6_pass_X6_ticksOn : GoodIn wsX6_pass wsX6_ticksOn := goodIn_r _ [9, 10, 11, 12, 4, 13, 14, 15, 16, 17, 18, 19, 20, 21, 22, 23, 24, 25, 26, 27, 28, 29, 30, 31, 32, 33, 34, 35, 36, 37, 38, 39, 40, 41, 42, 43, 44, 45, 50, 51, 52, 53, 54, 55, 56, 57, 58] (by decide +kernel) (by decide +kernel)
set_option maxRecDepth 20000 in
theorem gX6_pass_X6_ticksOn : GoodIn wsX6_pass (wsV RX6 89 RX6 yX6_ticksOn wsX6_ticksOn) := goodIn_app (goodIn_of _ (by decide +kernel)) ggX6_pass_X6_ticksOn
set_option maxRecDepth 20000 in
theorem ggX6_pass_X6_fail : GoodIn wsX6_pass wsX6_fail := goodIn_r _ [49, 1, 50, 51, 52, 53, 54, 55, 56, 57, 58] (by decide +kernel) (by decide +kernel)
set_option maxRecDepth 20000 in
theorem gX6_pass_X6_fail : GoodIn wsX6_pass (wsV RX6 36 RX6 yX6_fail wsX6_fail) := goodIn_app (goodIn_of _ (by decide +kernel)) ggX6_pass_X6_fail
theorem dX6_pass_0 : decode cX6_pass 0 = .ok (.aload_n 0, 1) := by decide +kernel
theorem dX6_pass_1 : decode cX6_pass 1 = .ok (.iconst 0, 1) := by decide +kernel
theorem dX6_pass_2 : decode cX6_pass 2 = .ok (.putfield 25, 3) := by decide +kernel
theorem dX6_pass_5 : decode cX6_pass 5 = .ok (.iload_n 1, 1) := by decide +kernel
theorem dX6_pass_6 : decode cX6_pass 6 = .ok (.iconst 1, 1) := by decide +kernel
theorem dX6_pass_7 : decode cX6_pass 7 = .ok (.sipush 500, 3) := by decide +kernel
theorem dX6_pass_10 : decode cX6_pass 10 = .ok (.invokestatic 32, 3) := by decide +kernel
theorem dX6_pass_13 : decode cX6_pass 13 = .ok (.ifCond .eq 11, 3) := by decide +kernel
theorem dX6_pass_16 : decode cX6_pass 16 = .ok (.aload_n 0, 1) := by decide +kernel
theorem dX6_pass_17 : decode cX6_pass 17 = .ok (.iload_n 1, 1) := by decide +kernel
theorem dX6_pass_18 : decode cX6_pass 18 = .ok (.invokevirtual 89, 3) := by decide +kernel
theorem dX6_pass_21 : decode cX6_pass 21 = .ok (.goto 8, 3) := by decide +kernel
theorem dX6_pass_24 : decode cX6_pass 24 = .ok (.aload_n 0, 1) := by decide +kernel
theorem dX6_pass_25 : decode cX6_pass 25 = .ok (.iconst 1, 1) := by decide +kernel
theorem dX6_pass_26 : decode cX6_pass 26 = .ok (.invokevirtual 36, 3) := by decide +kernel
theorem dX6_pass_29 : decode cX6_pass 29 = .ok (.ireturn, 1) := by decide +kernel
set_option maxRecDepth 20000 in
theorem ggX6_told_X6_isDimmer : GoodIn wsX6_told wsX6_isDimmer := goodIn_r _ [6, 7, 8, 9, 5, 10, 20, 21, 22, 23, 24, 25, 26, 27, 28] (by decide +kernel) (by decide +kernel)
set_option maxRecDepth 20000 in
theorem gX6_told_X6_isDimmer : GoodIn wsX6_told (wsV RX6 46 RX6 yX6_isDimmer wsX6_isDimmer) := goodIn_app (goodIn_of _ (by decide +kernel)) ggX6_told_X6_isDimmer
set_option maxRecDepth 20000 in
theorem ggX6_told_X6_isIn : GoodIn wsX6_told wsX6_isIn := goodIn_r _ [10] (by decide +kernel) (by decide +kernel)
set_option maxRecDepth 20000 in
theorem gX6_told_X6_isIn : GoodIn wsX6_told (va_wsS RX6 32 yX6_isIn wsX6_isIn) := goodIn_app (goodIn_of _ (by decide +kernel)) ggX6_told_X6_isIn
set_option maxRecDepth 20000 in
theorem ggX6_told_X6_la : GoodIn wsX6_told wsX6_la := goodIn_r _ [14, 15, 20, 21, 22, 23, 24, 25, 26, 27, 28] (by decide +kernel) (by decide +kernel)
set_option maxRecDepth 20000 in
theorem gX6_told_X6_la : GoodIn wsX6_told (wsV RX6 50 RX6 yX6_la wsX6_la) := goodIn_app (goodIn_of _ (by decide +kernel)) ggX6_told_X6_la
set_option maxRecDepth 20000 in
theorem ggX6_told_X6_fail : GoodIn wsX6_told wsX6_fail := goodIn_r _ [19, 1, 20, 21, 22, 23, 24, 25, 26, 27, 28] (by decide +kernel) (by decide +kernel)
set_option maxRecDepth 20000 in
theorem gX6_told_X6_fail : GoodIn wsX6_told (wsV RX6 36 RX6 yX6_fail wsX6_fail) := goodIn_app (goodIn_of _ (by decide +kernel)) ggX6_told_X6_fail
theorem dX6_told_0 : decode cX6_told 0 = .ok (.aload_n 0, 1) := by decide +kernel
theorem dX6_told_1 : decode cX6_told 1 = .ok (.iconst 0, 1) := by decide +kernel
theorem dX6_told_2 : decode cX6_told 2 = .ok (.putfield 25, 3) := by decide +kernel
theorem dX6_told_5 : decode cX6_told 5 = .ok (.aload_n 0, 1) := by decide +kernel
theorem dX6_told_6 : decode cX6_told 6 = .ok (.iload_n 1, 1) := by decide +kernel
theorem dX6_told_7 : decode cX6_told 7 = .ok (.invokevirtual 46, 3) := by decide +kernel
theorem dX6_told_10 : decode cX6_told 10 = .ok (.ifCond .eq 21, 3) := by decide +kernel
theorem dX6_told_13 : decode cX6_told 13 = .ok (.iload_n 2, 1) := by decide +kernel
theorem dX6_told_14 : decode cX6_told 14 = .ok (.iconst 0, 1) := by decide +kernel
theorem dX6_told_15 : decode cX6_told 15 = .ok (.iconst 4, 1) := by decide +kernel
theorem dX6_told_16 : decode cX6_told 16 = .ok (.invokestatic 32, 3) := by decide +kernel
theorem dX6_told_19 : decode cX6_told 19 = .ok (.ifCond .eq 12, 3) := by decide +kernel
theorem dX6_told_22 : decode cX6_told 22 = .ok (.aload_n 0, 1) := by decide +kernel
theorem dX6_told_23 : decode cX6_told 23 = .ok (.iload_n 1, 1) := by decide +kernel
theorem dX6_told_24 : decode cX6_told 24 = .ok (.iload_n 2, 1) := by decide +kernel
theorem dX6_told_25 : decode cX6_told 25 = .ok (.invokevirtual 50, 3) := by decide +kernel
theorem dX6_told_28 : decode cX6_told 28 = .ok (.goto 8, 3) := by decide +kernel
theorem dX6_told_31 : decode cX6_told 31 = .ok (.aload_n 0, 1) := by decide +kernel
theorem dX6_told_32 : decode cX6_told 32 = .ok (.iconst 1, 1) := by decide +kernel
theorem dX6_told_33 : decode cX6_told 33 = .ok (.invokevirtual 36, 3) := by decide +kernel
theorem dX6_told_36 : decode cX6_told 36 = .ok (.ireturn, 1) := by decide +kernel
set_option maxRecDepth 20000 in
theorem ggX6_glareOf_X6_la : GoodIn wsX6_glareOf wsX6_la := goodIn_r _ [6, 7, 8, 9, 10, 11, 12, 13, 14, 15, 16] (by decide +kernel) (by decide +kernel)
set_option maxRecDepth 20000 in
theorem gX6_glareOf_X6_la : GoodIn wsX6_glareOf (wsV RX6 50 RX6 yX6_la wsX6_la) := goodIn_app (goodIn_of _ (by decide +kernel)) ggX6_glareOf_X6_la
theorem dX6_glareOf_0 : decode cX6_glareOf 0 = .ok (.iconst 0, 1) := by decide +kernel
theorem dX6_glareOf_1 : decode cX6_glareOf 1 = .ok (.istore_n 2, 1) := by decide +kernel
theorem dX6_glareOf_2 : decode cX6_glareOf 2 = .ok (.iconst 0, 1) := by decide +kernel
theorem dX6_glareOf_3 : decode cX6_glareOf 3 = .ok (.istore_n 3, 1) := by decide +kernel
theorem dX6_glareOf_4 : decode cX6_glareOf 4 = .ok (.iload_n 3, 1) := by decide +kernel
theorem dX6_glareOf_5 : decode cX6_glareOf 5 = .ok (.aload_n 0, 1) := by decide +kernel
theorem dX6_glareOf_6 : decode cX6_glareOf 6 = .ok (.getfield 29, 3) := by decide +kernel
theorem dX6_glareOf_9 : decode cX6_glareOf 9 = .ok (.if_icmp .ge 67, 3) := by decide +kernel
theorem dX6_glareOf_12 : decode cX6_glareOf 12 = .ok (.aload_n 0, 1) := by decide +kernel
theorem dX6_glareOf_13 : decode cX6_glareOf 13 = .ok (.iload_n 3, 1) := by decide +kernel
theorem dX6_glareOf_14 : decode cX6_glareOf 14 = .ok (.iconst 0, 1) := by decide +kernel
theorem dX6_glareOf_15 : decode cX6_glareOf 15 = .ok (.invokevirtual 50, 3) := by decide +kernel
theorem dX6_glareOf_18 : decode cX6_glareOf 18 = .ok (.iload_n 1, 1) := by decide +kernel
theorem dX6_glareOf_19 : decode cX6_glareOf 19 = .ok (.isub, 1) := by decide +kernel
theorem dX6_glareOf_20 : decode cX6_glareOf 20 = .ok (.bipush 12, 2) := by decide +kernel
theorem dX6_glareOf_22 : decode cX6_glareOf 22 = .ok (.iadd, 1) := by decide +kernel
theorem dX6_glareOf_23 : decode cX6_glareOf 23 = .ok (.bipush 12, 2) := by decide +kernel
theorem dX6_glareOf_25 : decode cX6_glareOf 25 = .ok (.irem, 1) := by decide +kernel
theorem dX6_glareOf_26 : decode cX6_glareOf 26 = .ok (.istore 4, 2) := by decide +kernel
theorem dX6_glareOf_28 : decode cX6_glareOf 28 = .ok (.iload_n 2, 1) := by decide +kernel
theorem dX6_glareOf_29 : decode cX6_glareOf 29 = .ok (.iload 4, 2) := by decide +kernel
theorem dX6_glareOf_31 : decode cX6_glareOf 31 = .ok (.ifCond .ne 12, 3) := by decide +kernel
theorem dX6_glareOf_34 : decode cX6_glareOf 34 = .ok (.aload_n 0, 1) := by decide +kernel
theorem dX6_glareOf_35 : decode cX6_glareOf 35 = .ok (.iload_n 3, 1) := by decide +kernel
theorem dX6_glareOf_36 : decode cX6_glareOf 36 = .ok (.iconst 1, 1) := by decide +kernel
theorem dX6_glareOf_37 : decode cX6_glareOf 37 = .ok (.invokevirtual 50, 3) := by decide +kernel
theorem dX6_glareOf_40 : decode cX6_glareOf 40 = .ok (.goto 28, 3) := by decide +kernel
theorem dX6_glareOf_43 : decode cX6_glareOf 43 = .ok (.iload 4, 2) := by decide +kernel
theorem dX6_glareOf_45 : decode cX6_glareOf 45 = .ok (.iconst 1, 1) := by decide +kernel
theorem dX6_glareOf_46 : decode cX6_glareOf 46 = .ok (.if_icmp .eq 10, 3) := by decide +kernel
theorem dX6_glareOf_49 : decode cX6_glareOf 49 = .ok (.iload 4, 2) := by decide +kernel
theorem dX6_glareOf_51 : decode cX6_glareOf 51 = .ok (.bipush 11, 2) := by decide +kernel
theorem dX6_glareOf_53 : decode cX6_glareOf 53 = .ok (.if_icmp .ne 14, 3) := by decide +kernel
theorem dX6_glareOf_56 : decode cX6_glareOf 56 = .ok (.aload_n 0, 1) := by decide +kernel
theorem dX6_glareOf_57 : decode cX6_glareOf 57 = .ok (.iload_n 3, 1) := by decide +kernel
theorem dX6_glareOf_58 : decode cX6_glareOf 58 = .ok (.iconst 1, 1) := by decide +kernel
theorem dX6_glareOf_59 : decode cX6_glareOf 59 = .ok (.invokevirtual 50, 3) := by decide +kernel
theorem dX6_glareOf_62 : decode cX6_glareOf 62 = .ok (.iconst 4, 1) := by decide +kernel
theorem dX6_glareOf_63 : decode cX6_glareOf 63 = .ok (.idiv, 1) := by decide +kernel
theorem dX6_glareOf_64 : decode cX6_glareOf 64 = .ok (.goto 4, 3) := by decide +kernel
theorem dX6_glareOf_67 : decode cX6_glareOf 67 = .ok (.iconst 0, 1) := by decide +kernel
theorem dX6_glareOf_68 : decode cX6_glareOf 68 = .ok (.iadd, 1) := by decide +kernel
theorem dX6_glareOf_69 : decode cX6_glareOf 69 = .ok (.istore_n 2, 1) := by decide +kernel
theorem dX6_glareOf_70 : decode cX6_glareOf 70 = .ok (.iinc 3 1, 3) := by decide +kernel
theorem dX6_glareOf_73 : decode cX6_glareOf 73 = .ok (.goto (-69), 3) := by decide +kernel
theorem dX6_glareOf_76 : decode cX6_glareOf 76 = .ok (.iload_n 2, 1) := by decide +kernel
theorem dX6_glareOf_77 : decode cX6_glareOf 77 = .ok (.ireturn, 1) := by decide +kernel
set_option maxRecDepth 20000 in
theorem ggX6_glare_X6_isIn : GoodIn wsX6_glare wsX6_isIn := goodIn_r _ [5] (by decide +kernel) (by decide +kernel)
set_option maxRecDepth 20000 in
theorem gX6_glare_X6_isIn : GoodIn wsX6_glare (va_wsS RX6 32 yX6_isIn wsX6_isIn) := goodIn_app (goodIn_of _ (by decide +kernel)) ggX6_glare_X6_isIn
set_option maxRecDepth 20000 in
theorem ggX6_glare_X6_glareOf : GoodIn wsX6_glare wsX6_glareOf := goodIn_r _ [9, 10, 11, 12, 13, 4, 14, 15, 20, 21, 22, 23, 24, 25, 26, 27, 28] (by decide +kernel) (by decide +kernel)
set_option maxRecDepth 20000 in
theorem gX6_glare_X6_glareOf : GoodIn wsX6_glare (wsV RX6 92 RX6 yX6_glareOf wsX6_glareOf) := goodIn_app (goodIn_of _ (by decide +kernel)) ggX6_glare_X6_glareOf
set_option maxRecDepth 20000 in
theorem ggX6_glare_X6_fail : GoodIn wsX6_glare wsX6_fail := goodIn_r _ [19, 1, 20, 21, 22, 23, 24, 25, 26, 27, 28] (by decide +kernel) (by decide +kernel)
set_option maxRecDepth 20000 in
theorem gX6_glare_X6_fail : GoodIn wsX6_glare (wsV RX6 36 RX6 yX6_fail wsX6_fail) := goodIn_app (goodIn_of _ (by decide +kernel)) ggX6_glare_X6_fail
theorem dX6_glare_0 : decode cX6_glare 0 = .ok (.aload_n 0, 1) := by decide +kernel
theorem dX6_glare_1 : decode cX6_glare 1 = .ok (.iconst 0, 1) := by decide +kernel
theorem dX6_glare_2 : decode cX6_glare 2 = .ok (.putfield 25, 3) := by decide +kernel
theorem dX6_glare_5 : decode cX6_glare 5 = .ok (.iload_n 1, 1) := by decide +kernel
theorem dX6_glare_6 : decode cX6_glare 6 = .ok (.iconst 0, 1) := by decide +kernel
theorem dX6_glare_7 : decode cX6_glare 7 = .ok (.bipush 11, 2) := by decide +kernel
theorem dX6_glare_9 : decode cX6_glare 9 = .ok (.invokestatic 32, 3) := by decide +kernel
theorem dX6_glare_12 : decode cX6_glare 12 = .ok (.ifCond .eq 11, 3) := by decide +kernel
theorem dX6_glare_15 : decode cX6_glare 15 = .ok (.aload_n 0, 1) := by decide +kernel
theorem dX6_glare_16 : decode cX6_glare 16 = .ok (.iload_n 1, 1) := by decide +kernel
theorem dX6_glare_17 : decode cX6_glare 17 = .ok (.invokevirtual 92, 3) := by decide +kernel
theorem dX6_glare_20 : decode cX6_glare 20 = .ok (.goto 8, 3) := by decide +kernel
theorem dX6_glare_23 : decode cX6_glare 23 = .ok (.aload_n 0, 1) := by decide +kernel
theorem dX6_glare_24 : decode cX6_glare 24 = .ok (.iconst 1, 1) := by decide +kernel
theorem dX6_glare_25 : decode cX6_glare 25 = .ok (.invokevirtual 36, 3) := by decide +kernel
theorem dX6_glare_28 : decode cX6_glare 28 = .ok (.ireturn, 1) := by decide +kernel
theorem dX6_stands_0 : decode cX6_stands 0 = .ok (.aload_n 0, 1) := by decide +kernel
theorem dX6_stands_1 : decode cX6_stands 1 = .ok (.getfield 13, 3) := by decide +kernel
theorem dX6_stands_4 : decode cX6_stands 4 = .ok (.iconst 2, 1) := by decide +kernel
theorem dX6_stands_5 : decode cX6_stands 5 = .ok (.iload_n 1, 1) := by decide +kernel
theorem dX6_stands_6 : decode cX6_stands 6 = .ok (.imul, 1) := by decide +kernel
theorem dX6_stands_7 : decode cX6_stands 7 = .ok (.iaload, 1) := by decide +kernel
theorem dX6_stands_8 : decode cX6_stands 8 = .ok (.aload_n 0, 1) := by decide +kernel
theorem dX6_stands_9 : decode cX6_stands 9 = .ok (.getfield 22, 3) := by decide +kernel
theorem dX6_stands_12 : decode cX6_stands 12 = .ok (.iconst 5, 1) := by decide +kernel
theorem dX6_stands_13 : decode cX6_stands 13 = .ok (.iaload, 1) := by decide +kernel
theorem dX6_stands_14 : decode cX6_stands 14 = .ok (.iadd, 1) := by decide +kernel
theorem dX6_stands_15 : decode cX6_stands 15 = .ok (.sipush 360, 3) := by decide +kernel
theorem dX6_stands_18 : decode cX6_stands 18 = .ok (.irem, 1) := by decide +kernel
theorem dX6_stands_19 : decode cX6_stands 19 = .ok (.ireturn, 1) := by decide +kernel
set_option maxRecDepth 20000 in
theorem ggX6_isSeen_X6_glareOf : GoodIn wsX6_isSeen wsX6_glareOf := goodIn_r _ [5, 6, 7, 8, 9, 4, 10, 11, 12, 13, 14, 15, 16, 17, 18, 19, 20] (by decide +kernel) (by decide +kernel)
set_option maxRecDepth 20000 in
theorem gX6_isSeen_X6_glareOf : GoodIn wsX6_isSeen (wsV RX6 92 RX6 yX6_glareOf wsX6_glareOf) := goodIn_app (goodIn_of _ (by decide +kernel)) ggX6_isSeen_X6_glareOf
theorem dX6_isSeen_0 : decode cX6_isSeen 0 = .ok (.bipush 10, 2) := by decide +kernel
theorem dX6_isSeen_2 : decode cX6_isSeen 2 = .ok (.iload_n 2, 1) := by decide +kernel
theorem dX6_isSeen_3 : decode cX6_isSeen 3 = .ok (.imul, 1) := by decide +kernel
theorem dX6_isSeen_4 : decode cX6_isSeen 4 = .ok (.aload_n 0, 1) := by decide +kernel
theorem dX6_isSeen_5 : decode cX6_isSeen 5 = .ok (.iload_n 1, 1) := by decide +kernel
theorem dX6_isSeen_6 : decode cX6_isSeen 6 = .ok (.bipush 30, 2) := by decide +kernel
theorem dX6_isSeen_8 : decode cX6_isSeen 8 = .ok (.idiv, 1) := by decide +kernel
theorem dX6_isSeen_9 : decode cX6_isSeen 9 = .ok (.invokevirtual 92, 3) := by decide +kernel
theorem dX6_isSeen_12 : decode cX6_isSeen 12 = .ok (.if_icmp .le 7, 3) := by decide +kernel
theorem dX6_isSeen_15 : decode cX6_isSeen 15 = .ok (.iconst 1, 1) := by decide +kernel
theorem dX6_isSeen_16 : decode cX6_isSeen 16 = .ok (.goto 4, 3) := by decide +kernel
theorem dX6_isSeen_19 : decode cX6_isSeen 19 = .ok (.iconst 0, 1) := by decide +kernel
theorem dX6_isSeen_20 : decode cX6_isSeen 20 = .ok (.ireturn, 1) := by decide +kernel
set_option maxRecDepth 20000 in
theorem ggX6_starTold_X6_stands : GoodIn wsX6_starTold wsX6_stands := goodIn_r _ [6, 1, 7, 22, 23, 24, 25, 26, 27, 28, 29, 30] (by decide +kernel) (by decide +kernel)
set_option maxRecDepth 20000 in
theorem gX6_starTold_X6_stands : GoodIn wsX6_starTold (wsV RX6 95 RX6 yX6_stands wsX6_stands) := goodIn_app (goodIn_of _ (by decide +kernel)) ggX6_starTold_X6_stands
set_option maxRecDepth 20000 in
theorem ggX6_starTold_X6_isSeen : GoodIn wsX6_starTold wsX6_isSeen := goodIn_r _ [11, 12, 13, 14, 5, 15, 16, 17, 18, 19, 20, 21, 22, 23, 24, 25, 26, 27, 28, 29, 30] (by decide +kernel) (by decide +kernel)
set_option maxRecDepth 20000 in
theorem gX6_starTold_X6_isSeen : GoodIn wsX6_starTold (wsV RX6 98 RX6 yX6_isSeen wsX6_isSeen) := goodIn_app (goodIn_of _ (by decide +kernel)) ggX6_starTold_X6_isSeen
theorem dX6_starTold_0 : decode cX6_starTold 0 = .ok (.iload_n 2, 1) := by decide +kernel
theorem dX6_starTold_1 : decode cX6_starTold 1 = .ok (.iconst 2, 1) := by decide +kernel
theorem dX6_starTold_2 : decode cX6_starTold 2 = .ok (.if_icmp .ge 16, 3) := by decide +kernel
theorem dX6_starTold_5 : decode cX6_starTold 5 = .ok (.aload_n 0, 1) := by decide +kernel
theorem dX6_starTold_6 : decode cX6_starTold 6 = .ok (.getfield 13, 3) := by decide +kernel
theorem dX6_starTold_9 : decode cX6_starTold 9 = .ok (.iconst 2, 1) := by decide +kernel
theorem dX6_starTold_10 : decode cX6_starTold 10 = .ok (.iload_n 1, 1) := by decide +kernel
theorem dX6_starTold_11 : decode cX6_starTold 11 = .ok (.imul, 1) := by decide +kernel
theorem dX6_starTold_12 : decode cX6_starTold 12 = .ok (.iload_n 2, 1) := by decide +kernel
theorem dX6_starTold_13 : decode cX6_starTold 13 = .ok (.iadd, 1) := by decide +kernel
theorem dX6_starTold_14 : decode cX6_starTold 14 = .ok (.iaload, 1) := by decide +kernel
theorem dX6_starTold_15 : decode cX6_starTold 15 = .ok (.goto 43, 3) := by decide +kernel
theorem dX6_starTold_18 : decode cX6_starTold 18 = .ok (.iload_n 2, 1) := by decide +kernel
theorem dX6_starTold_19 : decode cX6_starTold 19 = .ok (.iconst 2, 1) := by decide +kernel
theorem dX6_starTold_20 : decode cX6_starTold 20 = .ok (.if_icmp .ne 11, 3) := by decide +kernel
theorem dX6_starTold_23 : decode cX6_starTold 23 = .ok (.aload_n 0, 1) := by decide +kernel
theorem dX6_starTold_24 : decode cX6_starTold 24 = .ok (.iload_n 1, 1) := by decide +kernel
theorem dX6_starTold_25 : decode cX6_starTold 25 = .ok (.invokevirtual 95, 3) := by decide +kernel
theorem dX6_starTold_28 : decode cX6_starTold 28 = .ok (.goto 30, 3) := by decide +kernel
theorem dX6_starTold_31 : decode cX6_starTold 31 = .ok (.aload_n 0, 1) := by decide +kernel
theorem dX6_starTold_32 : decode cX6_starTold 32 = .ok (.aload_n 0, 1) := by decide +kernel
theorem dX6_starTold_33 : decode cX6_starTold 33 = .ok (.iload_n 1, 1) := by decide +kernel
theorem dX6_starTold_34 : decode cX6_starTold 34 = .ok (.invokevirtual 95, 3) := by decide +kernel
theorem dX6_starTold_37 : decode cX6_starTold 37 = .ok (.aload_n 0, 1) := by decide +kernel
theorem dX6_starTold_38 : decode cX6_starTold 38 = .ok (.getfield 13, 3) := by decide +kernel
theorem dX6_starTold_41 : decode cX6_starTold 41 = .ok (.iconst 2, 1) := by decide +kernel
theorem dX6_starTold_42 : decode cX6_starTold 42 = .ok (.iload_n 1, 1) := by decide +kernel
theorem dX6_starTold_43 : decode cX6_starTold 43 = .ok (.imul, 1) := by decide +kernel
theorem dX6_starTold_44 : decode cX6_starTold 44 = .ok (.iconst 1, 1) := by decide +kernel
theorem dX6_starTold_45 : decode cX6_starTold 45 = .ok (.iadd, 1) := by decide +kernel
theorem dX6_starTold_46 : decode cX6_starTold 46 = .ok (.iaload, 1) := by decide +kernel
theorem dX6_starTold_47 : decode cX6_starTold 47 = .ok (.invokevirtual 98, 3) := by decide +kernel
theorem dX6_starTold_50 : decode cX6_starTold 50 = .ok (.ifCond .eq 7, 3) := by decide +kernel
theorem dX6_starTold_53 : decode cX6_starTold 53 = .ok (.iconst 1, 1) := by decide +kernel
theorem dX6_starTold_54 : decode cX6_starTold 54 = .ok (.goto 4, 3) := by decide +kernel
theorem dX6_starTold_57 : decode cX6_starTold 57 = .ok (.iconst 0, 1) := by decide +kernel
theorem dX6_starTold_58 : decode cX6_starTold 58 = .ok (.ireturn, 1) := by decide +kernel
set_option maxRecDepth 20000 in
theorem ggX6_about_X6_isIn : GoodIn wsX6_about wsX6_isIn := goodIn_r _ [6] (by decide +kernel) (by decide +kernel)
set_option maxRecDepth 20000 in
theorem gX6_about_X6_isIn : GoodIn wsX6_about (va_wsS RX6 32 yX6_isIn wsX6_isIn) := goodIn_app (goodIn_of _ (by decide +kernel)) ggX6_about_X6_isIn
set_option maxRecDepth 20000 in
theorem ggX6_about_X6_starTold : GoodIn wsX6_about wsX6_starTold := goodIn_r _ [10, 11, 12, 13, 14, 5, 15, 16, 17, 18, 19, 20, 21, 22, 23, 24, 25, 26, 27, 28, 29, 30, 35, 36, 37, 38, 39, 40, 41, 42, 43] (by decide +kernel) (by decide +kernel)
set_option maxRecDepth 20000 in
theorem gX6_about_X6_starTold : GoodIn wsX6_about (wsV RX6 102 RX6 yX6_starTold wsX6_starTold) := goodIn_app (goodIn_of _ (by decide +kernel)) ggX6_about_X6_starTold
set_option maxRecDepth 20000 in
theorem ggX6_about_X6_fail : GoodIn wsX6_about wsX6_fail := goodIn_r _ [34, 1, 35, 36, 37, 38, 39, 40, 41, 42, 43] (by decide +kernel) (by decide +kernel)
set_option maxRecDepth 20000 in
theorem gX6_about_X6_fail : GoodIn wsX6_about (wsV RX6 36 RX6 yX6_fail wsX6_fail) := goodIn_app (goodIn_of _ (by decide +kernel)) ggX6_about_X6_fail
theorem dX6_about_0 : decode cX6_about 0 = .ok (.aload_n 0, 1) := by decide +kernel
theorem dX6_about_1 : decode cX6_about 1 = .ok (.iconst 0, 1) := by decide +kernel
theorem dX6_about_2 : decode cX6_about 2 = .ok (.putfield 25, 3) := by decide +kernel
theorem dX6_about_5 : decode cX6_about 5 = .ok (.iload_n 1, 1) := by decide +kernel
theorem dX6_about_6 : decode cX6_about 6 = .ok (.iconst 0, 1) := by decide +kernel
theorem dX6_about_7 : decode cX6_about 7 = .ok (.aload_n 0, 1) := by decide +kernel
theorem dX6_about_8 : decode cX6_about 8 = .ok (.getfield 58, 3) := by decide +kernel
theorem dX6_about_11 : decode cX6_about 11 = .ok (.iconst 1, 1) := by decide +kernel
theorem dX6_about_12 : decode cX6_about 12 = .ok (.isub, 1) := by decide +kernel
theorem dX6_about_13 : decode cX6_about 13 = .ok (.invokestatic 32, 3) := by decide +kernel
theorem dX6_about_16 : decode cX6_about 16 = .ok (.ifCond .eq 21, 3) := by decide +kernel
theorem dX6_about_19 : decode cX6_about 19 = .ok (.iload_n 2, 1) := by decide +kernel
theorem dX6_about_20 : decode cX6_about 20 = .ok (.iconst 0, 1) := by decide +kernel
theorem dX6_about_21 : decode cX6_about 21 = .ok (.iconst 3, 1) := by decide +kernel
theorem dX6_about_22 : decode cX6_about 22 = .ok (.invokestatic 32, 3) := by decide +kernel
theorem dX6_about_25 : decode cX6_about 25 = .ok (.ifCond .eq 12, 3) := by decide +kernel
theorem dX6_about_28 : decode cX6_about 28 = .ok (.aload_n 0, 1) := by decide +kernel
theorem dX6_about_29 : decode cX6_about 29 = .ok (.iload_n 1, 1) := by decide +kernel
theorem dX6_about_30 : decode cX6_about 30 = .ok (.iload_n 2, 1) := by decide +kernel
theorem dX6_about_31 : decode cX6_about 31 = .ok (.invokevirtual 102, 3) := by decide +kernel
theorem dX6_about_34 : decode cX6_about 34 = .ok (.goto 8, 3) := by decide +kernel
theorem dX6_about_37 : decode cX6_about 37 = .ok (.aload_n 0, 1) := by decide +kernel
theorem dX6_about_38 : decode cX6_about 38 = .ok (.iconst 1, 1) := by decide +kernel
theorem dX6_about_39 : decode cX6_about 39 = .ok (.invokevirtual 36, 3) := by decide +kernel
theorem dX6_about_42 : decode cX6_about 42 = .ok (.ireturn, 1) := by decide +kernel
set_option maxRecDepth 20000 in
theorem ggX6_cometTold_X6_isSeen : GoodIn wsX6_cometTold wsX6_isSeen := goodIn_r _ [6, 7, 8, 9, 5, 10, 11, 12, 13, 14, 15, 16, 17, 18, 19, 20, 21, 22, 23, 24, 25] (by decide +kernel) (by decide +kernel)
set_option maxRecDepth 20000 in
theorem gX6_cometTold_X6_isSeen : GoodIn wsX6_cometTold (wsV RX6 98 RX6 yX6_isSeen wsX6_isSeen) := goodIn_app (goodIn_of _ (by decide +kernel)) ggX6_cometTold_X6_isSeen
theorem dX6_cometTold_0 : decode cX6_cometTold 0 = .ok (.iload_n 2, 1) := by decide +kernel
theorem dX6_cometTold_1 : decode cX6_cometTold 1 = .ok (.iconst 3, 1) := by decide +kernel
theorem dX6_cometTold_2 : decode cX6_cometTold 2 = .ok (.if_icmp .ge 16, 3) := by decide +kernel
theorem dX6_cometTold_5 : decode cX6_cometTold 5 = .ok (.aload_n 0, 1) := by decide +kernel
theorem dX6_cometTold_6 : decode cX6_cometTold 6 = .ok (.getfield 16, 3) := by decide +kernel
theorem dX6_cometTold_9 : decode cX6_cometTold 9 = .ok (.iconst 3, 1) := by decide +kernel
theorem dX6_cometTold_10 : decode cX6_cometTold 10 = .ok (.iload_n 1, 1) := by decide +kernel
theorem dX6_cometTold_11 : decode cX6_cometTold 11 = .ok (.imul, 1) := by decide +kernel
theorem dX6_cometTold_12 : decode cX6_cometTold 12 = .ok (.iload_n 2, 1) := by decide +kernel
theorem dX6_cometTold_13 : decode cX6_cometTold 13 = .ok (.iadd, 1) := by decide +kernel
theorem dX6_cometTold_14 : decode cX6_cometTold 14 = .ok (.iaload, 1) := by decide +kernel
theorem dX6_cometTold_15 : decode cX6_cometTold 15 = .ok (.goto 40, 3) := by decide +kernel
theorem dX6_cometTold_18 : decode cX6_cometTold 18 = .ok (.aload_n 0, 1) := by decide +kernel
theorem dX6_cometTold_19 : decode cX6_cometTold 19 = .ok (.getfield 16, 3) := by decide +kernel
theorem dX6_cometTold_22 : decode cX6_cometTold 22 = .ok (.iconst 3, 1) := by decide +kernel
theorem dX6_cometTold_23 : decode cX6_cometTold 23 = .ok (.iload_n 1, 1) := by decide +kernel
theorem dX6_cometTold_24 : decode cX6_cometTold 24 = .ok (.imul, 1) := by decide +kernel
theorem dX6_cometTold_25 : decode cX6_cometTold 25 = .ok (.iconst 2, 1) := by decide +kernel
theorem dX6_cometTold_26 : decode cX6_cometTold 26 = .ok (.iadd, 1) := by decide +kernel
theorem dX6_cometTold_27 : decode cX6_cometTold 27 = .ok (.iaload, 1) := by decide +kernel
theorem dX6_cometTold_28 : decode cX6_cometTold 28 = .ok (.ifCond .le 26, 3) := by decide +kernel
theorem dX6_cometTold_31 : decode cX6_cometTold 31 = .ok (.aload_n 0, 1) := by decide +kernel
theorem dX6_cometTold_32 : decode cX6_cometTold 32 = .ok (.aload_n 0, 1) := by decide +kernel
theorem dX6_cometTold_33 : decode cX6_cometTold 33 = .ok (.getfield 16, 3) := by decide +kernel
theorem dX6_cometTold_36 : decode cX6_cometTold 36 = .ok (.iconst 3, 1) := by decide +kernel
theorem dX6_cometTold_37 : decode cX6_cometTold 37 = .ok (.iload_n 1, 1) := by decide +kernel
theorem dX6_cometTold_38 : decode cX6_cometTold 38 = .ok (.imul, 1) := by decide +kernel
theorem dX6_cometTold_39 : decode cX6_cometTold 39 = .ok (.iconst 0, 1) := by decide +kernel
theorem dX6_cometTold_40 : decode cX6_cometTold 40 = .ok (.iadd, 1) := by decide +kernel
theorem dX6_cometTold_41 : decode cX6_cometTold 41 = .ok (.iaload, 1) := by decide +kernel
theorem dX6_cometTold_42 : decode cX6_cometTold 42 = .ok (.bipush 6, 2) := by decide +kernel
theorem dX6_cometTold_44 : decode cX6_cometTold 44 = .ok (.invokevirtual 98, 3) := by decide +kernel
theorem dX6_cometTold_47 : decode cX6_cometTold 47 = .ok (.ifCond .eq 7, 3) := by decide +kernel
theorem dX6_cometTold_50 : decode cX6_cometTold 50 = .ok (.iconst 1, 1) := by decide +kernel
theorem dX6_cometTold_51 : decode cX6_cometTold 51 = .ok (.goto 4, 3) := by decide +kernel
theorem dX6_cometTold_54 : decode cX6_cometTold 54 = .ok (.iconst 0, 1) := by decide +kernel
theorem dX6_cometTold_55 : decode cX6_cometTold 55 = .ok (.ireturn, 1) := by decide +kernel
set_option maxRecDepth 20000 in
theorem ggX6_comet_X6_isIn : GoodIn wsX6_comet wsX6_isIn := goodIn_r _ [6] (by decide +kernel) (by decide +kernel)
set_option maxRecDepth 20000 in
theorem gX6_comet_X6_isIn : GoodIn wsX6_comet (va_wsS RX6 32 yX6_isIn wsX6_isIn) := goodIn_app (goodIn_of _ (by decide +kernel)) ggX6_comet_X6_isIn
set_option maxRecDepth 20000 in
theorem ggX6_comet_X6_cometTold : GoodIn wsX6_comet wsX6_cometTold := goodIn_r _ [10, 11, 12, 13, 14, 5, 15, 16, 17, 18, 19, 20, 21, 22, 23, 24, 25, 30, 31, 32, 33, 34, 35, 36, 37, 38] (by decide +kernel) (by decide +kernel)
set_option maxRecDepth 20000 in
theorem gX6_comet_X6_cometTold : GoodIn wsX6_comet (wsV RX6 105 RX6 yX6_cometTold wsX6_cometTold) := goodIn_app (goodIn_of _ (by decide +kernel)) ggX6_comet_X6_cometTold
set_option maxRecDepth 20000 in
theorem ggX6_comet_X6_fail : GoodIn wsX6_comet wsX6_fail := goodIn_r _ [29, 1, 30, 31, 32, 33, 34, 35, 36, 37, 38] (by decide +kernel) (by decide +kernel)
set_option maxRecDepth 20000 in
theorem gX6_comet_X6_fail : GoodIn wsX6_comet (wsV RX6 36 RX6 yX6_fail wsX6_fail) := goodIn_app (goodIn_of _ (by decide +kernel)) ggX6_comet_X6_fail
theorem dX6_comet_0 : decode cX6_comet 0 = .ok (.aload_n 0, 1) := by decide +kernel
theorem dX6_comet_1 : decode cX6_comet 1 = .ok (.iconst 0, 1) := by decide +kernel
theorem dX6_comet_2 : decode cX6_comet 2 = .ok (.putfield 25, 3) := by decide +kernel
theorem dX6_comet_5 : decode cX6_comet 5 = .ok (.iload_n 1, 1) := by decide +kernel
theorem dX6_comet_6 : decode cX6_comet 6 = .ok (.iconst 0, 1) := by decide +kernel
theorem dX6_comet_7 : decode cX6_comet 7 = .ok (.aload_n 0, 1) := by decide +kernel
theorem dX6_comet_8 : decode cX6_comet 8 = .ok (.getfield 22, 3) := by decide +kernel
theorem dX6_comet_11 : decode cX6_comet 11 = .ok (.bipush 7, 2) := by decide +kernel
theorem dX6_comet_13 : decode cX6_comet 13 = .ok (.iaload, 1) := by decide +kernel
theorem dX6_comet_14 : decode cX6_comet 14 = .ok (.iconst 1, 1) := by decide +kernel
theorem dX6_comet_15 : decode cX6_comet 15 = .ok (.isub, 1) := by decide +kernel
theorem dX6_comet_16 : decode cX6_comet 16 = .ok (.invokestatic 32, 3) := by decide +kernel
theorem dX6_comet_19 : decode cX6_comet 19 = .ok (.ifCond .eq 21, 3) := by decide +kernel
theorem dX6_comet_22 : decode cX6_comet 22 = .ok (.iload_n 2, 1) := by decide +kernel
theorem dX6_comet_23 : decode cX6_comet 23 = .ok (.iconst 0, 1) := by decide +kernel
theorem dX6_comet_24 : decode cX6_comet 24 = .ok (.iconst 3, 1) := by decide +kernel
theorem dX6_comet_25 : decode cX6_comet 25 = .ok (.invokestatic 32, 3) := by decide +kernel
theorem dX6_comet_28 : decode cX6_comet 28 = .ok (.ifCond .eq 12, 3) := by decide +kernel
theorem dX6_comet_31 : decode cX6_comet 31 = .ok (.aload_n 0, 1) := by decide +kernel
theorem dX6_comet_32 : decode cX6_comet 32 = .ok (.iload_n 1, 1) := by decide +kernel
theorem dX6_comet_33 : decode cX6_comet 33 = .ok (.iload_n 2, 1) := by decide +kernel
theorem dX6_comet_34 : decode cX6_comet 34 = .ok (.invokevirtual 105, 3) := by decide +kernel
theorem dX6_comet_37 : decode cX6_comet 37 = .ok (.goto 8, 3) := by decide +kernel
theorem dX6_comet_40 : decode cX6_comet 40 = .ok (.aload_n 0, 1) := by decide +kernel
theorem dX6_comet_41 : decode cX6_comet 41 = .ok (.iconst 1, 1) := by decide +kernel
theorem dX6_comet_42 : decode cX6_comet 42 = .ok (.invokevirtual 36, 3) := by decide +kernel
theorem dX6_comet_45 : decode cX6_comet 45 = .ok (.ireturn, 1) := by decide +kernel
set_option maxRecDepth 20000 in
theorem ggX6_counted_X6_starTold : GoodIn wsX6_counted wsX6_starTold := goodIn_r _ [9, 10, 11, 12, 13, 8, 14, 1, 15, 16, 17, 18, 19, 20, 21, 22, 2, 23, 24, 25, 26, 27, 33, 34, 35, 36, 37, 38, 39, 40, 41] (by decide +kernel) (by decide +kernel)
set_option maxRecDepth 20000 in
theorem gX6_counted_X6_starTold : GoodIn wsX6_counted (wsV RX6 102 RX6 yX6_starTold wsX6_starTold) := goodIn_app (goodIn_of _ (by decide +kernel)) ggX6_counted_X6_starTold
set_option maxRecDepth 20000 in
theorem ggX6_counted_X6_cometTold : GoodIn wsX6_counted wsX6_cometTold := goodIn_r _ [31, 32, 15, 16, 17, 8, 18, 19, 20, 21, 22, 2, 23, 24, 25, 26, 27, 33, 34, 35, 36, 37, 38, 39, 40, 41] (by decide +kernel) (by decide +kernel)
set_option maxRecDepth 20000 in
theorem gX6_counted_X6_cometTold : GoodIn wsX6_counted (wsV RX6 105 RX6 yX6_cometTold wsX6_cometTold) := goodIn_app (goodIn_of _ (by decide +kernel)) ggX6_counted_X6_cometTold
theorem dX6_counted_0 : decode cX6_counted 0 = .ok (.iconst 0, 1) := by decide +kernel
theorem dX6_counted_1 : decode cX6_counted 1 = .ok (.istore_n 2, 1) := by decide +kernel
theorem dX6_counted_2 : decode cX6_counted 2 = .ok (.iload_n 1, 1) := by decide +kernel
theorem dX6_counted_3 : decode cX6_counted 3 = .ok (.tableswitch 150 0 8 #[49, 56, 63, 70, 75, 80, 88, 93, 120], 49) := by decide +kernel
theorem dX6_counted_52 : decode cX6_counted 52 = .ok (.aload_n 0, 1) := by decide +kernel
theorem dX6_counted_53 : decode cX6_counted 53 = .ok (.getfield 22, 3) := by decide +kernel
theorem dX6_counted_56 : decode cX6_counted 56 = .ok (.iconst 0, 1) := by decide +kernel
theorem dX6_counted_57 : decode cX6_counted 57 = .ok (.iaload, 1) := by decide +kernel
theorem dX6_counted_58 : decode cX6_counted 58 = .ok (.ireturn, 1) := by decide +kernel
theorem dX6_counted_59 : decode cX6_counted 59 = .ok (.aload_n 0, 1) := by decide +kernel
theorem dX6_counted_60 : decode cX6_counted 60 = .ok (.getfield 22, 3) := by decide +kernel
theorem dX6_counted_63 : decode cX6_counted 63 = .ok (.iconst 1, 1) := by decide +kernel
theorem dX6_counted_64 : decode cX6_counted 64 = .ok (.iaload, 1) := by decide +kernel
theorem dX6_counted_65 : decode cX6_counted 65 = .ok (.ireturn, 1) := by decide +kernel
theorem dX6_counted_66 : decode cX6_counted 66 = .ok (.aload_n 0, 1) := by decide +kernel
theorem dX6_counted_67 : decode cX6_counted 67 = .ok (.getfield 22, 3) := by decide +kernel
theorem dX6_counted_70 : decode cX6_counted 70 = .ok (.iconst 2, 1) := by decide +kernel
theorem dX6_counted_71 : decode cX6_counted 71 = .ok (.iaload, 1) := by decide +kernel
theorem dX6_counted_72 : decode cX6_counted 72 = .ok (.ireturn, 1) := by decide +kernel
theorem dX6_counted_73 : decode cX6_counted 73 = .ok (.aload_n 0, 1) := by decide +kernel
theorem dX6_counted_74 : decode cX6_counted 74 = .ok (.getfield 29, 3) := by decide +kernel
theorem dX6_counted_77 : decode cX6_counted 77 = .ok (.ireturn, 1) := by decide +kernel
theorem dX6_counted_78 : decode cX6_counted 78 = .ok (.aload_n 0, 1) := by decide +kernel
theorem dX6_counted_79 : decode cX6_counted 79 = .ok (.getfield 58, 3) := by decide +kernel
theorem dX6_counted_82 : decode cX6_counted 82 = .ok (.ireturn, 1) := by decide +kernel
theorem dX6_counted_83 : decode cX6_counted 83 = .ok (.aload_n 0, 1) := by decide +kernel
theorem dX6_counted_84 : decode cX6_counted 84 = .ok (.getfield 22, 3) := by decide +kernel
theorem dX6_counted_87 : decode cX6_counted 87 = .ok (.bipush 7, 2) := by decide +kernel
theorem dX6_counted_89 : decode cX6_counted 89 = .ok (.iaload, 1) := by decide +kernel
theorem dX6_counted_90 : decode cX6_counted 90 = .ok (.ireturn, 1) := by decide +kernel
theorem dX6_counted_91 : decode cX6_counted 91 = .ok (.aload_n 0, 1) := by decide +kernel
theorem dX6_counted_92 : decode cX6_counted 92 = .ok (.getfield 64, 3) := by decide +kernel
theorem dX6_counted_95 : decode cX6_counted 95 = .ok (.ireturn, 1) := by decide +kernel
theorem dX6_counted_96 : decode cX6_counted 96 = .ok (.iconst 0, 1) := by decide +kernel
theorem dX6_counted_97 : decode cX6_counted 97 = .ok (.istore_n 3, 1) := by decide +kernel
theorem dX6_counted_98 : decode cX6_counted 98 = .ok (.iload_n 3, 1) := by decide +kernel
theorem dX6_counted_99 : decode cX6_counted 99 = .ok (.aload_n 0, 1) := by decide +kernel
theorem dX6_counted_100 : decode cX6_counted 100 = .ok (.getfield 58, 3) := by decide +kernel
theorem dX6_counted_103 : decode cX6_counted 103 = .ok (.if_icmp .ge 18, 3) := by decide +kernel
theorem dX6_counted_106 : decode cX6_counted 106 = .ok (.iload_n 2, 1) := by decide +kernel
theorem dX6_counted_107 : decode cX6_counted 107 = .ok (.aload_n 0, 1) := by decide +kernel
theorem dX6_counted_108 : decode cX6_counted 108 = .ok (.iload_n 3, 1) := by decide +kernel
theorem dX6_counted_109 : decode cX6_counted 109 = .ok (.iconst 3, 1) := by decide +kernel
theorem dX6_counted_110 : decode cX6_counted 110 = .ok (.invokevirtual 102, 3) := by decide +kernel
theorem dX6_counted_113 : decode cX6_counted 113 = .ok (.iadd, 1) := by decide +kernel
theorem dX6_counted_114 : decode cX6_counted 114 = .ok (.istore_n 2, 1) := by decide +kernel
theorem dX6_counted_115 : decode cX6_counted 115 = .ok (.iinc 3 1, 3) := by decide +kernel
theorem dX6_counted_118 : decode cX6_counted 118 = .ok (.goto (-20), 3) := by decide +kernel
theorem dX6_counted_121 : decode cX6_counted 121 = .ok (.iload_n 2, 1) := by decide +kernel
theorem dX6_counted_122 : decode cX6_counted 122 = .ok (.ireturn, 1) := by decide +kernel
theorem dX6_counted_123 : decode cX6_counted 123 = .ok (.iconst 0, 1) := by decide +kernel
theorem dX6_counted_124 : decode cX6_counted 124 = .ok (.istore_n 3, 1) := by decide +kernel
theorem dX6_counted_125 : decode cX6_counted 125 = .ok (.iload_n 3, 1) := by decide +kernel
theorem dX6_counted_126 : decode cX6_counted 126 = .ok (.aload_n 0, 1) := by decide +kernel
theorem dX6_counted_127 : decode cX6_counted 127 = .ok (.getfield 22, 3) := by decide +kernel
theorem dX6_counted_130 : decode cX6_counted 130 = .ok (.bipush 7, 2) := by decide +kernel
theorem dX6_counted_132 : decode cX6_counted 132 = .ok (.iaload, 1) := by decide +kernel
theorem dX6_counted_133 : decode cX6_counted 133 = .ok (.if_icmp .ge 18, 3) := by decide +kernel
theorem dX6_counted_136 : decode cX6_counted 136 = .ok (.iload_n 2, 1) := by decide +kernel
theorem dX6_counted_137 : decode cX6_counted 137 = .ok (.aload_n 0, 1) := by decide +kernel
theorem dX6_counted_138 : decode cX6_counted 138 = .ok (.iload_n 3, 1) := by decide +kernel
theorem dX6_counted_139 : decode cX6_counted 139 = .ok (.iconst 3, 1) := by decide +kernel
theorem dX6_counted_140 : decode cX6_counted 140 = .ok (.invokevirtual 105, 3) := by decide +kernel
theorem dX6_counted_143 : decode cX6_counted 143 = .ok (.iadd, 1) := by decide +kernel
theorem dX6_counted_144 : decode cX6_counted 144 = .ok (.istore_n 2, 1) := by decide +kernel
theorem dX6_counted_145 : decode cX6_counted 145 = .ok (.iinc 3 1, 3) := by decide +kernel
theorem dX6_counted_148 : decode cX6_counted 148 = .ok (.goto (-23), 3) := by decide +kernel
theorem dX6_counted_151 : decode cX6_counted 151 = .ok (.iload_n 2, 1) := by decide +kernel
theorem dX6_counted_152 : decode cX6_counted 152 = .ok (.ireturn, 1) := by decide +kernel
theorem dX6_counted_153 : decode cX6_counted 153 = .ok (.aload_n 0, 1) := by decide +kernel
theorem dX6_counted_154 : decode cX6_counted 154 = .ok (.getfield 22, 3) := by decide +kernel
theorem dX6_counted_157 : decode cX6_counted 157 = .ok (.iload_n 1, 1) := by decide +kernel
theorem dX6_counted_158 : decode cX6_counted 158 = .ok (.bipush 6, 2) := by decide +kernel
theorem dX6_counted_160 : decode cX6_counted 160 = .ok (.isub, 1) := by decide +kernel
theorem dX6_counted_161 : decode cX6_counted 161 = .ok (.iaload, 1) := by decide +kernel
theorem dX6_counted_162 : decode cX6_counted 162 = .ok (.ireturn, 1) := by decide +kernel
set_option maxRecDepth 20000 in
theorem ggX6_count_X6_isIn : GoodIn wsX6_count wsX6_isIn := goodIn_r _ [5] (by decide +kernel) (by decide +kernel)
set_option maxRecDepth 20000 in
theorem gX6_count_X6_isIn : GoodIn wsX6_count (va_wsS RX6 32 yX6_isIn wsX6_isIn) := goodIn_app (goodIn_of _ (by decide +kernel)) ggX6_count_X6_isIn
set_option maxRecDepth 20000 in
theorem ggX6_count_X6_counted : GoodIn wsX6_count wsX6_counted := goodIn_r _ [9, 10, 11, 12, 13, 14, 15, 16, 4, 17, 18, 19, 20, 21, 22, 23, 24, 25, 26, 27, 28, 29, 30, 31, 32, 33, 34, 35, 36, 37, 38, 39, 40, 45, 46, 47, 48, 49, 50, 51, 52, 53] (by decide +kernel) (by decide +kernel)
set_option maxRecDepth 20000 in
theorem gX6_count_X6_counted : GoodIn wsX6_count (wsV RX6 108 RX6 yX6_counted wsX6_counted) := goodIn_app (goodIn_of _ (by decide +kernel)) ggX6_count_X6_counted
set_option maxRecDepth 20000 in
theorem ggX6_count_X6_fail : GoodIn wsX6_count wsX6_fail := goodIn_r _ [44, 1, 45, 46, 47, 48, 49, 50, 51, 52, 53] (by decide +kernel) (by decide +kernel)
set_option maxRecDepth 20000 in
theorem gX6_count_X6_fail : GoodIn wsX6_count (wsV RX6 36 RX6 yX6_fail wsX6_fail) := goodIn_app (goodIn_of _ (by decide +kernel)) ggX6_count_X6_fail
theorem dX6_count_0 : decode cX6_count 0 = .ok (.aload_n 0, 1) := by decide +kernel
theorem dX6_count_1 : decode cX6_count 1 = .ok (.iconst 0, 1) := by decide +kernel
theorem dX6_count_2 : decode cX6_count 2 = .ok (.putfield 25, 3) := by decide +kernel
theorem dX6_count_5 : decode cX6_count 5 = .ok (.iload_n 1, 1) := by decide +kernel
theorem dX6_count_6 : decode cX6_count 6 = .ok (.iconst 0, 1) := by decide +kernel
theorem dX6_count_7 : decode cX6_count 7 = .ok (.bipush 12, 2) := by decide +kernel
theorem dX6_count_9 : decode cX6_count 9 = .ok (.invokestatic 32, 3) := by decide +kernel
theorem dX6_count_12 : decode cX6_count 12 = .ok (.ifCond .eq 11, 3) := by decide +kernel
theorem dX6_count_15 : decode cX6_count 15 = .ok (.aload_n 0, 1) := by decide +kernel
theorem dX6_count_16 : decode cX6_count 16 = .ok (.iload_n 1, 1) := by decide +kernel
theorem dX6_count_17 : decode cX6_count 17 = .ok (.invokevirtual 108, 3) := by decide +kernel
theorem dX6_count_20 : decode cX6_count 20 = .ok (.goto 8, 3) := by decide +kernel
theorem dX6_count_23 : decode cX6_count 23 = .ok (.aload_n 0, 1) := by decide +kernel
theorem dX6_count_24 : decode cX6_count 24 = .ok (.iconst 1, 1) := by decide +kernel
theorem dX6_count_25 : decode cX6_count 25 = .ok (.invokevirtual 36, 3) := by decide +kernel
theorem dX6_count_28 : decode cX6_count 28 = .ok (.ireturn, 1) := by decide +kernel
theorem dX6_next_0 : decode cX6_next 0 = .ok (.aload_n 0, 1) := by decide +kernel
theorem dX6_next_1 : decode cX6_next 1 = .ok (.iconst 0, 1) := by decide +kernel
theorem dX6_next_2 : decode cX6_next 2 = .ok (.putfield 25, 3) := by decide +kernel
theorem dX6_next_5 : decode cX6_next 5 = .ok (.iconst (-1), 1) := by decide +kernel
theorem dX6_next_6 : decode cX6_next 6 = .ok (.istore_n 1, 1) := by decide +kernel
theorem dX6_next_7 : decode cX6_next 7 = .ok (.iconst 0, 1) := by decide +kernel
theorem dX6_next_8 : decode cX6_next 8 = .ok (.istore_n 2, 1) := by decide +kernel
theorem dX6_next_9 : decode cX6_next 9 = .ok (.iload_n 2, 1) := by decide +kernel
theorem dX6_next_10 : decode cX6_next 10 = .ok (.aload_n 0, 1) := by decide +kernel
theorem dX6_next_11 : decode cX6_next 11 = .ok (.getfield 64, 3) := by decide +kernel
theorem dX6_next_14 : decode cX6_next 14 = .ok (.if_icmp .ge 58, 3) := by decide +kernel
theorem dX6_next_17 : decode cX6_next 17 = .ok (.aload_n 0, 1) := by decide +kernel
theorem dX6_next_18 : decode cX6_next 18 = .ok (.getfield 19, 3) := by decide +kernel
theorem dX6_next_21 : decode cX6_next 21 = .ok (.iconst 4, 1) := by decide +kernel
theorem dX6_next_22 : decode cX6_next 22 = .ok (.iload_n 2, 1) := by decide +kernel
theorem dX6_next_23 : decode cX6_next 23 = .ok (.imul, 1) := by decide +kernel
theorem dX6_next_24 : decode cX6_next 24 = .ok (.iconst 0, 1) := by decide +kernel
theorem dX6_next_25 : decode cX6_next 25 = .ok (.iadd, 1) := by decide +kernel
theorem dX6_next_26 : decode cX6_next 26 = .ok (.iaload, 1) := by decide +kernel
theorem dX6_next_27 : decode cX6_next 27 = .ok (.aload_n 0, 1) := by decide +kernel
theorem dX6_next_28 : decode cX6_next 28 = .ok (.getfield 22, 3) := by decide +kernel
theorem dX6_next_31 : decode cX6_next 31 = .ok (.iconst 1, 1) := by decide +kernel
theorem dX6_next_32 : decode cX6_next 32 = .ok (.iaload, 1) := by decide +kernel
theorem dX6_next_33 : decode cX6_next 33 = .ok (.if_icmp .lt 33, 3) := by decide +kernel
theorem dX6_next_36 : decode cX6_next 36 = .ok (.iload_n 1, 1) := by decide +kernel
theorem dX6_next_37 : decode cX6_next 37 = .ok (.iconst (-1), 1) := by decide +kernel
theorem dX6_next_38 : decode cX6_next 38 = .ok (.if_icmp .eq 26, 3) := by decide +kernel
theorem dX6_next_41 : decode cX6_next 41 = .ok (.aload_n 0, 1) := by decide +kernel
theorem dX6_next_42 : decode cX6_next 42 = .ok (.getfield 19, 3) := by decide +kernel
theorem dX6_next_45 : decode cX6_next 45 = .ok (.iconst 4, 1) := by decide +kernel
theorem dX6_next_46 : decode cX6_next 46 = .ok (.iload_n 2, 1) := by decide +kernel
theorem dX6_next_47 : decode cX6_next 47 = .ok (.imul, 1) := by decide +kernel
theorem dX6_next_48 : decode cX6_next 48 = .ok (.iconst 0, 1) := by decide +kernel
theorem dX6_next_49 : decode cX6_next 49 = .ok (.iadd, 1) := by decide +kernel
theorem dX6_next_50 : decode cX6_next 50 = .ok (.iaload, 1) := by decide +kernel
theorem dX6_next_51 : decode cX6_next 51 = .ok (.aload_n 0, 1) := by decide +kernel
theorem dX6_next_52 : decode cX6_next 52 = .ok (.getfield 19, 3) := by decide +kernel
theorem dX6_next_55 : decode cX6_next 55 = .ok (.iconst 4, 1) := by decide +kernel
theorem dX6_next_56 : decode cX6_next 56 = .ok (.iload_n 1, 1) := by decide +kernel
theorem dX6_next_57 : decode cX6_next 57 = .ok (.imul, 1) := by decide +kernel
theorem dX6_next_58 : decode cX6_next 58 = .ok (.iconst 0, 1) := by decide +kernel
theorem dX6_next_59 : decode cX6_next 59 = .ok (.iadd, 1) := by decide +kernel
theorem dX6_next_60 : decode cX6_next 60 = .ok (.iaload, 1) := by decide +kernel
theorem dX6_next_61 : decode cX6_next 61 = .ok (.if_icmp .ge 5, 3) := by decide +kernel
theorem dX6_next_64 : decode cX6_next 64 = .ok (.iload_n 2, 1) := by decide +kernel
theorem dX6_next_65 : decode cX6_next 65 = .ok (.istore_n 1, 1) := by decide +kernel
theorem dX6_next_66 : decode cX6_next 66 = .ok (.iinc 2 1, 3) := by decide +kernel
theorem dX6_next_69 : decode cX6_next 69 = .ok (.goto (-60), 3) := by decide +kernel
theorem dX6_next_72 : decode cX6_next 72 = .ok (.iload_n 1, 1) := by decide +kernel
theorem dX6_next_73 : decode cX6_next 73 = .ok (.ireturn, 1) := by decide +kernel
set_option maxRecDepth 20000 in
theorem ggX6_when_X6_isIn : GoodIn wsX6_when wsX6_isIn := goodIn_r _ [8] (by decide +kernel) (by decide +kernel)
set_option maxRecDepth 20000 in
theorem gX6_when_X6_isIn : GoodIn wsX6_when (va_wsS RX6 32 yX6_isIn wsX6_isIn) := goodIn_app (goodIn_of _ (by decide +kernel)) ggX6_when_X6_isIn
set_option maxRecDepth 20000 in
theorem ggX6_when_X6_fail : GoodIn wsX6_when wsX6_fail := goodIn_r _ [12, 1, 13, 14, 15, 16, 17, 18, 19, 20, 21] (by decide +kernel) (by decide +kernel)
set_option maxRecDepth 20000 in
theorem gX6_when_X6_fail : GoodIn wsX6_when (wsV RX6 36 RX6 yX6_fail wsX6_fail) := goodIn_app (goodIn_of _ (by decide +kernel)) ggX6_when_X6_fail
theorem dX6_when_0 : decode cX6_when 0 = .ok (.aload_n 0, 1) := by decide +kernel
theorem dX6_when_1 : decode cX6_when 1 = .ok (.iconst 0, 1) := by decide +kernel
theorem dX6_when_2 : decode cX6_when 2 = .ok (.putfield 25, 3) := by decide +kernel
theorem dX6_when_5 : decode cX6_when 5 = .ok (.iload_n 1, 1) := by decide +kernel
theorem dX6_when_6 : decode cX6_when 6 = .ok (.iconst 0, 1) := by decide +kernel
theorem dX6_when_7 : decode cX6_when 7 = .ok (.aload_n 0, 1) := by decide +kernel
theorem dX6_when_8 : decode cX6_when 8 = .ok (.getfield 64, 3) := by decide +kernel
theorem dX6_when_11 : decode cX6_when 11 = .ok (.iconst 1, 1) := by decide +kernel
theorem dX6_when_12 : decode cX6_when 12 = .ok (.isub, 1) := by decide +kernel
theorem dX6_when_13 : decode cX6_when 13 = .ok (.invokestatic 32, 3) := by decide +kernel
theorem dX6_when_16 : decode cX6_when 16 = .ok (.ifCond .ne 9, 3) := by decide +kernel
theorem dX6_when_19 : decode cX6_when 19 = .ok (.aload_n 0, 1) := by decide +kernel
theorem dX6_when_20 : decode cX6_when 20 = .ok (.iconst 1, 1) := by decide +kernel
theorem dX6_when_21 : decode cX6_when 21 = .ok (.invokevirtual 36, 3) := by decide +kernel
theorem dX6_when_24 : decode cX6_when 24 = .ok (.ireturn, 1) := by decide +kernel
theorem dX6_when_25 : decode cX6_when 25 = .ok (.aload_n 0, 1) := by decide +kernel
theorem dX6_when_26 : decode cX6_when 26 = .ok (.getfield 19, 3) := by decide +kernel
theorem dX6_when_29 : decode cX6_when 29 = .ok (.iconst 4, 1) := by decide +kernel
theorem dX6_when_30 : decode cX6_when 30 = .ok (.iload_n 1, 1) := by decide +kernel
theorem dX6_when_31 : decode cX6_when 31 = .ok (.imul, 1) := by decide +kernel
theorem dX6_when_32 : decode cX6_when 32 = .ok (.iconst 0, 1) := by decide +kernel
theorem dX6_when_33 : decode cX6_when 33 = .ok (.iadd, 1) := by decide +kernel
theorem dX6_when_34 : decode cX6_when 34 = .ok (.iaload, 1) := by decide +kernel
theorem dX6_when_35 : decode cX6_when 35 = .ok (.istore_n 2, 1) := by decide +kernel
theorem dX6_when_36 : decode cX6_when 36 = .ok (.aload_n 0, 1) := by decide +kernel
theorem dX6_when_37 : decode cX6_when 37 = .ok (.getfield 22, 3) := by decide +kernel
theorem dX6_when_40 : decode cX6_when 40 = .ok (.iconst 2, 1) := by decide +kernel
theorem dX6_when_41 : decode cX6_when 41 = .ok (.iaload, 1) := by decide +kernel
theorem dX6_when_42 : decode cX6_when 42 = .ok (.ifCond .eq 13, 3) := by decide +kernel
theorem dX6_when_45 : decode cX6_when 45 = .ok (.iload_n 2, 1) := by decide +kernel
theorem dX6_when_46 : decode cX6_when 46 = .ok (.aload_n 0, 1) := by decide +kernel
theorem dX6_when_47 : decode cX6_when 47 = .ok (.getfield 22, 3) := by decide +kernel
theorem dX6_when_50 : decode cX6_when 50 = .ok (.iconst 1, 1) := by decide +kernel
theorem dX6_when_51 : decode cX6_when 51 = .ok (.iaload, 1) := by decide +kernel
theorem dX6_when_52 : decode cX6_when 52 = .ok (.if_icmp .ge 5, 3) := by decide +kernel
theorem dX6_when_55 : decode cX6_when 55 = .ok (.iconst (-1), 1) := by decide +kernel
theorem dX6_when_56 : decode cX6_when 56 = .ok (.ireturn, 1) := by decide +kernel
theorem dX6_when_57 : decode cX6_when 57 = .ok (.iconst 0, 1) := by decide +kernel
theorem dX6_when_58 : decode cX6_when 58 = .ok (.istore_n 3, 1) := by decide +kernel
theorem dX6_when_59 : decode cX6_when 59 = .ok (.iload_n 3, 1) := by decide +kernel
theorem dX6_when_60 : decode cX6_when 60 = .ok (.aload_n 0, 1) := by decide +kernel
theorem dX6_when_61 : decode cX6_when 61 = .ok (.getfield 64, 3) := by decide +kernel
theorem dX6_when_64 : decode cX6_when 64 = .ok (.if_icmp .ge 50, 3) := by decide +kernel
theorem dX6_when_67 : decode cX6_when 67 = .ok (.aload_n 0, 1) := by decide +kernel
theorem dX6_when_68 : decode cX6_when 68 = .ok (.getfield 19, 3) := by decide +kernel
theorem dX6_when_71 : decode cX6_when 71 = .ok (.iconst 4, 1) := by decide +kernel
theorem dX6_when_72 : decode cX6_when 72 = .ok (.iload_n 3, 1) := by decide +kernel
theorem dX6_when_73 : decode cX6_when 73 = .ok (.imul, 1) := by decide +kernel
theorem dX6_when_74 : decode cX6_when 74 = .ok (.iconst 1, 1) := by decide +kernel
theorem dX6_when_75 : decode cX6_when 75 = .ok (.iadd, 1) := by decide +kernel
theorem dX6_when_76 : decode cX6_when 76 = .ok (.iaload, 1) := by decide +kernel
theorem dX6_when_77 : decode cX6_when 77 = .ok (.iconst 4, 1) := by decide +kernel
theorem dX6_when_78 : decode cX6_when 78 = .ok (.if_icmp .ne 30, 3) := by decide +kernel
theorem dX6_when_81 : decode cX6_when 81 = .ok (.aload_n 0, 1) := by decide +kernel
theorem dX6_when_82 : decode cX6_when 82 = .ok (.getfield 19, 3) := by decide +kernel
theorem dX6_when_85 : decode cX6_when 85 = .ok (.iconst 4, 1) := by decide +kernel
theorem dX6_when_86 : decode cX6_when 86 = .ok (.iload_n 3, 1) := by decide +kernel
theorem dX6_when_87 : decode cX6_when 87 = .ok (.imul, 1) := by decide +kernel
theorem dX6_when_88 : decode cX6_when 88 = .ok (.iconst 0, 1) := by decide +kernel
theorem dX6_when_89 : decode cX6_when 89 = .ok (.iadd, 1) := by decide +kernel
theorem dX6_when_90 : decode cX6_when 90 = .ok (.iaload, 1) := by decide +kernel
theorem dX6_when_91 : decode cX6_when 91 = .ok (.aload_n 0, 1) := by decide +kernel
theorem dX6_when_92 : decode cX6_when 92 = .ok (.getfield 22, 3) := by decide +kernel
theorem dX6_when_95 : decode cX6_when 95 = .ok (.iconst 1, 1) := by decide +kernel
theorem dX6_when_96 : decode cX6_when 96 = .ok (.iaload, 1) := by decide +kernel
theorem dX6_when_97 : decode cX6_when 97 = .ok (.iload_n 2, 1) := by decide +kernel
theorem dX6_when_98 : decode cX6_when 98 = .ok (.iconst 1, 1) := by decide +kernel
theorem dX6_when_99 : decode cX6_when 99 = .ok (.isub, 1) := by decide +kernel
theorem dX6_when_100 : decode cX6_when 100 = .ok (.invokestatic 32, 3) := by decide +kernel
theorem dX6_when_103 : decode cX6_when 103 = .ok (.ifCond .eq 5, 3) := by decide +kernel
theorem dX6_when_106 : decode cX6_when 106 = .ok (.iconst (-1), 1) := by decide +kernel
theorem dX6_when_107 : decode cX6_when 107 = .ok (.ireturn, 1) := by decide +kernel
theorem dX6_when_108 : decode cX6_when 108 = .ok (.iinc 3 1, 3) := by decide +kernel
theorem dX6_when_111 : decode cX6_when 111 = .ok (.goto (-52), 3) := by decide +kernel
theorem dX6_when_114 : decode cX6_when 114 = .ok (.iload_n 2, 1) := by decide +kernel
theorem dX6_when_115 : decode cX6_when 115 = .ok (.aload_n 0, 1) := by decide +kernel
theorem dX6_when_116 : decode cX6_when 116 = .ok (.getfield 22, 3) := by decide +kernel
theorem dX6_when_119 : decode cX6_when 119 = .ok (.iconst 1, 1) := by decide +kernel
theorem dX6_when_120 : decode cX6_when 120 = .ok (.iaload, 1) := by decide +kernel
theorem dX6_when_121 : decode cX6_when 121 = .ok (.isub, 1) := by decide +kernel
theorem dX6_when_122 : decode cX6_when 122 = .ok (.iconst 1, 1) := by decide +kernel
theorem dX6_when_123 : decode cX6_when 123 = .ok (.iadd, 1) := by decide +kernel
theorem dX6_when_124 : decode cX6_when 124 = .ok (.ireturn, 1) := by decide +kernel
theorem dX6_kept_0 : decode cX6_kept 0 = .ok (.iconst 3, 1) := by decide +kernel
theorem dX6_kept_1 : decode cX6_kept 1 = .ok (.anewarray 111, 3) := by decide +kernel
theorem dX6_kept_4 : decode cX6_kept 4 = .ok (.dup, 1) := by decide +kernel
theorem dX6_kept_5 : decode cX6_kept 5 = .ok (.iconst 0, 1) := by decide +kernel
theorem dX6_kept_6 : decode cX6_kept 6 = .ok (.aload_n 0, 1) := by decide +kernel
theorem dX6_kept_7 : decode cX6_kept 7 = .ok (.getfield 9, 3) := by decide +kernel
theorem dX6_kept_10 : decode cX6_kept 10 = .ok (.invokevirtual 112, 3) := by decide +kernel
theorem dX6_kept_13 : decode cX6_kept 13 = .ok (.checkcast 111, 3) := by decide +kernel
theorem dX6_kept_16 : decode cX6_kept 16 = .ok (.aastore, 1) := by decide +kernel
theorem dX6_kept_17 : decode cX6_kept 17 = .ok (.dup, 1) := by decide +kernel
theorem dX6_kept_18 : decode cX6_kept 18 = .ok (.iconst 1, 1) := by decide +kernel
theorem dX6_kept_19 : decode cX6_kept 19 = .ok (.aload_n 0, 1) := by decide +kernel
theorem dX6_kept_20 : decode cX6_kept 20 = .ok (.getfield 16, 3) := by decide +kernel
theorem dX6_kept_23 : decode cX6_kept 23 = .ok (.invokevirtual 112, 3) := by decide +kernel
theorem dX6_kept_26 : decode cX6_kept 26 = .ok (.checkcast 111, 3) := by decide +kernel
theorem dX6_kept_29 : decode cX6_kept 29 = .ok (.aastore, 1) := by decide +kernel
theorem dX6_kept_30 : decode cX6_kept 30 = .ok (.dup, 1) := by decide +kernel
theorem dX6_kept_31 : decode cX6_kept 31 = .ok (.iconst 2, 1) := by decide +kernel
theorem dX6_kept_32 : decode cX6_kept 32 = .ok (.aload_n 0, 1) := by decide +kernel
theorem dX6_kept_33 : decode cX6_kept 33 = .ok (.getfield 22, 3) := by decide +kernel
theorem dX6_kept_36 : decode cX6_kept 36 = .ok (.invokevirtual 112, 3) := by decide +kernel
theorem dX6_kept_39 : decode cX6_kept 39 = .ok (.checkcast 111, 3) := by decide +kernel
theorem dX6_kept_42 : decode cX6_kept 42 = .ok (.aastore, 1) := by decide +kernel
theorem dX6_kept_43 : decode cX6_kept 43 = .ok (.areturn, 1) := by decide +kernel
theorem dX6_bringBack_0 : decode cX6_bringBack 0 = .ok (.aload_n 1, 1) := by decide +kernel
theorem dX6_bringBack_1 : decode cX6_bringBack 1 = .ok (.iconst 0, 1) := by decide +kernel
theorem dX6_bringBack_2 : decode cX6_bringBack 2 = .ok (.aaload, 1) := by decide +kernel
theorem dX6_bringBack_3 : decode cX6_bringBack 3 = .ok (.iconst 0, 1) := by decide +kernel
theorem dX6_bringBack_4 : decode cX6_bringBack 4 = .ok (.aload_n 0, 1) := by decide +kernel
theorem dX6_bringBack_5 : decode cX6_bringBack 5 = .ok (.getfield 9, 3) := by decide +kernel
theorem dX6_bringBack_8 : decode cX6_bringBack 8 = .ok (.iconst 0, 1) := by decide +kernel
theorem dX6_bringBack_9 : decode cX6_bringBack 9 = .ok (.aload_n 0, 1) := by decide +kernel
theorem dX6_bringBack_10 : decode cX6_bringBack 10 = .ok (.getfield 9, 3) := by decide +kernel
theorem dX6_bringBack_13 : decode cX6_bringBack 13 = .ok (.arraylength, 1) := by decide +kernel
theorem dX6_bringBack_14 : decode cX6_bringBack 14 = .ok (.invokestatic 40, 3) := by decide +kernel
theorem dX6_bringBack_17 : decode cX6_bringBack 17 = .ok (.aload_n 1, 1) := by decide +kernel
theorem dX6_bringBack_18 : decode cX6_bringBack 18 = .ok (.iconst 1, 1) := by decide +kernel
theorem dX6_bringBack_19 : decode cX6_bringBack 19 = .ok (.aaload, 1) := by decide +kernel
theorem dX6_bringBack_20 : decode cX6_bringBack 20 = .ok (.iconst 0, 1) := by decide +kernel
theorem dX6_bringBack_21 : decode cX6_bringBack 21 = .ok (.aload_n 0, 1) := by decide +kernel
theorem dX6_bringBack_22 : decode cX6_bringBack 22 = .ok (.getfield 16, 3) := by decide +kernel
theorem dX6_bringBack_25 : decode cX6_bringBack 25 = .ok (.iconst 0, 1) := by decide +kernel
theorem dX6_bringBack_26 : decode cX6_bringBack 26 = .ok (.aload_n 0, 1) := by decide +kernel
theorem dX6_bringBack_27 : decode cX6_bringBack 27 = .ok (.getfield 16, 3) := by decide +kernel
theorem dX6_bringBack_30 : decode cX6_bringBack 30 = .ok (.arraylength, 1) := by decide +kernel
theorem dX6_bringBack_31 : decode cX6_bringBack 31 = .ok (.invokestatic 40, 3) := by decide +kernel
theorem dX6_bringBack_34 : decode cX6_bringBack 34 = .ok (.aload_n 1, 1) := by decide +kernel
theorem dX6_bringBack_35 : decode cX6_bringBack 35 = .ok (.iconst 2, 1) := by decide +kernel
theorem dX6_bringBack_36 : decode cX6_bringBack 36 = .ok (.aaload, 1) := by decide +kernel
theorem dX6_bringBack_37 : decode cX6_bringBack 37 = .ok (.iconst 0, 1) := by decide +kernel
theorem dX6_bringBack_38 : decode cX6_bringBack 38 = .ok (.aload_n 0, 1) := by decide +kernel
theorem dX6_bringBack_39 : decode cX6_bringBack 39 = .ok (.getfield 22, 3) := by decide +kernel
theorem dX6_bringBack_42 : decode cX6_bringBack 42 = .ok (.iconst 0, 1) := by decide +kernel
theorem dX6_bringBack_43 : decode cX6_bringBack 43 = .ok (.aload_n 0, 1) := by decide +kernel
theorem dX6_bringBack_44 : decode cX6_bringBack 44 = .ok (.getfield 22, 3) := by decide +kernel
theorem dX6_bringBack_47 : decode cX6_bringBack 47 = .ok (.arraylength, 1) := by decide +kernel
theorem dX6_bringBack_48 : decode cX6_bringBack 48 = .ok (.invokestatic 40, 3) := by decide +kernel
theorem dX6_bringBack_51 : decode cX6_bringBack 51 = .ok (.return_, 1) := by decide +kernel
set_option maxRecDepth 20000 in
theorem ggX6_lasts_X6_isDimmer : GoodIn wsX6_lasts wsX6_isDimmer := goodIn_r _ [6, 7, 8, 9, 5, 10, 68, 69, 70, 71, 72, 73, 74, 75, 76] (by decide +kernel) (by decide +kernel)
set_option maxRecDepth 20000 in
theorem gX6_lasts_X6_isDimmer : GoodIn wsX6_lasts (wsV RX6 46 RX6 yX6_isDimmer wsX6_isDimmer) := goodIn_app (goodIn_of _ (by decide +kernel)) ggX6_lasts_X6_isDimmer
set_option maxRecDepth 20000 in
theorem ggX6_lasts_X6_fail : GoodIn wsX6_lasts wsX6_fail := goodIn_r _ [14, 1, 68, 69, 70, 71, 72, 73, 74, 75, 76] (by decide +kernel) (by decide +kernel)
set_option maxRecDepth 20000 in
theorem gX6_lasts_X6_fail : GoodIn wsX6_lasts (wsV RX6 36 RX6 yX6_fail wsX6_fail) := goodIn_app (goodIn_of _ (by decide +kernel)) ggX6_lasts_X6_fail
set_option maxRecDepth 20000 in
theorem ggX6_lasts_X6_kept : GoodIn wsX6_lasts wsX6_kept := goodIn_r _ [18, 19, 20, 21, 22, 23, 24, 25, 26, 27, 68, 69, 70, 71, 72, 73, 74, 75, 76] (by decide +kernel) (by decide +kernel)
set_option maxRecDepth 20000 in
theorem gX6_lasts_X6_kept : GoodIn wsX6_lasts (wsV RX6 116 RX6 yX6_kept wsX6_kept) := goodIn_app (goodIn_of _ (by decide +kernel)) ggX6_lasts_X6_kept
set_option maxRecDepth 20000 in
theorem ggX6_lasts_X6_la : GoodIn wsX6_lasts wsX6_la := goodIn_r _ [31, 20, 68, 69, 70, 71, 72, 73, 74, 75, 76] (by decide +kernel) (by decide +kernel)
set_option maxRecDepth 20000 in
theorem gX6_lasts_X6_la : GoodIn wsX6_lasts (wsV RX6 50 RX6 yX6_la wsX6_la) := goodIn_app (goodIn_of _ (by decide +kernel)) ggX6_lasts_X6_la
set_option maxRecDepth 20000 in
theorem ggX6_lasts_X6_tickOn : GoodIn wsX6_lasts wsX6_tickOn := goodIn_r _ [35, 27, 36, 37, 7, 26, 38, 39, 40, 5, 41, 42, 43, 44, 45, 20, 46, 47, 48, 49, 50, 51, 52, 53, 54, 55, 56, 28, 29, 30, 31, 57, 58, 59, 68, 69, 70, 71, 72, 73, 74, 75, 76] (by decide +kernel) (by decide +kernel)
set_option maxRecDepth 20000 in
theorem gX6_lasts_X6_tickOn : GoodIn wsX6_lasts (wsV RX6 85 RX6 yX6_tickOn wsX6_tickOn) := goodIn_app (goodIn_of _ (by decide +kernel)) ggX6_lasts_X6_tickOn
set_option maxRecDepth 20000 in
theorem ggX6_lasts_X6_bringBack : GoodIn wsX6_lasts wsX6_bringBack := goodIn_r _ [63, 20, 64, 65, 66, 67, 26, 27, 68, 69, 70, 71, 72, 73, 74, 75, 76] (by decide +kernel) (by decide +kernel)
set_option maxRecDepth 20000 in
theorem gX6_lasts_X6_bringBack : GoodIn wsX6_lasts (wsV RX6 120 RX6 yX6_bringBack wsX6_bringBack) := goodIn_app (goodIn_of _ (by decide +kernel)) ggX6_lasts_X6_bringBack
theorem dX6_lasts_0 : decode cX6_lasts 0 = .ok (.aload_n 0, 1) := by decide +kernel
theorem dX6_lasts_1 : decode cX6_lasts 1 = .ok (.iconst 0, 1) := by decide +kernel
theorem dX6_lasts_2 : decode cX6_lasts 2 = .ok (.putfield 25, 3) := by decide +kernel
theorem dX6_lasts_5 : decode cX6_lasts 5 = .ok (.aload_n 0, 1) := by decide +kernel
theorem dX6_lasts_6 : decode cX6_lasts 6 = .ok (.iload_n 1, 1) := by decide +kernel
theorem dX6_lasts_7 : decode cX6_lasts 7 = .ok (.invokevirtual 46, 3) := by decide +kernel
theorem dX6_lasts_10 : decode cX6_lasts 10 = .ok (.ifCond .ne 9, 3) := by decide +kernel
theorem dX6_lasts_13 : decode cX6_lasts 13 = .ok (.aload_n 0, 1) := by decide +kernel
theorem dX6_lasts_14 : decode cX6_lasts 14 = .ok (.iconst 1, 1) := by decide +kernel
theorem dX6_lasts_15 : decode cX6_lasts 15 = .ok (.invokevirtual 36, 3) := by decide +kernel
theorem dX6_lasts_18 : decode cX6_lasts 18 = .ok (.ireturn, 1) := by decide +kernel
theorem dX6_lasts_19 : decode cX6_lasts 19 = .ok (.aload_n 0, 1) := by decide +kernel
theorem dX6_lasts_20 : decode cX6_lasts 20 = .ok (.invokevirtual 116, 3) := by decide +kernel
theorem dX6_lasts_23 : decode cX6_lasts 23 = .ok (.astore_n 2, 1) := by decide +kernel
theorem dX6_lasts_24 : decode cX6_lasts 24 = .ok (.iconst 0, 1) := by decide +kernel
theorem dX6_lasts_25 : decode cX6_lasts 25 = .ok (.istore_n 3, 1) := by decide +kernel
theorem dX6_lasts_26 : decode cX6_lasts 26 = .ok (.iload_n 3, 1) := by decide +kernel
theorem dX6_lasts_27 : decode cX6_lasts 27 = .ok (.sipush 500, 3) := by decide +kernel
theorem dX6_lasts_30 : decode cX6_lasts 30 = .ok (.if_icmp .ge 23, 3) := by decide +kernel
theorem dX6_lasts_33 : decode cX6_lasts 33 = .ok (.aload_n 0, 1) := by decide +kernel
theorem dX6_lasts_34 : decode cX6_lasts 34 = .ok (.iload_n 1, 1) := by decide +kernel
theorem dX6_lasts_35 : decode cX6_lasts 35 = .ok (.iconst 4, 1) := by decide +kernel
theorem dX6_lasts_36 : decode cX6_lasts 36 = .ok (.invokevirtual 50, 3) := by decide +kernel
theorem dX6_lasts_39 : decode cX6_lasts 39 = .ok (.ifCond .le 14, 3) := by decide +kernel
theorem dX6_lasts_42 : decode cX6_lasts 42 = .ok (.aload_n 0, 1) := by decide +kernel
theorem dX6_lasts_43 : decode cX6_lasts 43 = .ok (.invokevirtual 85, 3) := by decide +kernel
theorem dX6_lasts_46 : decode cX6_lasts 46 = .ok (.pop, 1) := by decide +kernel
theorem dX6_lasts_47 : decode cX6_lasts 47 = .ok (.iinc 3 1, 3) := by decide +kernel
theorem dX6_lasts_50 : decode cX6_lasts 50 = .ok (.goto (-24), 3) := by decide +kernel
theorem dX6_lasts_53 : decode cX6_lasts 53 = .ok (.aload_n 0, 1) := by decide +kernel
theorem dX6_lasts_54 : decode cX6_lasts 54 = .ok (.iload_n 1, 1) := by decide +kernel
theorem dX6_lasts_55 : decode cX6_lasts 55 = .ok (.iconst 4, 1) := by decide +kernel
theorem dX6_lasts_56 : decode cX6_lasts 56 = .ok (.invokevirtual 50, 3) := by decide +kernel
theorem dX6_lasts_59 : decode cX6_lasts 59 = .ok (.ifCond .le 5, 3) := by decide +kernel
theorem dX6_lasts_62 : decode cX6_lasts 62 = .ok (.iconst (-1), 1) := by decide +kernel
theorem dX6_lasts_63 : decode cX6_lasts 63 = .ok (.istore_n 3, 1) := by decide +kernel
theorem dX6_lasts_64 : decode cX6_lasts 64 = .ok (.aload_n 0, 1) := by decide +kernel
theorem dX6_lasts_65 : decode cX6_lasts 65 = .ok (.aload_n 2, 1) := by decide +kernel
theorem dX6_lasts_66 : decode cX6_lasts 66 = .ok (.invokevirtual 120, 3) := by decide +kernel
theorem dX6_lasts_69 : decode cX6_lasts 69 = .ok (.iload_n 3, 1) := by decide +kernel
theorem dX6_lasts_70 : decode cX6_lasts 70 = .ok (.ireturn, 1) := by decide +kernel
set_option maxRecDepth 20000 in
theorem ggX6_foresee_X6_isIn : GoodIn wsX6_foresee wsX6_isIn := goodIn_r _ [5] (by decide +kernel) (by decide +kernel)
set_option maxRecDepth 20000 in
theorem gX6_foresee_X6_isIn : GoodIn wsX6_foresee (va_wsS RX6 32 yX6_isIn wsX6_isIn) := goodIn_app (goodIn_of _ (by decide +kernel)) ggX6_foresee_X6_isIn
set_option maxRecDepth 20000 in
theorem ggX6_foresee_X6_fail : GoodIn wsX6_foresee wsX6_fail := goodIn_r _ [9, 1, 94, 95, 96, 97, 98, 99, 100, 101, 102] (by decide +kernel) (by decide +kernel)
set_option maxRecDepth 20000 in
theorem gX6_foresee_X6_fail : GoodIn wsX6_foresee (wsV RX6 36 RX6 yX6_fail wsX6_fail) := goodIn_app (goodIn_of _ (by decide +kernel)) ggX6_foresee_X6_fail
set_option maxRecDepth 20000 in
theorem ggX6_foresee_X6_kept : GoodIn wsX6_foresee wsX6_kept := goodIn_r _ [13, 14, 15, 16, 17, 18, 19, 20, 21, 22, 94, 95, 96, 97, 98, 99, 100, 101, 102] (by decide +kernel) (by decide +kernel)
set_option maxRecDepth 20000 in
theorem gX6_foresee_X6_kept : GoodIn wsX6_foresee (wsV RX6 116 RX6 yX6_kept wsX6_kept) := goodIn_app (goodIn_of _ (by decide +kernel)) ggX6_foresee_X6_kept
set_option maxRecDepth 20000 in
theorem ggX6_foresee_X6_ticksOn : GoodIn wsX6_foresee wsX6_ticksOn := goodIn_r _ [26, 27, 28, 29, 4, 30, 22, 31, 32, 33, 21, 34, 35, 36, 37, 38, 39, 40, 41, 15, 42, 43, 44, 45, 46, 47, 48, 49, 50, 51, 52, 53, 54, 55, 56, 57, 58, 59, 94, 95, 96, 97, 98, 99, 100, 101, 102] (by decide +kernel) (by decide +kernel)
set_option maxRecDepth 20000 in
theorem gX6_foresee_X6_ticksOn : GoodIn wsX6_foresee (wsV RX6 89 RX6 yX6_ticksOn wsX6_ticksOn) := goodIn_app (goodIn_of _ (by decide +kernel)) ggX6_foresee_X6_ticksOn
set_option maxRecDepth 20000 in
theorem ggX6_foresee_X6_counted : GoodIn wsX6_foresee wsX6_counted := goodIn_r _ [63, 22, 33, 64, 31, 65, 66, 67, 4, 68, 69, 70, 71, 72, 73, 74, 75, 76, 77, 78, 79, 80, 81, 53, 54, 55, 56, 15, 82, 83, 84, 85, 21, 94, 95, 96, 97, 98, 99, 100, 101, 102] (by decide +kernel) (by decide +kernel)
set_option maxRecDepth 20000 in
theorem gX6_foresee_X6_counted : GoodIn wsX6_foresee (wsV RX6 108 RX6 yX6_counted wsX6_counted) := goodIn_app (goodIn_of _ (by decide +kernel)) ggX6_foresee_X6_counted
set_option maxRecDepth 20000 in
theorem ggX6_foresee_X6_bringBack : GoodIn wsX6_foresee wsX6_bringBack := goodIn_r _ [89, 15, 90, 91, 92, 93, 21, 22, 94, 95, 96, 97, 98, 99, 100, 101, 102] (by decide +kernel) (by decide +kernel)
set_option maxRecDepth 20000 in
theorem gX6_foresee_X6_bringBack : GoodIn wsX6_foresee (wsV RX6 120 RX6 yX6_bringBack wsX6_bringBack) := goodIn_app (goodIn_of _ (by decide +kernel)) ggX6_foresee_X6_bringBack
theorem dX6_foresee_0 : decode cX6_foresee 0 = .ok (.aload_n 0, 1) := by decide +kernel
theorem dX6_foresee_1 : decode cX6_foresee 1 = .ok (.iconst 0, 1) := by decide +kernel
theorem dX6_foresee_2 : decode cX6_foresee 2 = .ok (.putfield 25, 3) := by decide +kernel
theorem dX6_foresee_5 : decode cX6_foresee 5 = .ok (.iload_n 1, 1) := by decide +kernel
theorem dX6_foresee_6 : decode cX6_foresee 6 = .ok (.iconst 1, 1) := by decide +kernel
theorem dX6_foresee_7 : decode cX6_foresee 7 = .ok (.sipush 500, 3) := by decide +kernel
theorem dX6_foresee_10 : decode cX6_foresee 10 = .ok (.invokestatic 32, 3) := by decide +kernel
theorem dX6_foresee_13 : decode cX6_foresee 13 = .ok (.ifCond .ne 9, 3) := by decide +kernel
theorem dX6_foresee_16 : decode cX6_foresee 16 = .ok (.aload_n 0, 1) := by decide +kernel
theorem dX6_foresee_17 : decode cX6_foresee 17 = .ok (.iconst 1, 1) := by decide +kernel
theorem dX6_foresee_18 : decode cX6_foresee 18 = .ok (.invokevirtual 36, 3) := by decide +kernel
theorem dX6_foresee_21 : decode cX6_foresee 21 = .ok (.ireturn, 1) := by decide +kernel
theorem dX6_foresee_22 : decode cX6_foresee 22 = .ok (.iload_n 2, 1) := by decide +kernel
theorem dX6_foresee_23 : decode cX6_foresee 23 = .ok (.iconst 1, 1) := by decide +kernel
theorem dX6_foresee_24 : decode cX6_foresee 24 = .ok (.if_icmp .eq 32, 3) := by decide +kernel
theorem dX6_foresee_27 : decode cX6_foresee 27 = .ok (.iload_n 2, 1) := by decide +kernel
theorem dX6_foresee_28 : decode cX6_foresee 28 = .ok (.iconst 5, 1) := by decide +kernel
theorem dX6_foresee_29 : decode cX6_foresee 29 = .ok (.if_icmp .eq 27, 3) := by decide +kernel
theorem dX6_foresee_32 : decode cX6_foresee 32 = .ok (.iload_n 2, 1) := by decide +kernel
theorem dX6_foresee_33 : decode cX6_foresee 33 = .ok (.bipush 7, 2) := by decide +kernel
theorem dX6_foresee_35 : decode cX6_foresee 35 = .ok (.if_icmp .eq 21, 3) := by decide +kernel
theorem dX6_foresee_38 : decode cX6_foresee 38 = .ok (.iload_n 2, 1) := by decide +kernel
theorem dX6_foresee_39 : decode cX6_foresee 39 = .ok (.bipush 8, 2) := by decide +kernel
theorem dX6_foresee_41 : decode cX6_foresee 41 = .ok (.if_icmp .eq 15, 3) := by decide +kernel
theorem dX6_foresee_44 : decode cX6_foresee 44 = .ok (.iload_n 2, 1) := by decide +kernel
theorem dX6_foresee_45 : decode cX6_foresee 45 = .ok (.bipush 11, 2) := by decide +kernel
theorem dX6_foresee_47 : decode cX6_foresee 47 = .ok (.if_icmp .eq 9, 3) := by decide +kernel
theorem dX6_foresee_50 : decode cX6_foresee 50 = .ok (.aload_n 0, 1) := by decide +kernel
theorem dX6_foresee_51 : decode cX6_foresee 51 = .ok (.iconst 2, 1) := by decide +kernel
theorem dX6_foresee_52 : decode cX6_foresee 52 = .ok (.invokevirtual 36, 3) := by decide +kernel
theorem dX6_foresee_55 : decode cX6_foresee 55 = .ok (.ireturn, 1) := by decide +kernel
theorem dX6_foresee_56 : decode cX6_foresee 56 = .ok (.aload_n 0, 1) := by decide +kernel
theorem dX6_foresee_57 : decode cX6_foresee 57 = .ok (.invokevirtual 116, 3) := by decide +kernel
theorem dX6_foresee_60 : decode cX6_foresee 60 = .ok (.astore_n 3, 1) := by decide +kernel
theorem dX6_foresee_61 : decode cX6_foresee 61 = .ok (.aload_n 0, 1) := by decide +kernel
theorem dX6_foresee_62 : decode cX6_foresee 62 = .ok (.iload_n 1, 1) := by decide +kernel
theorem dX6_foresee_63 : decode cX6_foresee 63 = .ok (.invokevirtual 89, 3) := by decide +kernel
theorem dX6_foresee_66 : decode cX6_foresee 66 = .ok (.pop, 1) := by decide +kernel
theorem dX6_foresee_67 : decode cX6_foresee 67 = .ok (.aload_n 0, 1) := by decide +kernel
theorem dX6_foresee_68 : decode cX6_foresee 68 = .ok (.iload_n 2, 1) := by decide +kernel
theorem dX6_foresee_69 : decode cX6_foresee 69 = .ok (.invokevirtual 108, 3) := by decide +kernel
theorem dX6_foresee_72 : decode cX6_foresee 72 = .ok (.istore 4, 2) := by decide +kernel
theorem dX6_foresee_74 : decode cX6_foresee 74 = .ok (.aload_n 0, 1) := by decide +kernel
theorem dX6_foresee_75 : decode cX6_foresee 75 = .ok (.aload_n 3, 1) := by decide +kernel
theorem dX6_foresee_76 : decode cX6_foresee 76 = .ok (.invokevirtual 120, 3) := by decide +kernel
theorem dX6_foresee_79 : decode cX6_foresee 79 = .ok (.iload 4, 2) := by decide +kernel
theorem dX6_foresee_81 : decode cX6_foresee 81 = .ok (.ireturn, 1) := by decide +kernel
set_option maxRecDepth 20000 in
theorem ggX6_darkest_X6_glareOf : GoodIn wsX6_darkest wsX6_glareOf := goodIn_r _ [6, 7, 8, 9, 10, 5, 11, 12, 13, 14, 15, 16, 17, 18, 19, 20, 21] (by decide +kernel) (by decide +kernel)
set_option maxRecDepth 20000 in
theorem gX6_darkest_X6_glareOf : GoodIn wsX6_darkest (wsV RX6 92 RX6 yX6_glareOf wsX6_glareOf) := goodIn_app (goodIn_of _ (by decide +kernel)) ggX6_darkest_X6_glareOf
theorem dX6_darkest_0 : decode cX6_darkest 0 = .ok (.aload_n 0, 1) := by decide +kernel
theorem dX6_darkest_1 : decode cX6_darkest 1 = .ok (.iconst 0, 1) := by decide +kernel
theorem dX6_darkest_2 : decode cX6_darkest 2 = .ok (.putfield 25, 3) := by decide +kernel
theorem dX6_darkest_5 : decode cX6_darkest 5 = .ok (.iconst 0, 1) := by decide +kernel
theorem dX6_darkest_6 : decode cX6_darkest 6 = .ok (.istore_n 1, 1) := by decide +kernel
theorem dX6_darkest_7 : decode cX6_darkest 7 = .ok (.iconst 1, 1) := by decide +kernel
theorem dX6_darkest_8 : decode cX6_darkest 8 = .ok (.istore_n 2, 1) := by decide +kernel
theorem dX6_darkest_9 : decode cX6_darkest 9 = .ok (.iload_n 2, 1) := by decide +kernel
theorem dX6_darkest_10 : decode cX6_darkest 10 = .ok (.bipush 12, 2) := by decide +kernel
theorem dX6_darkest_12 : decode cX6_darkest 12 = .ok (.if_icmp .ge 24, 3) := by decide +kernel
theorem dX6_darkest_15 : decode cX6_darkest 15 = .ok (.aload_n 0, 1) := by decide +kernel
theorem dX6_darkest_16 : decode cX6_darkest 16 = .ok (.iload_n 2, 1) := by decide +kernel
theorem dX6_darkest_17 : decode cX6_darkest 17 = .ok (.invokevirtual 92, 3) := by decide +kernel
theorem dX6_darkest_20 : decode cX6_darkest 20 = .ok (.aload_n 0, 1) := by decide +kernel
theorem dX6_darkest_21 : decode cX6_darkest 21 = .ok (.iload_n 1, 1) := by decide +kernel
theorem dX6_darkest_22 : decode cX6_darkest 22 = .ok (.invokevirtual 92, 3) := by decide +kernel
theorem dX6_darkest_25 : decode cX6_darkest 25 = .ok (.if_icmp .ge 5, 3) := by decide +kernel
theorem dX6_darkest_28 : decode cX6_darkest 28 = .ok (.iload_n 2, 1) := by decide +kernel
theorem dX6_darkest_29 : decode cX6_darkest 29 = .ok (.istore_n 1, 1) := by decide +kernel
theorem dX6_darkest_30 : decode cX6_darkest 30 = .ok (.iinc 2 1, 3) := by decide +kernel
theorem dX6_darkest_33 : decode cX6_darkest 33 = .ok (.goto (-24), 3) := by decide +kernel
theorem dX6_darkest_36 : decode cX6_darkest 36 = .ok (.iload_n 1, 1) := by decide +kernel
theorem dX6_darkest_37 : decode cX6_darkest 37 = .ok (.ireturn, 1) := by decide +kernel
set_option maxRecDepth 20000 in
theorem ggX6_mean_X6_glareOf : GoodIn wsX6_mean wsX6_glareOf := goodIn_r _ [7, 8, 9, 10, 11, 6, 12, 13, 14, 15, 16, 17, 18, 19, 20, 21, 22] (by decide +kernel) (by decide +kernel)
set_option maxRecDepth 20000 in
theorem gX6_mean_X6_glareOf : GoodIn wsX6_mean (wsV RX6 92 RX6 yX6_glareOf wsX6_glareOf) := goodIn_app (goodIn_of _ (by decide +kernel)) ggX6_mean_X6_glareOf
theorem dX6_mean_0 : decode cX6_mean 0 = .ok (.aload_n 0, 1) := by decide +kernel
theorem dX6_mean_1 : decode cX6_mean 1 = .ok (.iconst 0, 1) := by decide +kernel
theorem dX6_mean_2 : decode cX6_mean 2 = .ok (.putfield 25, 3) := by decide +kernel
theorem dX6_mean_5 : decode cX6_mean 5 = .ok (.iconst 0, 1) := by decide +kernel
theorem dX6_mean_6 : decode cX6_mean 6 = .ok (.istore_n 1, 1) := by decide +kernel
theorem dX6_mean_7 : decode cX6_mean 7 = .ok (.iconst 0, 1) := by decide +kernel
theorem dX6_mean_8 : decode cX6_mean 8 = .ok (.istore_n 2, 1) := by decide +kernel
theorem dX6_mean_9 : decode cX6_mean 9 = .ok (.iload_n 2, 1) := by decide +kernel
theorem dX6_mean_10 : decode cX6_mean 10 = .ok (.bipush 12, 2) := by decide +kernel
theorem dX6_mean_12 : decode cX6_mean 12 = .ok (.if_icmp .ge 17, 3) := by decide +kernel
theorem dX6_mean_15 : decode cX6_mean 15 = .ok (.iload_n 1, 1) := by decide +kernel
theorem dX6_mean_16 : decode cX6_mean 16 = .ok (.aload_n 0, 1) := by decide +kernel
theorem dX6_mean_17 : decode cX6_mean 17 = .ok (.iload_n 2, 1) := by decide +kernel
theorem dX6_mean_18 : decode cX6_mean 18 = .ok (.invokevirtual 92, 3) := by decide +kernel
theorem dX6_mean_21 : decode cX6_mean 21 = .ok (.iadd, 1) := by decide +kernel
theorem dX6_mean_22 : decode cX6_mean 22 = .ok (.istore_n 1, 1) := by decide +kernel
theorem dX6_mean_23 : decode cX6_mean 23 = .ok (.iinc 2 1, 3) := by decide +kernel
theorem dX6_mean_26 : decode cX6_mean 26 = .ok (.goto (-17), 3) := by decide +kernel
theorem dX6_mean_29 : decode cX6_mean 29 = .ok (.iload_n 1, 1) := by decide +kernel
theorem dX6_mean_30 : decode cX6_mean 30 = .ok (.i2d, 1) := by decide +kernel
theorem dX6_mean_31 : decode cX6_mean 31 = .ok (.ldc2_w 124, 3) := by decide +kernel
theorem dX6_mean_34 : decode cX6_mean 34 = .ok (.ddiv, 1) := by decide +kernel
theorem dX6_mean_35 : decode cX6_mean 35 = .ok (.dreturn, 1) := by decide +kernel
set_option maxRecDepth 20000 in
theorem ggX6_digest_X6_counted : GoodIn wsX6_digest wsX6_counted := goodIn_r _ [14, 7, 4, 6, 8, 15, 16, 17, 13, 18, 19, 20, 21, 22, 23, 24, 25, 26, 27, 28, 29, 30, 31, 32, 33, 34, 35, 5, 36, 37, 38, 39, 40, 41, 42, 43, 44, 45, 46, 47, 48, 49] (by decide +kernel) (by decide +kernel)
set_option maxRecDepth 20000 in
theorem gX6_digest_X6_counted : GoodIn wsX6_digest (wsV RX6 108 RX6 yX6_counted wsX6_counted) := goodIn_app (goodIn_of _ (by decide +kernel)) ggX6_digest_X6_counted
set_option maxRecDepth 20000 in
theorem ggX6_digest_X6_glareOf : GoodIn wsX6_digest wsX6_glareOf := goodIn_r _ [31, 4, 32, 33, 34, 13, 35, 5, 41, 42, 43, 44, 45, 46, 47, 48, 49] (by decide +kernel) (by decide +kernel)
set_option maxRecDepth 20000 in
theorem gX6_digest_X6_glareOf : GoodIn wsX6_digest (wsV RX6 92 RX6 yX6_glareOf wsX6_glareOf) := goodIn_app (goodIn_of _ (by decide +kernel)) ggX6_digest_X6_glareOf
set_option maxRecDepth 20000 in
theorem ggX6_digest_X6_starTold : GoodIn wsX6_digest wsX6_starTold := goodIn_r _ [18, 19, 20, 21, 22, 13, 23, 7, 24, 25, 26, 27, 28, 29, 30, 31, 4, 32, 33, 34, 35, 5, 41, 42, 43, 44, 45, 46, 47, 48, 49] (by decide +kernel) (by decide +kernel)
set_option maxRecDepth 20000 in
theorem gX6_digest_X6_starTold : GoodIn wsX6_digest (wsV RX6 102 RX6 yX6_starTold wsX6_starTold) := goodIn_app (goodIn_of _ (by decide +kernel)) ggX6_digest_X6_starTold
set_option maxRecDepth 20000 in
theorem ggX6_digest_X6_cometTold : GoodIn wsX6_digest wsX6_cometTold := goodIn_r _ [39, 40, 24, 25, 26, 13, 27, 28, 29, 30, 31, 4, 32, 33, 34, 35, 5, 41, 42, 43, 44, 45, 46, 47, 48, 49] (by decide +kernel) (by decide +kernel)
set_option maxRecDepth 20000 in
theorem gX6_digest_X6_cometTold : GoodIn wsX6_digest (wsV RX6 105 RX6 yX6_cometTold wsX6_cometTold) := goodIn_app (goodIn_of _ (by decide +kernel)) ggX6_digest_X6_cometTold
theorem dX6_digest_0 : decode cX6_digest 0 = .ok (.aload_n 0, 1) := by decide +kernel
theorem dX6_digest_1 : decode cX6_digest 1 = .ok (.iconst 0, 1) := by decide +kernel
theorem dX6_digest_2 : decode cX6_digest 2 = .ok (.putfield 25, 3) := by decide +kernel
theorem dX6_digest_5 : decode cX6_digest 5 = .ok (.ldc2_w 126, 3) := by decide +kernel
theorem dX6_digest_8 : decode cX6_digest 8 = .ok (.lstore_n 1, 1) := by decide +kernel
theorem dX6_digest_9 : decode cX6_digest 9 = .ok (.iconst 0, 1) := by decide +kernel
theorem dX6_digest_10 : decode cX6_digest 10 = .ok (.istore_n 3, 1) := by decide +kernel
theorem dX6_digest_11 : decode cX6_digest 11 = .ok (.iload_n 3, 1) := by decide +kernel
theorem dX6_digest_12 : decode cX6_digest 12 = .ok (.bipush 13, 2) := by decide +kernel
theorem dX6_digest_14 : decode cX6_digest 14 = .ok (.if_icmp .ge 22, 3) := by decide +kernel
theorem dX6_digest_17 : decode cX6_digest 17 = .ok (.lload_n 1, 1) := by decide +kernel
theorem dX6_digest_18 : decode cX6_digest 18 = .ok (.ldc2_w 128, 3) := by decide +kernel
theorem dX6_digest_21 : decode cX6_digest 21 = .ok (.lmul, 1) := by decide +kernel
theorem dX6_digest_22 : decode cX6_digest 22 = .ok (.aload_n 0, 1) := by decide +kernel
theorem dX6_digest_23 : decode cX6_digest 23 = .ok (.iload_n 3, 1) := by decide +kernel
theorem dX6_digest_24 : decode cX6_digest 24 = .ok (.invokevirtual 108, 3) := by decide +kernel
theorem dX6_digest_27 : decode cX6_digest 27 = .ok (.i2l, 1) := by decide +kernel
theorem dX6_digest_28 : decode cX6_digest 28 = .ok (.ladd, 1) := by decide +kernel
theorem dX6_digest_29 : decode cX6_digest 29 = .ok (.lstore_n 1, 1) := by decide +kernel
theorem dX6_digest_30 : decode cX6_digest 30 = .ok (.iinc 3 1, 3) := by decide +kernel
theorem dX6_digest_33 : decode cX6_digest 33 = .ok (.goto (-22), 3) := by decide +kernel
theorem dX6_digest_36 : decode cX6_digest 36 = .ok (.iconst 0, 1) := by decide +kernel
theorem dX6_digest_37 : decode cX6_digest 37 = .ok (.istore_n 3, 1) := by decide +kernel
theorem dX6_digest_38 : decode cX6_digest 38 = .ok (.iload_n 3, 1) := by decide +kernel
theorem dX6_digest_39 : decode cX6_digest 39 = .ok (.bipush 12, 2) := by decide +kernel
theorem dX6_digest_41 : decode cX6_digest 41 = .ok (.if_icmp .ge 22, 3) := by decide +kernel
theorem dX6_digest_44 : decode cX6_digest 44 = .ok (.lload_n 1, 1) := by decide +kernel
theorem dX6_digest_45 : decode cX6_digest 45 = .ok (.ldc2_w 128, 3) := by decide +kernel
theorem dX6_digest_48 : decode cX6_digest 48 = .ok (.lmul, 1) := by decide +kernel
theorem dX6_digest_49 : decode cX6_digest 49 = .ok (.aload_n 0, 1) := by decide +kernel
theorem dX6_digest_50 : decode cX6_digest 50 = .ok (.iload_n 3, 1) := by decide +kernel
theorem dX6_digest_51 : decode cX6_digest 51 = .ok (.invokevirtual 92, 3) := by decide +kernel
theorem dX6_digest_54 : decode cX6_digest 54 = .ok (.i2l, 1) := by decide +kernel
theorem dX6_digest_55 : decode cX6_digest 55 = .ok (.ladd, 1) := by decide +kernel
theorem dX6_digest_56 : decode cX6_digest 56 = .ok (.lstore_n 1, 1) := by decide +kernel
theorem dX6_digest_57 : decode cX6_digest 57 = .ok (.iinc 3 1, 3) := by decide +kernel
theorem dX6_digest_60 : decode cX6_digest 60 = .ok (.goto (-22), 3) := by decide +kernel
theorem dX6_digest_63 : decode cX6_digest 63 = .ok (.iconst 0, 1) := by decide +kernel
theorem dX6_digest_64 : decode cX6_digest 64 = .ok (.istore_n 3, 1) := by decide +kernel
theorem dX6_digest_65 : decode cX6_digest 65 = .ok (.iload_n 3, 1) := by decide +kernel
theorem dX6_digest_66 : decode cX6_digest 66 = .ok (.iconst 5, 1) := by decide +kernel
theorem dX6_digest_67 : decode cX6_digest 67 = .ok (.aload_n 0, 1) := by decide +kernel
theorem dX6_digest_68 : decode cX6_digest 68 = .ok (.getfield 29, 3) := by decide +kernel
theorem dX6_digest_71 : decode cX6_digest 71 = .ok (.imul, 1) := by decide +kernel
theorem dX6_digest_72 : decode cX6_digest 72 = .ok (.if_icmp .ge 23, 3) := by decide +kernel
theorem dX6_digest_75 : decode cX6_digest 75 = .ok (.lload_n 1, 1) := by decide +kernel
theorem dX6_digest_76 : decode cX6_digest 76 = .ok (.ldc2_w 128, 3) := by decide +kernel
theorem dX6_digest_79 : decode cX6_digest 79 = .ok (.lmul, 1) := by decide +kernel
theorem dX6_digest_80 : decode cX6_digest 80 = .ok (.aload_n 0, 1) := by decide +kernel
theorem dX6_digest_81 : decode cX6_digest 81 = .ok (.getfield 9, 3) := by decide +kernel
theorem dX6_digest_84 : decode cX6_digest 84 = .ok (.iload_n 3, 1) := by decide +kernel
theorem dX6_digest_85 : decode cX6_digest 85 = .ok (.iaload, 1) := by decide +kernel
theorem dX6_digest_86 : decode cX6_digest 86 = .ok (.i2l, 1) := by decide +kernel
theorem dX6_digest_87 : decode cX6_digest 87 = .ok (.ladd, 1) := by decide +kernel
theorem dX6_digest_88 : decode cX6_digest 88 = .ok (.lstore_n 1, 1) := by decide +kernel
theorem dX6_digest_89 : decode cX6_digest 89 = .ok (.iinc 3 1, 3) := by decide +kernel
theorem dX6_digest_92 : decode cX6_digest 92 = .ok (.goto (-27), 3) := by decide +kernel
theorem dX6_digest_95 : decode cX6_digest 95 = .ok (.iconst 0, 1) := by decide +kernel
theorem dX6_digest_96 : decode cX6_digest 96 = .ok (.istore_n 3, 1) := by decide +kernel
theorem dX6_digest_97 : decode cX6_digest 97 = .ok (.iload_n 3, 1) := by decide +kernel
theorem dX6_digest_98 : decode cX6_digest 98 = .ok (.aload_n 0, 1) := by decide +kernel
theorem dX6_digest_99 : decode cX6_digest 99 = .ok (.getfield 58, 3) := by decide +kernel
theorem dX6_digest_102 : decode cX6_digest 102 = .ok (.if_icmp .ge 39, 3) := by decide +kernel
theorem dX6_digest_105 : decode cX6_digest 105 = .ok (.iconst 0, 1) := by decide +kernel
theorem dX6_digest_106 : decode cX6_digest 106 = .ok (.istore 4, 2) := by decide +kernel
theorem dX6_digest_108 : decode cX6_digest 108 = .ok (.iload 4, 2) := by decide +kernel
theorem dX6_digest_110 : decode cX6_digest 110 = .ok (.iconst 4, 1) := by decide +kernel
theorem dX6_digest_111 : decode cX6_digest 111 = .ok (.if_icmp .ge 24, 3) := by decide +kernel
theorem dX6_digest_114 : decode cX6_digest 114 = .ok (.lload_n 1, 1) := by decide +kernel
theorem dX6_digest_115 : decode cX6_digest 115 = .ok (.ldc2_w 128, 3) := by decide +kernel
theorem dX6_digest_118 : decode cX6_digest 118 = .ok (.lmul, 1) := by decide +kernel
theorem dX6_digest_119 : decode cX6_digest 119 = .ok (.aload_n 0, 1) := by decide +kernel
theorem dX6_digest_120 : decode cX6_digest 120 = .ok (.iload_n 3, 1) := by decide +kernel
theorem dX6_digest_121 : decode cX6_digest 121 = .ok (.iload 4, 2) := by decide +kernel
theorem dX6_digest_123 : decode cX6_digest 123 = .ok (.invokevirtual 102, 3) := by decide +kernel
theorem dX6_digest_126 : decode cX6_digest 126 = .ok (.i2l, 1) := by decide +kernel
theorem dX6_digest_127 : decode cX6_digest 127 = .ok (.ladd, 1) := by decide +kernel
theorem dX6_digest_128 : decode cX6_digest 128 = .ok (.lstore_n 1, 1) := by decide +kernel
theorem dX6_digest_129 : decode cX6_digest 129 = .ok (.iinc 4 1, 3) := by decide +kernel
theorem dX6_digest_132 : decode cX6_digest 132 = .ok (.goto (-24), 3) := by decide +kernel
theorem dX6_digest_135 : decode cX6_digest 135 = .ok (.iinc 3 1, 3) := by decide +kernel
theorem dX6_digest_138 : decode cX6_digest 138 = .ok (.goto (-41), 3) := by decide +kernel
theorem dX6_digest_141 : decode cX6_digest 141 = .ok (.iconst 0, 1) := by decide +kernel
theorem dX6_digest_142 : decode cX6_digest 142 = .ok (.istore_n 3, 1) := by decide +kernel
theorem dX6_digest_143 : decode cX6_digest 143 = .ok (.iload_n 3, 1) := by decide +kernel
theorem dX6_digest_144 : decode cX6_digest 144 = .ok (.aload_n 0, 1) := by decide +kernel
theorem dX6_digest_145 : decode cX6_digest 145 = .ok (.getfield 22, 3) := by decide +kernel
theorem dX6_digest_148 : decode cX6_digest 148 = .ok (.bipush 7, 2) := by decide +kernel
theorem dX6_digest_150 : decode cX6_digest 150 = .ok (.iaload, 1) := by decide +kernel
theorem dX6_digest_151 : decode cX6_digest 151 = .ok (.if_icmp .ge 39, 3) := by decide +kernel
theorem dX6_digest_154 : decode cX6_digest 154 = .ok (.iconst 0, 1) := by decide +kernel
theorem dX6_digest_155 : decode cX6_digest 155 = .ok (.istore 4, 2) := by decide +kernel
theorem dX6_digest_157 : decode cX6_digest 157 = .ok (.iload 4, 2) := by decide +kernel
theorem dX6_digest_159 : decode cX6_digest 159 = .ok (.iconst 4, 1) := by decide +kernel
theorem dX6_digest_160 : decode cX6_digest 160 = .ok (.if_icmp .ge 24, 3) := by decide +kernel
theorem dX6_digest_163 : decode cX6_digest 163 = .ok (.lload_n 1, 1) := by decide +kernel
theorem dX6_digest_164 : decode cX6_digest 164 = .ok (.ldc2_w 128, 3) := by decide +kernel
theorem dX6_digest_167 : decode cX6_digest 167 = .ok (.lmul, 1) := by decide +kernel
theorem dX6_digest_168 : decode cX6_digest 168 = .ok (.aload_n 0, 1) := by decide +kernel
theorem dX6_digest_169 : decode cX6_digest 169 = .ok (.iload_n 3, 1) := by decide +kernel
theorem dX6_digest_170 : decode cX6_digest 170 = .ok (.iload 4, 2) := by decide +kernel
theorem dX6_digest_172 : decode cX6_digest 172 = .ok (.invokevirtual 105, 3) := by decide +kernel
theorem dX6_digest_175 : decode cX6_digest 175 = .ok (.i2l, 1) := by decide +kernel
theorem dX6_digest_176 : decode cX6_digest 176 = .ok (.ladd, 1) := by decide +kernel
theorem dX6_digest_177 : decode cX6_digest 177 = .ok (.lstore_n 1, 1) := by decide +kernel
theorem dX6_digest_178 : decode cX6_digest 178 = .ok (.iinc 4 1, 3) := by decide +kernel
theorem dX6_digest_181 : decode cX6_digest 181 = .ok (.goto (-24), 3) := by decide +kernel
theorem dX6_digest_184 : decode cX6_digest 184 = .ok (.iinc 3 1, 3) := by decide +kernel
theorem dX6_digest_187 : decode cX6_digest 187 = .ok (.goto (-44), 3) := by decide +kernel
theorem dX6_digest_190 : decode cX6_digest 190 = .ok (.iconst 0, 1) := by decide +kernel
theorem dX6_digest_191 : decode cX6_digest 191 = .ok (.istore_n 3, 1) := by decide +kernel
theorem dX6_digest_192 : decode cX6_digest 192 = .ok (.iload_n 3, 1) := by decide +kernel
theorem dX6_digest_193 : decode cX6_digest 193 = .ok (.iconst 4, 1) := by decide +kernel
theorem dX6_digest_194 : decode cX6_digest 194 = .ok (.aload_n 0, 1) := by decide +kernel
theorem dX6_digest_195 : decode cX6_digest 195 = .ok (.getfield 64, 3) := by decide +kernel
theorem dX6_digest_198 : decode cX6_digest 198 = .ok (.imul, 1) := by decide +kernel
theorem dX6_digest_199 : decode cX6_digest 199 = .ok (.if_icmp .ge 23, 3) := by decide +kernel
theorem dX6_digest_202 : decode cX6_digest 202 = .ok (.lload_n 1, 1) := by decide +kernel
theorem dX6_digest_203 : decode cX6_digest 203 = .ok (.ldc2_w 128, 3) := by decide +kernel
theorem dX6_digest_206 : decode cX6_digest 206 = .ok (.lmul, 1) := by decide +kernel
theorem dX6_digest_207 : decode cX6_digest 207 = .ok (.aload_n 0, 1) := by decide +kernel
theorem dX6_digest_208 : decode cX6_digest 208 = .ok (.getfield 19, 3) := by decide +kernel
theorem dX6_digest_211 : decode cX6_digest 211 = .ok (.iload_n 3, 1) := by decide +kernel
theorem dX6_digest_212 : decode cX6_digest 212 = .ok (.iaload, 1) := by decide +kernel
theorem dX6_digest_213 : decode cX6_digest 213 = .ok (.i2l, 1) := by decide +kernel
theorem dX6_digest_214 : decode cX6_digest 214 = .ok (.ladd, 1) := by decide +kernel
theorem dX6_digest_215 : decode cX6_digest 215 = .ok (.lstore_n 1, 1) := by decide +kernel
theorem dX6_digest_216 : decode cX6_digest 216 = .ok (.iinc 3 1, 3) := by decide +kernel
theorem dX6_digest_219 : decode cX6_digest 219 = .ok (.goto (-27), 3) := by decide +kernel
theorem dX6_digest_222 : decode cX6_digest 222 = .ok (.lload_n 1, 1) := by decide +kernel
theorem dX6_digest_223 : decode cX6_digest 223 = .ok (.lreturn, 1) := by decide +kernel
theorem dJ9_floorMod_7cf53_0 : decode cJ9_floorMod_7cf53 0 = .ok (.iload_n 0, 1) := by decide +kernel
theorem dJ9_floorMod_7cf53_1 : decode cJ9_floorMod_7cf53 1 = .ok (.iload_n 1, 1) := by decide +kernel
theorem dJ9_floorMod_7cf53_2 : decode cJ9_floorMod_7cf53 2 = .ok (.irem, 1) := by decide +kernel
theorem dJ9_floorMod_7cf53_3 : decode cJ9_floorMod_7cf53 3 = .ok (.istore_n 2, 1) := by decide +kernel
theorem dJ9_floorMod_7cf53_4 : decode cJ9_floorMod_7cf53 4 = .ok (.iload_n 0, 1) := by decide +kernel
theorem dJ9_floorMod_7cf53_5 : decode cJ9_floorMod_7cf53 5 = .ok (.iload_n 1, 1) := by decide +kernel
theorem dJ9_floorMod_7cf53_6 : decode cJ9_floorMod_7cf53 6 = .ok (.ixor, 1) := by decide +kernel
theorem dJ9_floorMod_7cf53_7 : decode cJ9_floorMod_7cf53 7 = .ok (.ifCond .ge 11, 3) := by decide +kernel
theorem dJ9_floorMod_7cf53_10 : decode cJ9_floorMod_7cf53 10 = .ok (.iload_n 2, 1) := by decide +kernel
theorem dJ9_floorMod_7cf53_11 : decode cJ9_floorMod_7cf53 11 = .ok (.ifCond .eq 7, 3) := by decide +kernel
theorem dJ9_floorMod_7cf53_14 : decode cJ9_floorMod_7cf53 14 = .ok (.iload_n 2, 1) := by decide +kernel
theorem dJ9_floorMod_7cf53_15 : decode cJ9_floorMod_7cf53 15 = .ok (.iload_n 1, 1) := by decide +kernel
theorem dJ9_floorMod_7cf53_16 : decode cJ9_floorMod_7cf53 16 = .ok (.iadd, 1) := by decide +kernel
theorem dJ9_floorMod_7cf53_17 : decode cJ9_floorMod_7cf53 17 = .ok (.ireturn, 1) := by decide +kernel
theorem dJ9_floorMod_7cf53_18 : decode cJ9_floorMod_7cf53 18 = .ok (.iload_n 2, 1) := by decide +kernel
theorem dJ9_floorMod_7cf53_19 : decode cJ9_floorMod_7cf53 19 = .ok (.ireturn, 1) := by decide +kernel
theorem dJ9_max_7cf53_0 : decode cJ9_max_7cf53 0 = .ok (.iload_n 0, 1) := by decide +kernel
theorem dJ9_max_7cf53_1 : decode cJ9_max_7cf53 1 = .ok (.iload_n 1, 1) := by decide +kernel
theorem dJ9_max_7cf53_2 : decode cJ9_max_7cf53 2 = .ok (.if_icmp .lt 7, 3) := by decide +kernel
theorem dJ9_max_7cf53_5 : decode cJ9_max_7cf53 5 = .ok (.iload_n 0, 1) := by decide +kernel
theorem dJ9_max_7cf53_6 : decode cJ9_max_7cf53 6 = .ok (.goto 4, 3) := by decide +kernel
theorem dJ9_max_7cf53_9 : decode cJ9_max_7cf53 9 = .ok (.iload_n 1, 1) := by decide +kernel
theorem dJ9_max_7cf53_10 : decode cJ9_max_7cf53 10 = .ok (.ireturn, 1) := by decide +kernel
theorem dJ9_min_7cf53_0 : decode cJ9_min_7cf53 0 = .ok (.iload_n 0, 1) := by decide +kernel
theorem dJ9_min_7cf53_1 : decode cJ9_min_7cf53 1 = .ok (.iload_n 1, 1) := by decide +kernel
theorem dJ9_min_7cf53_2 : decode cJ9_min_7cf53 2 = .ok (.if_icmp .gt 7, 3) := by decide +kernel
theorem dJ9_min_7cf53_5 : decode cJ9_min_7cf53 5 = .ok (.iload_n 0, 1) := by decide +kernel
theorem dJ9_min_7cf53_6 : decode cJ9_min_7cf53 6 = .ok (.goto 4, 3) := by decide +kernel
theorem dJ9_min_7cf53_9 : decode cJ9_min_7cf53 9 = .ok (.iload_n 1, 1) := by decide +kernel
theorem dJ9_min_7cf53_10 : decode cJ9_min_7cf53 10 = .ok (.ireturn, 1) := by decide +kernel
set_option maxRecDepth 20000 in
theorem ggL_dimmer_X5_dimmer : GoodIn wsL_dimmer wsX5_dimmer := goodIn_ca (goodIn_ca (goodIn_r _ [7, 8, 9, 10, 11, 12, 13, 14, 15, 16, 6, 17, 18, 19, 20, 21, 22, 23, 24, 25, 26, 27, 28, 29, 30, 31, 32, 33, 34, 35, 36, 37, 38, 39, 40, 41, 42, 43, 44, 45, 46, 47] (by decide +kernel) (by decide +kernel)) (goodIn_sub (fun _ h => List.mem_cons_of_mem _ (List.mem_append_left _ (List.mem_append_right _ h))) (by decide +kernel))) (goodIn_sub (fun _ h => List.mem_cons_of_mem _ (List.mem_append_right _ h)) (by decide +kernel))
set_option maxRecDepth 20000 in
theorem gL_dimmer_X5_dimmer : GoodIn wsL_dimmer (wsV RL 7 RX5 yX5_dimmer wsX5_dimmer) := goodIn_app (goodIn_of _ (by decide +kernel)) ggL_dimmer_X5_dimmer
end
section
abbrev vwCl : List vw_C := [(RX0, TX0, 4), (RX1, TX1, 5), (RX2, TX2, 6), (RX3, TX3, 9), (RX4, TX4, 3), (RX5, TX5, 4), (RX6, TX6, 9)]
theorem naddE {x y : Int32} {a b : Nat} (hx : x = nI a) (hy : y = nI b) : x + y = nI (a + b) := by rw [hx, hy]; exact nI_add a b
theorem nmulE {x y : Int32} {a b : Nat} (hx : x = nI a) (hy : y = nI b) : x * y = nI (a * b) := by
  rw [hx, hy]
  unfold nI
  rw [← Int32.ofNat_mul]
theorem nI_inc (a : Nat) : nI a + Int32.ofInt 1 = nI (a + 1) := nI_1 a
def imax (x y : Int32) : Int32 := if x < y then y else x
def imin (x y : Int32) : Int32 := if y < x then y else x
/-! what every contract of this claim speaks in: a world of listed cells, the tables' words, one answer -/
abbrev nwl : List Cond := [.methodLinkNest "StarConsole$Comets" 25 yX5_turned "StarConsole", .methodLinkNest "StarConsole$Show" 64 yX5_turned "StarConsole", .methodLinkNest "StarConsole" 18 yX1_init "StarConsole", .methodLinkNest "StarConsole" 25 yX3_init "StarConsole", .methodLinkNest "StarConsole" 9 yX4_init "StarConsole", .methodLinkNest "StarConsole$Show" 17 yX2_init "StarConsole", .methodLinkNest "StarConsole$Show" 24 yX0_init "StarConsole"]
def kw (D : va_G) (cI : ClassId) (U : State) : Prop := va_K D vwCl [(cI, .int)] U ∧ ∀ w ∈ nwl, va_Nw w U
theorem kw.warm {D : va_G} {cI : ClassId} {s U : State} (hW : s.WarmedH U.vm) (h : kw D cI s) : kw D cI U := by
  refine ⟨va_K.moved hW.alike h.1, fun w hw => ?_⟩
  have h2 := h.2 w hw
  simp only [nwl, List.mem_cons, List.not_mem_nil, or_false] at hw
  rcases hw with rfl | rfl | rfl | rfl | rfl | rfl | rfl <;> exact va_Nw.warmM hW h2
theorem kw.same {D : va_G} {cI : ClassId} {s U : State} (hv : s.vm = U.vm) (h : kw D cI s) : kw D cI U := by
  refine ⟨va_K.moved (hv ▸ Vm.Alike.refl s.vm) h.1, fun w hw => ?_⟩
  have h2 := h.2 w hw
  simp only [nwl, List.mem_cons, List.not_mem_nil, or_false] at hw
  rcases hw with rfl | rfl | rfl | rfl | rfl | rfl | rfl <;> exact va_Nw.same rfl hv h2
/-- where a method starts: its arguments, and its cells -/
def prW (D : va_G) (cI : ClassId) (av : List Value) (w : va_W) (sz : Nat) : Array Value → State → Prop := va_Pc av (fun U => U.heap.size = sz ∧ va_P D vwCl w U.heap ∧ kw D cI U ∧ va_D (fun _ => True) w)
theorem prW_blind (D : va_G) (cI : ClassId) (av : List Value) (w : va_W) (sz : Nat) : FrameBlind (prW D cI av w sz) := fun a U g mk q => by
  obtain ⟨q0, q1, qP, qK, qD⟩ := q
  exact ⟨q0, q1, qP, kw.same (s := U) (U := U.calling g mk a) rfl qK, qD⟩
/-- what it leaves behind -/
def afW (D : va_G) (A : Nat → Prop) (w' : va_W) : Unit → State → Prop := fun _ t => va_P D vwCl w' t.heap ∧ va_D A w'
def poI (D : va_G) (A : Nat → Prop) (w' : va_W) (r : Int32) := va_Qi (fun (r' : Int32) (_ : Unit) => r' = r) (afW D A w') A
def poL (D : va_G) (A : Nat → Prop) (w' : va_W) (r : Int64) := va_Ql (fun (r' : Int64) (_ : Unit) => r' = r) (afW D A w') A
def poV (D : va_G) (A : Nat → Prop) (w' : va_W) := va_Qv (fun (_ : Unit) => True) (afW D A w') A
def CI (l : Launch) (y : MethodName) (ws : List Cond) (rm : Room) (D : va_G) (cI : ClassId) (av : List Value) (w : va_W) (r : Int32) (w' : va_W) : Prop := ∀ sz : Nat, Met l y ws rm (prW D cI av w sz) (poI D (va_A w sz) w' r) 0 0 (va_A w sz)
def CL (l : Launch) (y : MethodName) (ws : List Cond) (rm : Room) (D : va_G) (cI : ClassId) (av : List Value) (w : va_W) (r : Int64) (w' : va_W) : Prop := ∀ sz : Nat, Met l y ws rm (prW D cI av w sz) (poL D (va_A w sz) w' r) 0 0 (va_A w sz)
def CV (l : Launch) (y : MethodName) (ws : List Cond) (rm : Room) (D : va_G) (cI : ClassId) (av : List Value) (w : va_W) (w' : va_W) : Prop := ∀ sz : Nat, Met l y ws rm (prW D cI av w sz) (poV D (va_A w sz) w') 0 0 (va_A w sz)
/-- what is at hand in a body -/
def FX (p : Program) (s : State) (m : MethodId) (meth : Method) (c : Code) (cc : ByteArray) (maxL : Nat) (ret : Option FieldType) (av : List Value) (ws : List Cond) (y : MethodName) (D : va_G) (cI : ClassId) (A : Nat → Prop) (w : va_W) : Prop :=
  p.tables.exec = Jvm.exec ∧ c.code = cc ∧ meth.sig.returnType = ret ∧ c.maxLocals = maxL ∧ s.vm.findClass y.cls = some m.cls ∧ (∀ x ∈ ws, x.before av.toArray s = true) ∧ meth.locks = false ∧ kw D cI s ∧ va_P D vwCl w s.heap ∧ va_D A w ∧ (∀ q : Nat, s.heap.size ≤ q → A q)
section ENT
variable {l : Launch} {y : MethodName} {ws ws1 : List Cond} {rm : Room} {D : va_G} {cI : ClassId} {av : List Value} {w w' : va_W} {cc : ByteArray} {maxL : Nat} {ret : Option FieldType}
theorem ent_of {Qc : (Nat → Prop) → Array Value → State → Outcome → State → Prop} (hy : plainName y.cls = true) (hw : ws = Cond.code y cc maxL ret :: ws1) (hlen : (lg_sl av).length ≤ maxL)
    (body : ∀ (p : Program) (e : Env) (s : State) (m : MethodId) (below : List Frame) (meth : Method) (c : Code) (A : Nat → Prop) (ls : Array Slot), FX p s m meth c cc maxL ret av ws y D cI A w → lv_has ls maxL (lv_args 0 av) →
      W p l e rm s m av.toArray below meth c s.heap [] 0 0 (MQ below (Qc A) av.toArray s 0 0 A) (F0 m 0 ls [])) (sz : Nat) : Met l y ws rm (prW D cI av w sz) (Qc (va_A w sz)) 0 0 (va_A w sz) := by
  refine Met.ofW (cc := cc) (maxL := maxL) (ret := ret) hy hw ?_
  intro p e s m args below meth c s₁ B hml hv
  obtain ⟨rfl, hsz, hP, hK, hD0⟩ := hv
  subst hsz
  have hl := lv_entry av hlen
  rw [lg_entry_eq]
  exact body p e s m below meth c (va_A w s.heap.size) _ ⟨B.exec, B.bytes, B.returns, hml, findClass_of_methodNamed B.named, atoms_spec (ws := ws) B.pre, B.notSynchronized, hK, hP, hD0.self (sz := s.heap.size), fun q h => Or.inr h⟩ hl
theorem entI {r : Int32} (hy : plainName y.cls = true) (hw : ws = Cond.code y cc maxL ret :: ws1) (hlen : (lg_sl av).length ≤ maxL)
    (body : ∀ (p : Program) (e : Env) (s : State) (m : MethodId) (below : List Frame) (meth : Method) (c : Code) (A : Nat → Prop) (ls : Array Slot), FX p s m meth c cc maxL ret av ws y D cI A w → lv_has ls maxL (lv_args 0 av) →
      W p l e rm s m av.toArray below meth c s.heap [] 0 0 (MQ below (poI D A w' r) av.toArray s 0 0 A) (F0 m 0 ls [])) : CI l y ws rm D cI av w r w' := fun sz => ent_of (Qc := fun A => poI D A w' r) hy hw hlen body sz
theorem entL {r : Int64} (hy : plainName y.cls = true) (hw : ws = Cond.code y cc maxL ret :: ws1) (hlen : (lg_sl av).length ≤ maxL)
    (body : ∀ (p : Program) (e : Env) (s : State) (m : MethodId) (below : List Frame) (meth : Method) (c : Code) (A : Nat → Prop) (ls : Array Slot), FX p s m meth c cc maxL ret av ws y D cI A w → lv_has ls maxL (lv_args 0 av) →
      W p l e rm s m av.toArray below meth c s.heap [] 0 0 (MQ below (poL D A w' r) av.toArray s 0 0 A) (F0 m 0 ls [])) : CL l y ws rm D cI av w r w' := fun sz => ent_of (Qc := fun A => poL D A w' r) hy hw hlen body sz
theorem entV (hy : plainName y.cls = true) (hw : ws = Cond.code y cc maxL ret :: ws1) (hlen : (lg_sl av).length ≤ maxL)
    (body : ∀ (p : Program) (e : Env) (s : State) (m : MethodId) (below : List Frame) (meth : Method) (c : Code) (A : Nat → Prop) (ls : Array Slot), FX p s m meth c cc maxL ret av ws y D cI A w → lv_has ls maxL (lv_args 0 av) →
      W p l e rm s m av.toArray below meth c s.heap [] 0 0 (MQ below (poV D A w') av.toArray s 0 0 A) (F0 m 0 ls [])) : CV l y ws rm D cI av w w' := fun sz => ent_of (Qc := fun A => poV D A w') hy hw hlen body sz
end ENT
section BASE
variable {p : Program} {l : Launch} {e : Env} {R : Room} {s : State} {m : MethodId} {args : Array Value} {below : List Frame} {meth : Method} {c : Code} {H : Heap} {locs : List Loc} {cells slots : Nat} {Q : State → Prop}
variable {cc : ByteArray} {pc : Nat} {ls : Array Slot} {rest st0 : List Value} {A : Nat → Prop} {D : va_G} {cI : ClassId} {w w' wc wc' : va_W}
theorem retI {r v : Int32} {ty : FieldType} (hx : p.tables.exec = Jvm.exec) (hb : c.code = cc) (hr : meth.sig.returnType = some ty) (hlocks : meth.locks = false) (hS : va_S A s.heap H locs) (hP : va_P D vwCl w' H) (hD : va_D A w') (hdg : decode cc pc = .ok (.ireturn, 1)) (hv : v = r) (hn : narrow ty (.int v) = .int v) :
    W p l e R s m args below meth c H locs 0 0 (MQ below (poI D A w' r) args s 0 0 A) (F0 m pc ls [.int v]) :=
  W.zret hx hb hr hn (fun t ht _ => ⟨⟨v, (), rfl, hv, by rw [ht]; exact hP, hD⟩, hS.F ht⟩) hS.2.2 hdg hlocks
theorem retL {r v : Int64} (hx : p.tables.exec = Jvm.exec) (hb : c.code = cc) (hr : meth.sig.returnType = some .long) (hlocks : meth.locks = false) (hS : va_S A s.heap H locs) (hP : va_P D vwCl w' H) (hD : va_D A w') (hdg : decode cc pc = .ok (.lreturn, 1)) (hv : v = r) :
    W p l e R s m args below meth c H locs 0 0 (MQ below (poL D A w' r) args s 0 0 A) (F0 m pc ls [.long v]) :=
  W.lret hx hb hr (fun t ht _ => ⟨⟨v, (), rfl, hv, by rw [ht]; exact hP, hD⟩, hS.F ht⟩) hS.2.2 hdg hlocks
theorem retV (hx : p.tables.exec = Jvm.exec) (hb : c.code = cc) (hr : meth.sig.returnType = none) (hlocks : meth.locks = false) (hS : va_S A s.heap H locs) (hP : va_P D vwCl w' H) (hD : va_D A w') (hdg : decode cc pc = .ok (.return_, 1)) :
    W p l e R s m args below meth c H locs 0 0 (MQ below (poV D A w') args s 0 0 A) (F0 m pc ls []) :=
  W.vret hx hb hr (fun t ht _ => ⟨⟨(), rfl, trivial, by rw [ht]; exact hP, hD⟩, hS.F ht⟩) hS.2.2 hdg hlocks
theorem fm_map {α β : Type} (f : α → Option β) : ∀ (is : List α) (w : List β), is.map f = w.map some → is.filterMap f = w
  | [], [], _ => rfl
  | [], _ :: _, h => by simp at h
  | _ :: _, [], h => by simp at h
  | a :: is, b :: w, h => by
    simp only [List.map_cons, List.cons.injEq] at h
    rw [List.filterMap_cons, h.1]
    simp [fm_map f is w h.2]
theorem nd_app : ∀ (a b : List Nat), va_nd (a ++ b) = true → va_nd a = true ∧ va_nd b = true ∧ ∀ i ∈ a, i ∉ b
  | [], b, h => ⟨rfl, h, fun i hi => absurd hi List.not_mem_nil⟩
  | x :: a, b, h => by
    simp only [List.cons_append, va_nd, Bool.and_eq_true, decide_eq_true_eq, List.mem_append, not_or] at h
    obtain ⟨h1, h2, h3⟩ := nd_app a b h.2
    refine ⟨by simp only [va_nd, Bool.and_eq_true, decide_eq_true_eq]; exact ⟨h.1.1, h1⟩, h2, fun i hi => ?_⟩
    rcases List.mem_cons.mp hi with rfl | hi
    · exact h.1.2
    · exact h3 i hi
/-- the frame rule, with the caller's cells in their own order again -/
theorem fr_join {H1 : Heap} (hP : va_P D vwCl w H) (hD : va_D A w) (hS : va_S A s.heap H locs) (hA : ∀ q : Nat, s.heap.size ≤ q → A q) (isC isR pm : List Nat) (hC : isC.map (fun i => w[i]?) = wc.map some) (hnd : va_nd (isR ++ isC) = true) (hR : (isR.map (fun i => w[i]?)) = (isR.filterMap (fun i => w[i]?)).map some) (hpm : pm.map (fun i => ((isR.filterMap (fun i => w[i]?)) ++ wc')[i]?) = w'.map some) (hnp : va_nd pm = true)
    (hk : ∀ q : Nat, q < H.size → ¬ va_A wc H.size q → H1[q]? = H[q]?) (hP1 : va_P D vwCl wc' H1) (hD1 : va_D (va_A wc H.size) wc') : va_P D vwCl w' H1 ∧ va_D A w' := by
  obtain ⟨h1, h2, h3⟩ := nd_app isR isC hnd
  have hF := va_free (wc := wc) hD hS hA isC hC
  obtain ⟨hP2, hD2⟩ := va_join hP hD isC isR hC hR h1 h3 hk hF hP1 hD1
  exact ⟨hP2.sub pm (fm_map _ _ _ hpm), hD2.sub pm hnp hpm⟩
theorem fr_free (hD : va_D A w) (hS : va_S A s.heap H locs) (hA : ∀ q : Nat, s.heap.size ≤ q → A q) (isC : List Nat) (hC : isC.map (fun i => w[i]?) = wc.map some) : ∀ q, va_A wc H.size q → A q := va_free (wc := wc) hD hS hA isC hC
theorem preS_of {av : List Value} (hk : kw D cI s) (hP : va_P D vwCl w H) (hD : va_D A w) (isC : List Nat) (hC : isC.map (fun i => w[i]?) = wc.map some) (hni : va_nd isC = true) : PreS s H (prW D cI av wc H.size) av := by
  refine ⟨prW_blind _ _ _ _ _, fun U hU hW => ⟨rfl, by rw [hU], by rw [hU]; exact hP.sub isC (fm_map _ _ _ hC), hk.warm hW, (hD.sub isC hni hC).weaken (fun _ _ _ _ => trivial)⟩⟩
theorem preV_of {b : Addr} {As : List Value} {C : String} (hk : kw D cI s) (hP : va_P D vwCl w H) (hD : va_D A w) (isC : List Nat) (hC : isC.map (fun i => w[i]?) = wc.map some) (hni : va_nd isC = true) (hrc : ∃ cell : Cell, H[b]? = some cell ∧ cell.vm.isStatics = false ∧ s.vm.findClass C = some cell.cls) : PreV s H C b (prW D cI (.ref b :: As) wc H.size) As := by
  refine ⟨prW_blind _ _ _ _ _, hrc, fun U hU hW => ⟨rfl, by rw [hU], by rw [hU]; exact hP.sub isC (fm_map _ _ _ hC), hk.warm hW, (hD.sub isC hni hC).weaken (fun _ _ _ _ => trivial)⟩⟩
theorem recvO {b q0 ci : Nat} {q : vw_C} {fs : List Value} (hk : kw D cI s) (hP : va_P D vwCl w H) (hc : vwCl[ci]? = some q) (he : w[q0]? = some (b, .inr (ci, fs))) : ∃ cell : Cell, H[b]? = some cell ∧ cell.vm.isStatics = false ∧ s.vm.findClass q.1 = some cell.cls := va_recv hk.1 hP hc he
theorem frI {r : Int32} {a : Array Value} (hP : va_P D vwCl w H) (hD : va_D A w) (hS : va_S A s.heap H locs) (hA : ∀ q : Nat, s.heap.size ≤ q → A q) (isC isR pm : List Nat) (hC : isC.map (fun i => w[i]?) = wc.map some) (hnd : va_nd (isR ++ isC) = true) (hR : (isR.map (fun i => w[i]?)) = (isR.filterMap (fun i => w[i]?)).map some) (hpm : pm.map (fun i => ((isR.filterMap (fun i => w[i]?)) ++ wc')[i]?) = w'.map some) (hnp : va_nd pm = true)
    (hr : va_Run p l e R s m args below meth c H locs cells slots 0 0 (F0 m pc ls st0) rest (poI D (va_A wc H.size) wc' r a) (va_A wc H.size))
    (kk : ∀ (H1 : Heap) (locs1 : List Loc), va_P D vwCl w' H1 → va_D A w' → va_S A s.heap H1 locs1 → W p l e R s m args below meth c H1 locs1 cells slots Q (F0 m (pc + 3) ls (.int r :: rest))) : W p l e R s m args below meth c H locs cells slots Q (F0 m pc ls st0) := by
  have hF := fr_free (wc := wc) hD hS hA isC hC
  refine va_calli hr hS (fun q _ h => hF q h) hF (fun r' u t H1 locs1 ht hvm hw hB hz1 hk1 hS1 => ?_)
  obtain ⟨hP1, hD1⟩ := hB
  rw [ht] at hP1
  subst hw
  obtain ⟨h1, h2⟩ := fr_join (w' := w') hP hD hS hA isC isR pm hC hnd hR hpm hnp hk1 hP1 hD1
  exact kk H1 locs1 h1 h2 hS1
theorem frL {r : Int64} {a : Array Value} (hP : va_P D vwCl w H) (hD : va_D A w) (hS : va_S A s.heap H locs) (hA : ∀ q : Nat, s.heap.size ≤ q → A q) (isC isR pm : List Nat) (hC : isC.map (fun i => w[i]?) = wc.map some) (hnd : va_nd (isR ++ isC) = true) (hR : (isR.map (fun i => w[i]?)) = (isR.filterMap (fun i => w[i]?)).map some) (hpm : pm.map (fun i => ((isR.filterMap (fun i => w[i]?)) ++ wc')[i]?) = w'.map some) (hnp : va_nd pm = true)
    (hr : va_Run p l e R s m args below meth c H locs cells slots 0 0 (F0 m pc ls st0) rest (poL D (va_A wc H.size) wc' r a) (va_A wc H.size))
    (kk : ∀ (H1 : Heap) (locs1 : List Loc), va_P D vwCl w' H1 → va_D A w' → va_S A s.heap H1 locs1 → W p l e R s m args below meth c H1 locs1 cells slots Q (F0 m (pc + 3) ls (.long r :: rest))) : W p l e R s m args below meth c H locs cells slots Q (F0 m pc ls st0) := by
  have hF := fr_free (wc := wc) hD hS hA isC hC
  refine va_calll hr hS (fun q _ h => hF q h) hF (fun r' u t H1 locs1 ht hvm hw hB hz1 hk1 hS1 => ?_)
  obtain ⟨hP1, hD1⟩ := hB
  rw [ht] at hP1
  subst hw
  obtain ⟨h1, h2⟩ := fr_join (w' := w') hP hD hS hA isC isR pm hC hnd hR hpm hnp hk1 hP1 hD1
  exact kk H1 locs1 h1 h2 hS1
theorem frV {a : Array Value} (hP : va_P D vwCl w H) (hD : va_D A w) (hS : va_S A s.heap H locs) (hA : ∀ q : Nat, s.heap.size ≤ q → A q) (isC isR pm : List Nat) (hC : isC.map (fun i => w[i]?) = wc.map some) (hnd : va_nd (isR ++ isC) = true) (hR : (isR.map (fun i => w[i]?)) = (isR.filterMap (fun i => w[i]?)).map some) (hpm : pm.map (fun i => ((isR.filterMap (fun i => w[i]?)) ++ wc')[i]?) = w'.map some) (hnp : va_nd pm = true)
    (hr : va_Run p l e R s m args below meth c H locs cells slots 0 0 (F0 m pc ls st0) rest (poV D (va_A wc H.size) wc' a) (va_A wc H.size))
    (kk : ∀ (H1 : Heap) (locs1 : List Loc), va_P D vwCl w' H1 → va_D A w' → va_S A s.heap H1 locs1 → W p l e R s m args below meth c H1 locs1 cells slots Q (F0 m (pc + 3) ls rest)) : W p l e R s m args below meth c H locs cells slots Q (F0 m pc ls st0) := by
  have hF := fr_free (wc := wc) hD hS hA isC hC
  refine va_callv hr hS (fun q _ h => hF q h) hF (fun u t H1 locs1 ht hvm hw hB hz1 hk1 hS1 => ?_)
  obtain ⟨hP1, hD1⟩ := hB
  rw [ht] at hP1
  obtain ⟨h1, h2⟩ := fr_join (w' := w') hP hD hS hA isC isR pm hC hnd hR hpm hnp hk1 hP1 hD1
  exact kk H1 locs1 h1 h2 hS1
theorem top_eq {v v' : Value} (h : v = v') (k : W p l e R s m args below meth c H locs cells slots Q (F0 m pc ls (v' :: rest))) : W p l e R s m args below meth c H locs cells slots Q (F0 m pc ls (v :: rest)) := by
  subst h
  exact k
theorem top_int {x y : Int32} (h : x = y) (k : W p l e R s m args below meth c H locs cells slots Q (F0 m pc ls (.int y :: rest))) : W p l e R s m args below meth c H locs cells slots Q (F0 m pc ls (.int x :: rest)) := by
  subst h
  exact k
theorem aldN (hexec : p.tables.exec = Jvm.exec) (hb : c.code = cc) (hK : kw D cI s) (hP : va_P D vwCl w H) (q0 : Nat) {a n : Nat} {f : Nat → Int32} (ha : w[q0]? = some (a, .inl (cI, n, .inl f))) {i : Int32} (k : Nat) (hi : i = nI k) (hk : k < n) (hn : n < 2 ^ 31) (hdg : decode cc pc = .ok (.iaload, 1))
    (kk : W p l e R s m args below meth c H locs cells slots Q (F0 m (pc + 1) ls (.int (f k) :: rest))) : W p l e R s m args below meth c H locs cells slots Q (F0 m pc ls (.int i :: .ref a :: rest)) := by
  subst hi
  refine va_iald hexec hb hK.1 hP q0 0 ha rfl (vp_in_nI hk hn) hdg ?_
  rw [nI_clamp (Nat.lt_trans hk hn)]
  exact kk
theorem astN {H0 : Heap} (hexec : p.tables.exec = Jvm.exec) (hb : c.code = cc) (hK : kw D cI s) (hP : va_P D vwCl w H) (hD : va_D A w) (hS : va_S A H0 H locs) (q0 : Nat) {a n : Nat} {f : Nat → Int32} (ha : w[q0]? = some (a, .inl (cI, n, .inl f))) {i x : Int32} (k : Nat) (hi : i = nI k) (hk : k < n) (hn : n < 2 ^ 31) (hdg : decode cc pc = .ok (.iastore, 1))
    (kk : ∀ (H1 : Heap) (locs1 : List Loc), va_P D vwCl (w.set q0 (a, .inl (cI, n, .inl (upd f k x)))) H1 → va_D A (w.set q0 (a, .inl (cI, n, .inl (upd f k x)))) → va_S A H0 H1 locs1 → W p l e R s m args below meth c H1 locs1 cells slots Q (F0 m (pc + 1) ls rest)) : W p l e R s m args below meth c H locs cells slots Q (F0 m pc ls (.int x :: .int i :: .ref a :: rest)) := by
  subst hi
  refine va_iast hexec hb hK.1 hP hD hS q0 0 ha rfl (vp_in_nI hk hn) hdg ?_
  rw [nI_clamp (Nat.lt_trans hk hn)]
  exact kk
theorem icgeN (hexec : p.tables.exec = Jvm.exec) (hb : c.code = cc) {i n : Nat} {off : Int} {tgt : Nat} (hi : i < 2 ^ 31) (hn : n < 2 ^ 31) (hdg : decode cc pc = .ok (.if_icmp .ge off, 3)) (ht : (pc : Int) + off = (tgt : Int))
    (kt : n ≤ i → W p l e R s m args below meth c H locs cells slots Q (F0 m tgt ls rest)) (kf : i < n → W p l e R s m args below meth c H locs cells slots Q (F0 m (pc + 3) ls rest)) : W p l e R s m args below meth c H locs cells slots Q (F0 m pc ls (.int (nI n) :: .int (nI i) :: rest)) :=
  lv_icmp_ge hexec hb hdg ht (fun h => kt ((nI_leI hn hi).mp h)) (fun h => kf (Nat.not_le.mp (fun q => h ((nI_leI hn hi).mpr q))))
theorem icltN (hexec : p.tables.exec = Jvm.exec) (hb : c.code = cc) {i n : Nat} {off : Int} {tgt : Nat} (hi : i < 2 ^ 31) (hn : n < 2 ^ 31) (hdg : decode cc pc = .ok (.if_icmp .lt off, 3)) (ht : (pc : Int) + off = (tgt : Int))
    (kt : i < n → W p l e R s m args below meth c H locs cells slots Q (F0 m tgt ls rest)) (kf : n ≤ i → W p l e R s m args below meth c H locs cells slots Q (F0 m (pc + 3) ls rest)) : W p l e R s m args below meth c H locs cells slots Q (F0 m pc ls (.int (nI n) :: .int (nI i) :: rest)) :=
  lv_icmp_lt hexec hb hdg ht (fun h => kt ((nI_ltI hi hn).mp h)) (fun h => kf (Nat.not_lt.mp (fun q => h ((nI_ltI hi hn).mpr q))))
end BASE
end
section
/-! the mathematics of the console: numbers and rows of numbers -/
abbrev Mx : Type := Nat → Nat → Int32
def um (g : Mx) (w d : Nat) (x : Int32) : Mx := fun w' => cond (Nat.beq w' w) (upd (g w') d x) (g w')
def un (nu : Nat → Int32) (k : Nat) (x : Int32) : Nat → Int32 := fun j => cond (Nat.beq j k) x (nu j)
def irm (x y : Int32) : Int32 := x - x / y * y
def fmod (x y : Int32) : Int32 := if 0 ≤ x ^^^ y then irm x y else if irm x y = 0 then irm x y else irm x y + y
def tnd (a b : Int32) : Int32 := fmod (a + b) 360
def hasI (n : Nat) (i : Int32) : Int32 := if i < 0 then 0 else if nI n ≤ i then 0 else 1
def wiI (x lo hi : Int32) : Int32 := if x < lo then 0 else if hi < x then 0 else 1
def ap (f t s : Int32) : Int32 := if t ≤ f then imax (f - s) t else imin (f + s) t
def dLv (g : Mx) (i : Nat) : Int32 := ap (g 1 i) (g 2 i) (g 3 i)
def dLf (g : Mx) (i : Nat) : Int32 := imax 0 (g 4 i - dLv g i / 10)
def dSt (g : Mx) (i : Nat) : Mx := um (um g 4 i (dLf g i)) 1 i (if dLf g i = 0 then 0 else dLv g i)
def dGo (g : Mx) : Nat → Mx
  | 0 => g
  | i + 1 => dSt (dGo g i) i
def dkL (lv lf : Nat → Int32) (k : Nat) : Nat → Int32 := if lf k = 0 then upd lv k 0 else lv
def glC (p lv lit s : Int32) : Int32 := if fmod (p - lit) 12 = 0 then s + lv else if fmod (p - lit) 12 = 1 then s + lv / 4 else if fmod (p - lit) 12 = 11 then s + lv / 4 else s
def glS (gp gl : Nat → Int32) (lit : Int32) : Nat → Int32
  | 0 => 0
  | i + 1 => glC (gp i) (gl i) lit (glS gp gl lit i)
def cGs (c : Mx) (i : Nat) : Mx := if c 2 i ≤ 0 then c else um (um c 0 i (tnd (c 0 i) (c 1 i))) 2 i (c 2 i - 1)
def cGo (c : Mx) : Nat → Mx
  | 0 => c
  | i + 1 => cGs (cGo c i) i
def cN (n : Nat) : Nat := if 12 ≤ n then n else n + 1
def cAdd (n : Nat) (c : Mx) (a b : Int32) : Mx := if 12 ≤ n then c else um (um (um c 0 n a) 1 n b) 2 n 20
def fcD (g : Mx) (k : Nat) (w : Int32) : Int32 := if w = 0 then g 0 k else if w = 1 then g 1 k else if w = 2 then g 2 k else if w = 3 then g 3 k else g 4 k
def fcC (g : Mx) (k : Nat) (w : Int32) : Int32 := if w = 0 then g 0 k else if w = 1 then g 1 k else if w = 2 then g 2 k else g 3 k
theorem uu_same {f : Nat → Int32} {k : Nat} {x y : Int32} : upd (upd f k x) k y = upd f k y := by
  funext j
  unfold upd
  by_cases h : j = k <;> simp [h]
theorem dk_eq {f h : Nat → Int32} {k : Nat} {lv lf : Int32} : dkL (upd f k lv) (upd h k lf) k = upd f k (if lf = 0 then 0 else lv) := by
  unfold dkL
  rw [pk_us]
  by_cases e : lf = 0
  · rw [if_pos e, if_pos e, uu_same]
  · rw [if_neg e, if_neg e]
theorem hasI_1 {n k : Nat} (h : k < n) (hn : n < 2 ^ 31) : hasI n (nI k) = 1 := by
  unfold hasI
  rw [if_neg (nI_pos (Nat.lt_trans h hn)), if_neg (nI_ge h hn)]
theorem hasI_c (n : Nat) (i : Int32) : (hasI n i = 1 ∧ ∃ k, k < n ∧ i = nI k) ∨ (hasI n i = 0 ∧ ∀ k, k < n → n < 2 ^ 31 → i ≠ nI k) := by
  by_cases h1 : hasI n i = 1
  · refine Or.inl ⟨h1, ?_⟩
    unfold hasI at h1
    by_cases h2 : i < 0
    · rw [if_pos h2] at h1; exact absurd h1 (by decide)
    · rw [if_neg h2] at h1
      obtain ⟨j, hj, rfl⟩ := nI_of h2
      by_cases h3 : nI n ≤ nI j
      · rw [if_pos h3] at h1; exact absurd h1 (by decide)
      · refine ⟨j, ?_, rfl⟩
        refine Nat.not_le.mp (fun q => h3 ?_)
        exact nI_le q hj
  · refine Or.inr ⟨?_, fun k hk hn e => h1 (by rw [e]; exact hasI_1 hk hn)⟩
    unfold hasI at h1 ⊢
    by_cases h2 : i < 0
    · rw [if_pos h2]
    · rw [if_neg h2] at h1 ⊢
      by_cases h3 : nI n ≤ i
      · rw [if_pos h3]
      · rw [if_neg h3] at h1; exact absurd rfl h1
theorem n_bool {v : Int32} (h : v = 0 ∨ v = 1) : narrow .boolean (.int v) = .int v := by rcases h with rfl | rfl <;> rfl
theorem hasI_b (n : Nat) (i : Int32) : hasI n i = 0 ∨ hasI n i = 1 := (hasI_c n i).elim (fun h => Or.inr h.1) (fun h => Or.inl h.1)
theorem wiI_b (x lo hi : Int32) : wiI x lo hi = 0 ∨ wiI x lo hi = 1 := by
  unfold wiI
  split
  · exact Or.inl rfl
  · split
    · exact Or.inl rfl
    · exact Or.inr rfl
theorem tsw_out {x : Int32} {m : Nat} (h : ∀ k : Nat, k ≤ m → x ≠ Int32.ofNat k) (hm : m < 2 ^ 31) : x.toInt < 0 ∨ (m : Int) < x.toInt := by
  by_cases h0 : x < 0
  · exact Or.inl (by have := Int32.lt_iff_toInt_lt.mp h0; simpa using this)
  · obtain ⟨j, hj, rfl⟩ := nI_of h0
    rw [nI_toInt hj]
    by_cases hjm : j ≤ m
    · exact absurd rfl (h j hjm)
    · exact Or.inr (by omega)
theorem tsw4 {x : Int32} (h0 : ¬ x = 0) (h1 : ¬ x = 1) (h2 : ¬ x = 2) (h3 : ¬ x = 3) : x.toInt < 0 ∨ 3 < x.toInt := tsw_out (m := 3) (fun k hk => by
  rcases (show k = 0 ∨ k = 1 ∨ k = 2 ∨ k = 3 by omega) with rfl | rfl | rfl | rfl
  · exact h0
  · exact h1
  · exact h2
  · exact h3) (by decide)
theorem tsw3 {x : Int32} (h0 : ¬ x = 0) (h1 : ¬ x = 1) (h2 : ¬ x = 2) : x.toInt < 0 ∨ 2 < x.toInt := tsw_out (m := 2) (fun k hk => by
  rcases (show k = 0 ∨ k = 1 ∨ k = 2 by omega) with rfl | rfl | rfl
  · exact h0
  · exact h1
  · exact h2) (by decide)
section ROWN
variable {p : Program} {l : Launch} {e : Env} {R : Room} {s : State} {m : MethodId} {args : Array Value} {below : List Frame} {meth : Method} {c : Code} {H : Heap} {locs : List Loc} {cells slots : Nat} {Q : State → Prop}
variable {cc : ByteArray} {pc : Nat} {ls : Array Slot} {rest : List Value}
theorem icgtN (hexec : p.tables.exec = Jvm.exec) (hb : c.code = cc) {i n : Nat} {off : Int} {tgt : Nat} (hi : i < 2 ^ 31) (hn : n < 2 ^ 31) (hdg : decode cc pc = .ok (.if_icmp .gt off, 3)) (ht : (pc : Int) + off = (tgt : Int))
    (kt : n < i → W p l e R s m args below meth c H locs cells slots Q (F0 m tgt ls rest)) (kf : i ≤ n → W p l e R s m args below meth c H locs cells slots Q (F0 m (pc + 3) ls rest)) : W p l e R s m args below meth c H locs cells slots Q (F0 m pc ls (.int (nI n) :: .int (nI i) :: rest)) :=
  lv_icmp_gt hexec hb hdg ht (fun h => kt ((nI_ltI hn hi).mp h)) (fun h => kf (Nat.not_lt.mp (fun q => h ((nI_ltI hn hi).mpr q))))
theorem iceqN (hexec : p.tables.exec = Jvm.exec) (hb : c.code = cc) {i n : Nat} {off : Int} {tgt : Nat} (hi : i < 2 ^ 31) (hn : n < 2 ^ 31) (hdg : decode cc pc = .ok (.if_icmp .eq off, 3)) (ht : (pc : Int) + off = (tgt : Int))
    (kt : i = n → W p l e R s m args below meth c H locs cells slots Q (F0 m tgt ls rest)) (kf : ¬ i = n → W p l e R s m args below meth c H locs cells slots Q (F0 m (pc + 3) ls rest)) : W p l e R s m args below meth c H locs cells slots Q (F0 m pc ls (.int (nI n) :: .int (nI i) :: rest)) :=
  lv_icmp_eq hexec hb hdg ht (fun h => kt ((nI_eq hi hn).mp h)) (fun h => kf (fun q => h ((nI_eq hi hn).mpr q)))
theorem icneN (hexec : p.tables.exec = Jvm.exec) (hb : c.code = cc) {i n : Nat} {off : Int} {tgt : Nat} (hi : i < 2 ^ 31) (hn : n < 2 ^ 31) (hdg : decode cc pc = .ok (.if_icmp .ne off, 3)) (ht : (pc : Int) + off = (tgt : Int))
    (kt : ¬ i = n → W p l e R s m args below meth c H locs cells slots Q (F0 m tgt ls rest)) (kf : i = n → W p l e R s m args below meth c H locs cells slots Q (F0 m (pc + 3) ls rest)) : W p l e R s m args below meth c H locs cells slots Q (F0 m pc ls (.int (nI n) :: .int (nI i) :: rest)) :=
  lv_icmp_ne hexec hb hdg ht (fun h => kt (fun q => h ((nI_eq hi hn).mpr q))) (fun h => kf ((nI_eq hi hn).mp h))
end ROWN
end
section
/-! a method of java.lang.Math, run by its own code: the body's form for a class that may be overridden -/
theorem ofWF {l : Launch} {y : MethodName} {ws ws' : List Cond} {rm : Room} {Pc : Array Value → State → Prop} {Qc : Array Value → State → Outcome → State → Prop} {mc ms : Nat} {free : Addr → Prop} {cc : ByteArray} {maxL : Nat} {ret : Option FieldType}
    (hy : plainFor y = true) (hw : ws = Cond.code y cc maxL ret :: ws')
    (body : ∀ p e s m args below meth c s₁, BodyLoose p l y (headSpec ws rm) cc maxL ret e s m args below meth c s₁ → c.maxLocals = maxL → Pc args s →
      W p l e (headSpec ws rm).room s m args below meth c s.heap [] 0 0 (MQ below Qc args s mc ms free) (entryFrame m args maxL)) : Met l y ws rm Pc Qc mc ms free := by
  refine MetFree.of_bodySF (code := cc) (maxLocals := maxL) (ret := ret) hy ?_ ?_
  · intro args s m h hn
    obtain ⟨meth, c, h1, h2, h3, h4, h5, h6, -, -⟩ := Cond.code_spec hn (atoms_spec (ws := ws) h _ (by rw [hw]; exact List.mem_cons_self))
    exact ⟨meth, c, h1, h2, h3, h4, h5, h6⟩
  · intro p e s m args below meth c s₁ B hml hP _
    have hh0 : s₁.heap = s.heap := by rw [B.state]; rfl
    obtain ⟨t, a1, o, b1, b2, b3⟩ := body p e s m args below meth c s₁ B hml hP s₁ hh0 (Stand.of_body B)
    exact ⟨t, o, a1, b1, b2, ⟨b3.1, b3.2⟩⟩
section ENTF
variable {l : Launch} {y : MethodName} {ws ws1 : List Cond} {rm : Room} {D : va_G} {cI : ClassId} {av : List Value} {w w' : va_W} {cc : ByteArray} {maxL : Nat} {ret : Option FieldType}
theorem entIF {r : Int32} (hy : plainFor y = true) (hw : ws = Cond.code y cc maxL ret :: ws1) (hlen : (lg_sl av).length ≤ maxL)
    (body : ∀ (p : Program) (e : Env) (s : State) (m : MethodId) (below : List Frame) (meth : Method) (c : Code) (A : Nat → Prop) (ls : Array Slot), FX p s m meth c cc maxL ret av ws y D cI A w → lv_has ls maxL (lv_args 0 av) →
      W p l e rm s m av.toArray below meth c s.heap [] 0 0 (MQ below (poI D A w' r) av.toArray s 0 0 A) (F0 m 0 ls [])) : CI l y ws rm D cI av w r w' := by
  intro sz
  refine ofWF (cc := cc) (maxL := maxL) (ret := ret) hy hw ?_
  intro p e s m args below meth c s₁ B hml hv
  obtain ⟨rfl, hsz, hP, hK, hD0⟩ := hv
  subst hsz
  have hl := lv_entry av hlen
  rw [lg_entry_eq]
  exact body p e s m below meth c (va_A w s.heap.size) _ ⟨B.exec, B.bytes, B.returns, hml, findClass_of_methodNamed B.named, atoms_spec (ws := ws) B.pre, B.notSynchronized, hK, hP, hD0.self (sz := s.heap.size), fun q h => Or.inr h⟩ hl
end ENTF
end
section

theorem hJ9_floorMod_7cf53 : yJ9_floorMod_7cf53.cls = RJ9 ∧ yJ9_floorMod_7cf53.cls ≠ "java/lang/invoke/MethodHandle" ∧ yJ9_floorMod_7cf53.cls ≠ "java/lang/invoke/VarHandle" ∧ (parseMethodDescriptor yJ9_floorMod_7cf53.desc).map (fun d => d.parameters.length) = some 2 := by decide +kernel
set_option maxHeartbeats 4000000 in
set_option maxRecDepth 100000 in
theorem tJ9_floorMod_7cf53 (l : Launch) (D : va_G) (cI : ClassId) (x y : Int32) (hy : ¬ y = 0) : CI l yJ9_floorMod_7cf53 wsJ9_floorMod_7cf53 ({ frames := 0, cells := 0, slots := 0, locals := 0 } : Room) D cI ([.int x, .int y] : List Value) [] (fmod x y) [] := by
  refine entIF (cc := cJ9_floorMod_7cf53) (maxL := 3) (ret := (some .int)) (by decide +kernel) rfl (Nat.le_of_ble_eq_true rfl) (fun p e s m below meth c A ls fx hl => ?_)
  obtain ⟨hx, hb, hr, hml, hown, hts, hlocks, hk, hP, hD, hA⟩ := fx
  have hown : s.vm.findClass RJ9 = some m.cls := hown
  have hS : va_S A s.heap s.heap [] := va_S.rf
  have hP : va_P D vwCl [] s.heap := hP
  have hD : va_D A [] := hD
  have hl : lv_has ls 3 [(0, .int x), (1, .int y)] := hl
  refine lv_iload_n hx hb dJ9_floorMod_7cf53_0 rfl (lv_at hl 0 rfl) ?_
  refine lv_iload_n hx hb dJ9_floorMod_7cf53_1 rfl (lv_at hl 1 rfl) ?_
  refine lv_irem hx hb dJ9_floorMod_7cf53_2 hy ?_
  refine top_int (show _ = irm x y from rfl) ?_
  refine lv_istore_n (lv' := [(2, .int (irm x y)), (0, .int x), (1, .int y)]) hx hb dJ9_floorMod_7cf53_3 rfl hl (by decide) rfl (fun ls hl => ?_)
  refine lv_iload_n hx hb dJ9_floorMod_7cf53_4 rfl (lv_at hl 1 rfl) ?_
  refine lv_iload_n hx hb dJ9_floorMod_7cf53_5 rfl (lv_at hl 2 rfl) ?_
  refine lv_ixor hx hb dJ9_floorMod_7cf53_6 ?_
  refine lv_if_ge (tgt := 18) hx hb dJ9_floorMod_7cf53_7 (by decide) (fun c7 => ?_) (fun c7 => ?_)
  · refine lv_iload_n hx hb dJ9_floorMod_7cf53_18 rfl (lv_at hl 0 rfl) ?_
    exact retI hx hb hr hlocks hS hP hD dJ9_floorMod_7cf53_19 (by rw [fmod, if_pos c7]) rfl
  · refine lv_iload_n hx hb dJ9_floorMod_7cf53_10 rfl (lv_at hl 0 rfl) ?_
    refine lv_if_eq (tgt := 18) hx hb dJ9_floorMod_7cf53_11 (by decide) (fun c11 => ?_) (fun c11 => ?_)
    · refine lv_iload_n hx hb dJ9_floorMod_7cf53_18 rfl (lv_at hl 0 rfl) ?_
      exact retI hx hb hr hlocks hS hP hD dJ9_floorMod_7cf53_19 (by rw [fmod, if_neg c7, if_pos c11]) rfl
    · refine lv_iload_n hx hb dJ9_floorMod_7cf53_14 rfl (lv_at hl 0 rfl) ?_
      refine lv_iload_n hx hb dJ9_floorMod_7cf53_15 rfl (lv_at hl 2 rfl) ?_
      refine lv_iadd hx hb dJ9_floorMod_7cf53_16 ?_
      exact retI hx hb hr hlocks hS hP hD dJ9_floorMod_7cf53_17 (by rw [fmod, if_neg c7, if_neg c11]) rfl


theorem hX5_turned : yX5_turned.cls = RX5 ∧ yX5_turned.cls ≠ "java/lang/invoke/MethodHandle" ∧ yX5_turned.cls ≠ "java/lang/invoke/VarHandle" ∧ (parseMethodDescriptor yX5_turned.desc).map (fun d => d.parameters.length) = some 2 := by decide +kernel
set_option maxHeartbeats 4000000 in
set_option maxRecDepth 100000 in
theorem tX5_turned (l : Launch) (D : va_G) (cI : ClassId) (a b : Int32)  : CI l yX5_turned wsX5_turned ({ frames := 1, cells := 0, slots := 0, locals := 22 } : Room) D cI ([.int a, .int b] : List Value) [] (tnd a b) [] := by
  refine entI (cc := cX5_turned) (maxL := 2) (ret := (some .int)) (by decide) rfl (Nat.le_of_ble_eq_true rfl) (fun p e s m below meth c A ls fx hl => ?_)
  obtain ⟨hx, hb, hr, hml, hown, hts, hlocks, hk, hP, hD, hA⟩ := fx
  have hown : s.vm.findClass RX5 = some m.cls := hown
  have hS : va_S A s.heap s.heap [] := va_S.rf
  have hP : va_P D vwCl [] s.heap := hP
  have hD : va_D A [] := hD
  have hl : lv_has ls 2 [(0, .int a), (1, .int b)] := hl
  refine lv_iload_n hx hb dX5_turned_0 rfl (lv_at hl 0 rfl) ?_
  refine lv_iload_n hx hb dX5_turned_1 rfl (lv_at hl 1 rfl) ?_
  refine lv_iadd hx hb dX5_turned_2 ?_
  refine lv_sipush (v := 360) hx hb dX5_turned_3 (by decide) ?_
  refine frI (wc := []) (wc' := []) (w' := []) hP hD hS hA [] [] [] rfl rfl rfl rfl rfl (va_runS (As := [.int (a + b), .int 360]) (rest := []) ⟨hx, hb, hml, hown, hts⟩ (tJ9_floorMod_7cf53 l D cI (a + b) 360 (by decide) _) (va_cwS 2 hts gX5_turned_J9_floorMod_7cf53 rfl rfl rfl hJ9_floorMod_7cf53.2 ⟨Nat.le_of_ble_eq_true rfl, Nat.le_of_ble_eq_true rfl⟩) (preS_of hk hP hD [] rfl rfl) rfl rfl hl.1 rfl (lv_room (Nat.le_of_ble_eq_true rfl)) dX5_turned_6 ⟨Nat.le_of_ble_eq_true rfl, Nat.le_of_ble_eq_true rfl⟩) (fun H locs hP hD hS => ?_)
  exact retI hx hb hr hlocks hS hP hD dX5_turned_9 (rfl) rfl


theorem hX5_within : yX5_within.cls = RX5 ∧ yX5_within.cls ≠ "java/lang/invoke/MethodHandle" ∧ yX5_within.cls ≠ "java/lang/invoke/VarHandle" ∧ (parseMethodDescriptor yX5_within.desc).map (fun d => d.parameters.length) = some 3 := by decide +kernel
set_option maxHeartbeats 4000000 in
set_option maxRecDepth 100000 in
theorem tX5_within (l : Launch) (D : va_G) (cI : ClassId) (x lo hi : Int32)  : CI l yX5_within wsX5_within ({ frames := 0, cells := 0, slots := 0, locals := 0 } : Room) D cI ([.int x, .int lo, .int hi] : List Value) [] (wiI x lo hi) [] := by
  refine entI (cc := cX5_within) (maxL := 3) (ret := (some .boolean)) (by decide) rfl (Nat.le_of_ble_eq_true rfl) (fun p e s m below meth c A ls fx hl => ?_)
  obtain ⟨hx, hb, hr, hml, hown, hts, hlocks, hk, hP, hD, hA⟩ := fx
  have hown : s.vm.findClass RX5 = some m.cls := hown
  have hS : va_S A s.heap s.heap [] := va_S.rf
  have hP : va_P D vwCl [] s.heap := hP
  have hD : va_D A [] := hD
  have hl : lv_has ls 3 [(0, .int x), (1, .int lo), (2, .int hi)] := hl
  refine lv_iload_n hx hb dX5_within_0 rfl (lv_at hl 0 rfl) ?_
  refine lv_iload_n hx hb dX5_within_1 rfl (lv_at hl 1 rfl) ?_
  refine lv_icmp_lt (tgt := 14) hx hb dX5_within_2 (by decide) (fun c2 => ?_) (fun c2 => ?_)
  · refine lv_iconst (v := 0) hx hb dX5_within_14 (by decide) ?_
    exact retI hx hb hr hlocks hS hP hD dX5_within_15 (by rw [wiI, if_pos c2]) rfl
  · refine lv_iload_n hx hb dX5_within_5 rfl (lv_at hl 0 rfl) ?_
    refine lv_iload_n hx hb dX5_within_6 rfl (lv_at hl 2 rfl) ?_
    refine lv_icmp_gt (tgt := 14) hx hb dX5_within_7 (by decide) (fun c7 => ?_) (fun c7 => ?_)
    · refine lv_iconst (v := 0) hx hb dX5_within_14 (by decide) ?_
      exact retI hx hb hr hlocks hS hP hD dX5_within_15 (by rw [wiI, if_neg c2, if_pos c7]) rfl
    · refine lv_iconst (v := 1) hx hb dX5_within_10 (by decide) ?_
      refine lv_goto (tgt := 15) hx hb dX5_within_11 (by decide) ?_
      exact retI hx hb hr hlocks hS hP hD dX5_within_15 (by rw [wiI, if_neg c2, if_neg c7]) rfl

theorem mX0_has_f21 : (.fieldLink RX0 21 "StarConsole$Comets" "size" "I" : Cond) ∈ wsX0_has := by decide +kernel
theorem iX0_has_X0 : ∀ w ∈ wsX00, w ∈ wsX0_has := by decide +kernel
theorem hX0_has : yX0_has.cls = RX0 ∧ yX0_has.cls ≠ "java/lang/invoke/MethodHandle" ∧ yX0_has.cls ≠ "java/lang/invoke/VarHandle" ∧ (parseMethodDescriptor yX0_has.desc).map (fun d => d.parameters.length) = some 1 := by decide +kernel
set_option maxHeartbeats 4000000 in
set_option maxRecDepth 100000 in
theorem tX0_has (l : Launch) (D : va_G) (cI : ClassId) (k0 k1 k2 k3 n : Nat) (i : Int32) (hn : n ≤ 12) : CI l yX0_has wsX0_has ({ frames := 0, cells := 0, slots := 0, locals := 0 } : Room) D cI ([.ref k0, .int i] : List Value) [(k0, .inr (0, [.int (nI n), .ref k1, .ref k2, .ref k3]))] (hasI n i) [(k0, .inr (0, [.int (nI n), .ref k1, .ref k2, .ref k3]))] := by
  refine entI (cc := cX0_has) (maxL := 2) (ret := (some .boolean)) (by decide) rfl (Nat.le_of_ble_eq_true rfl) (fun p e s m below meth c A ls fx hl => ?_)
  obtain ⟨hx, hb, hr, hml, hown, hts, hlocks, hk, hP, hD, hA⟩ := fx
  have hown : s.vm.findClass RX0 = some m.cls := hown
  have hS : va_S A s.heap s.heap [] := va_S.rf
  have hP : va_P D vwCl [(k0, .inr (0, [.int (nI n), .ref k1, .ref k2, .ref k3]))] s.heap := hP
  have hD : va_D A [(k0, .inr (0, [.int (nI n), .ref k1, .ref k2, .ref k3]))] := hD
  have hl : lv_has ls 2 [(0, .ref k0), (1, .int i)] := hl
  refine lv_iload_n hx hb dX0_has_0 rfl (lv_at hl 1 rfl) ?_
  refine lv_if_lt (tgt := 16) hx hb dX0_has_1 (by decide) (fun c1 => ?_) (fun c1 => ?_)
  · refine lv_iconst (v := 0) hx hb dX0_has_16 (by decide) ?_
    exact retI hx hb hr hlocks hS hP hD dX0_has_17 (by rw [hasI, if_pos c1]) rfl
  · refine lv_iload_n hx hb dX0_has_4 rfl (lv_at hl 1 rfl) ?_
    refine lv_aload_n hx hb dX0_has_5 rfl (lv_at hl 0 rfl) ?_
    refine va_get (D := D) (ci := 0) (v := .int (nI n)) (C := RX0) (T := TX0) (N := 4) hx hb hts iX0_has_X0 hown hk.1 hP 0 rfl rfl 0 (by decide) (hts _ mX0_has_f21) (fun _ h9 => h9) rfl dX0_has_6 ?_
    refine lv_icmp_ge (tgt := 16) hx hb dX0_has_9 (by decide) (fun c9 => ?_) (fun c9 => ?_)
    · refine lv_iconst (v := 0) hx hb dX0_has_16 (by decide) ?_
      exact retI hx hb hr hlocks hS hP hD dX0_has_17 (by rw [hasI, if_neg c1, if_pos c9]) rfl
    · refine lv_iconst (v := 1) hx hb dX0_has_12 (by decide) ?_
      refine lv_goto (tgt := 17) hx hb dX0_has_13 (by decide) ?_
      exact retI hx hb hr hlocks hS hP hD dX0_has_17 (by rw [hasI, if_neg c1, if_neg c9]) rfl

theorem mX1_has_f24 : (.fieldLink RX1 24 "StarConsole$Cues" "size" "I" : Cond) ∈ wsX1_has := by decide +kernel
theorem iX1_has_X1 : ∀ w ∈ wsX10, w ∈ wsX1_has := by decide +kernel
theorem hX1_has : yX1_has.cls = RX1 ∧ yX1_has.cls ≠ "java/lang/invoke/MethodHandle" ∧ yX1_has.cls ≠ "java/lang/invoke/VarHandle" ∧ (parseMethodDescriptor yX1_has.desc).map (fun d => d.parameters.length) = some 1 := by decide +kernel
set_option maxHeartbeats 4000000 in
set_option maxRecDepth 100000 in
theorem tX1_has (l : Launch) (D : va_G) (cI : ClassId) (u0 u1 u2 u3 u4 n : Nat) (i : Int32) (hn : n ≤ 24) : CI l yX1_has wsX1_has ({ frames := 0, cells := 0, slots := 0, locals := 0 } : Room) D cI ([.ref u0, .int i] : List Value) [(u0, .inr (1, [.int (nI n), .ref u1, .ref u2, .ref u3, .ref u4]))] (hasI n i) [(u0, .inr (1, [.int (nI n), .ref u1, .ref u2, .ref u3, .ref u4]))] := by
  refine entI (cc := cX1_has) (maxL := 2) (ret := (some .boolean)) (by decide) rfl (Nat.le_of_ble_eq_true rfl) (fun p e s m below meth c A ls fx hl => ?_)
  obtain ⟨hx, hb, hr, hml, hown, hts, hlocks, hk, hP, hD, hA⟩ := fx
  have hown : s.vm.findClass RX1 = some m.cls := hown
  have hS : va_S A s.heap s.heap [] := va_S.rf
  have hP : va_P D vwCl [(u0, .inr (1, [.int (nI n), .ref u1, .ref u2, .ref u3, .ref u4]))] s.heap := hP
  have hD : va_D A [(u0, .inr (1, [.int (nI n), .ref u1, .ref u2, .ref u3, .ref u4]))] := hD
  have hl : lv_has ls 2 [(0, .ref u0), (1, .int i)] := hl
  refine lv_iload_n hx hb dX1_has_0 rfl (lv_at hl 1 rfl) ?_
  refine lv_if_lt (tgt := 16) hx hb dX1_has_1 (by decide) (fun c1 => ?_) (fun c1 => ?_)
  · refine lv_iconst (v := 0) hx hb dX1_has_16 (by decide) ?_
    exact retI hx hb hr hlocks hS hP hD dX1_has_17 (by rw [hasI, if_pos c1]) rfl
  · refine lv_iload_n hx hb dX1_has_4 rfl (lv_at hl 1 rfl) ?_
    refine lv_aload_n hx hb dX1_has_5 rfl (lv_at hl 0 rfl) ?_
    refine va_get (D := D) (ci := 1) (v := .int (nI n)) (C := RX1) (T := TX1) (N := 5) hx hb hts iX1_has_X1 hown hk.1 hP 0 rfl rfl 0 (by decide) (hts _ mX1_has_f24) (fun _ h9 => h9) rfl dX1_has_6 ?_
    refine lv_icmp_ge (tgt := 16) hx hb dX1_has_9 (by decide) (fun c9 => ?_) (fun c9 => ?_)
    · refine lv_iconst (v := 0) hx hb dX1_has_16 (by decide) ?_
      exact retI hx hb hr hlocks hS hP hD dX1_has_17 (by rw [hasI, if_neg c1, if_pos c9]) rfl
    · refine lv_iconst (v := 1) hx hb dX1_has_12 (by decide) ?_
      refine lv_goto (tgt := 17) hx hb dX1_has_13 (by decide) ?_
      exact retI hx hb hr hlocks hS hP hD dX1_has_17 (by rw [hasI, if_neg c1, if_neg c9]) rfl

theorem mX2_has_f27 : (.fieldLink RX2 27 "StarConsole$Dimmers" "size" "I" : Cond) ∈ wsX2_has := by decide +kernel
theorem iX2_has_X2 : ∀ w ∈ wsX20, w ∈ wsX2_has := by decide +kernel
theorem hX2_has : yX2_has.cls = RX2 ∧ yX2_has.cls ≠ "java/lang/invoke/MethodHandle" ∧ yX2_has.cls ≠ "java/lang/invoke/VarHandle" ∧ (parseMethodDescriptor yX2_has.desc).map (fun d => d.parameters.length) = some 1 := by decide +kernel
set_option maxHeartbeats 4000000 in
set_option maxRecDepth 100000 in
theorem tX2_has (l : Launch) (D : va_G) (cI : ClassId) (d0 d1 d2 d3 d4 d5 n : Nat) (i : Int32) (hn : n ≤ 8) : CI l yX2_has wsX2_has ({ frames := 0, cells := 0, slots := 0, locals := 0 } : Room) D cI ([.ref d0, .int i] : List Value) [(d0, .inr (2, [.int (nI n), .ref d1, .ref d2, .ref d3, .ref d4, .ref d5]))] (hasI n i) [(d0, .inr (2, [.int (nI n), .ref d1, .ref d2, .ref d3, .ref d4, .ref d5]))] := by
  refine entI (cc := cX2_has) (maxL := 2) (ret := (some .boolean)) (by decide) rfl (Nat.le_of_ble_eq_true rfl) (fun p e s m below meth c A ls fx hl => ?_)
  obtain ⟨hx, hb, hr, hml, hown, hts, hlocks, hk, hP, hD, hA⟩ := fx
  have hown : s.vm.findClass RX2 = some m.cls := hown
  have hS : va_S A s.heap s.heap [] := va_S.rf
  have hP : va_P D vwCl [(d0, .inr (2, [.int (nI n), .ref d1, .ref d2, .ref d3, .ref d4, .ref d5]))] s.heap := hP
  have hD : va_D A [(d0, .inr (2, [.int (nI n), .ref d1, .ref d2, .ref d3, .ref d4, .ref d5]))] := hD
  have hl : lv_has ls 2 [(0, .ref d0), (1, .int i)] := hl
  refine lv_iload_n hx hb dX2_has_0 rfl (lv_at hl 1 rfl) ?_
  refine lv_if_lt (tgt := 16) hx hb dX2_has_1 (by decide) (fun c1 => ?_) (fun c1 => ?_)
  · refine lv_iconst (v := 0) hx hb dX2_has_16 (by decide) ?_
    exact retI hx hb hr hlocks hS hP hD dX2_has_17 (by rw [hasI, if_pos c1]) rfl
  · refine lv_iload_n hx hb dX2_has_4 rfl (lv_at hl 1 rfl) ?_
    refine lv_aload_n hx hb dX2_has_5 rfl (lv_at hl 0 rfl) ?_
    refine va_get (D := D) (ci := 2) (v := .int (nI n)) (C := RX2) (T := TX2) (N := 6) hx hb hts iX2_has_X2 hown hk.1 hP 0 rfl rfl 0 (by decide) (hts _ mX2_has_f27) (fun _ h9 => h9) rfl dX2_has_6 ?_
    refine lv_icmp_ge (tgt := 16) hx hb dX2_has_9 (by decide) (fun c9 => ?_) (fun c9 => ?_)
    · refine lv_iconst (v := 0) hx hb dX2_has_16 (by decide) ?_
      exact retI hx hb hr hlocks hS hP hD dX2_has_17 (by rw [hasI, if_neg c1, if_pos c9]) rfl
    · refine lv_iconst (v := 1) hx hb dX2_has_12 (by decide) ?_
      refine lv_goto (tgt := 17) hx hb dX2_has_13 (by decide) ?_
      exact retI hx hb hr hlocks hS hP hD dX2_has_17 (by rw [hasI, if_neg c1, if_neg c9]) rfl

theorem mX4_has_f18 : (.fieldLink RX4 18 "StarConsole$Stars" "size" "I" : Cond) ∈ wsX4_has := by decide +kernel
theorem iX4_has_X4 : ∀ w ∈ wsX40, w ∈ wsX4_has := by decide +kernel
theorem hX4_has : yX4_has.cls = RX4 ∧ yX4_has.cls ≠ "java/lang/invoke/MethodHandle" ∧ yX4_has.cls ≠ "java/lang/invoke/VarHandle" ∧ (parseMethodDescriptor yX4_has.desc).map (fun d => d.parameters.length) = some 1 := by decide +kernel
set_option maxHeartbeats 4000000 in
set_option maxRecDepth 100000 in
theorem tX4_has (l : Launch) (D : va_G) (cI : ClassId) (t0 t1 t2 n : Nat) (i : Int32) (hn : n ≤ 20) : CI l yX4_has wsX4_has ({ frames := 0, cells := 0, slots := 0, locals := 0 } : Room) D cI ([.ref t0, .int i] : List Value) [(t0, .inr (4, [.int (nI n), .ref t1, .ref t2]))] (hasI n i) [(t0, .inr (4, [.int (nI n), .ref t1, .ref t2]))] := by
  refine entI (cc := cX4_has) (maxL := 2) (ret := (some .boolean)) (by decide) rfl (Nat.le_of_ble_eq_true rfl) (fun p e s m below meth c A ls fx hl => ?_)
  obtain ⟨hx, hb, hr, hml, hown, hts, hlocks, hk, hP, hD, hA⟩ := fx
  have hown : s.vm.findClass RX4 = some m.cls := hown
  have hS : va_S A s.heap s.heap [] := va_S.rf
  have hP : va_P D vwCl [(t0, .inr (4, [.int (nI n), .ref t1, .ref t2]))] s.heap := hP
  have hD : va_D A [(t0, .inr (4, [.int (nI n), .ref t1, .ref t2]))] := hD
  have hl : lv_has ls 2 [(0, .ref t0), (1, .int i)] := hl
  refine lv_iload_n hx hb dX4_has_0 rfl (lv_at hl 1 rfl) ?_
  refine lv_if_lt (tgt := 16) hx hb dX4_has_1 (by decide) (fun c1 => ?_) (fun c1 => ?_)
  · refine lv_iconst (v := 0) hx hb dX4_has_16 (by decide) ?_
    exact retI hx hb hr hlocks hS hP hD dX4_has_17 (by rw [hasI, if_pos c1]) rfl
  · refine lv_iload_n hx hb dX4_has_4 rfl (lv_at hl 1 rfl) ?_
    refine lv_aload_n hx hb dX4_has_5 rfl (lv_at hl 0 rfl) ?_
    refine va_get (D := D) (ci := 4) (v := .int (nI n)) (C := RX4) (T := TX4) (N := 3) hx hb hts iX4_has_X4 hown hk.1 hP 0 rfl rfl 0 (by decide) (hts _ mX4_has_f18) (fun _ h9 => h9) rfl dX4_has_6 ?_
    refine lv_icmp_ge (tgt := 16) hx hb dX4_has_9 (by decide) (fun c9 => ?_) (fun c9 => ?_)
    · refine lv_iconst (v := 0) hx hb dX4_has_16 (by decide) ?_
      exact retI hx hb hr hlocks hS hP hD dX4_has_17 (by rw [hasI, if_neg c1, if_pos c9]) rfl
    · refine lv_iconst (v := 1) hx hb dX4_has_12 (by decide) ?_
      refine lv_goto (tgt := 17) hx hb dX4_has_13 (by decide) ?_
      exact retI hx hb hr hlocks hS hP hD dX4_has_17 (by rw [hasI, if_neg c1, if_neg c9]) rfl

theorem mX0_addIfRoom_f21 : (.fieldLink RX0 21 "StarConsole$Comets" "size" "I" : Cond) ∈ wsX0_addIfRoom := by decide +kernel
theorem iX0_addIfRoom_X0 : ∀ w ∈ wsX00, w ∈ wsX0_addIfRoom := by decide +kernel
theorem mX0_addIfRoom_f9 : (.fieldLink RX0 9 "StarConsole$Comets" "angle" "[I" : Cond) ∈ wsX0_addIfRoom := by decide +kernel
theorem mX0_addIfRoom_f15 : (.fieldLink RX0 15 "StarConsole$Comets" "speed" "[I" : Cond) ∈ wsX0_addIfRoom := by decide +kernel
theorem mX0_addIfRoom_f18 : (.fieldLink RX0 18 "StarConsole$Comets" "left" "[I" : Cond) ∈ wsX0_addIfRoom := by decide +kernel
theorem hX0_addIfRoom : yX0_addIfRoom.cls = RX0 ∧ yX0_addIfRoom.cls ≠ "java/lang/invoke/MethodHandle" ∧ yX0_addIfRoom.cls ≠ "java/lang/invoke/VarHandle" ∧ (parseMethodDescriptor yX0_addIfRoom.desc).map (fun d => d.parameters.length) = some 2 := by decide +kernel
set_option maxHeartbeats 4000000 in
set_option maxRecDepth 100000 in
theorem tX0_addIfRoom (l : Launch) (D : va_G) (cI : ClassId) (k0 k1 k2 k3 n : Nat) (f : Mx) (a b : Int32) (hn : n ≤ 12) : CV l yX0_addIfRoom wsX0_addIfRoom ({ frames := 0, cells := 0, slots := 0, locals := 0 } : Room) D cI ([.ref k0, .int a, .int b] : List Value) [(k0, .inr (0, [.int (nI n), .ref k1, .ref k2, .ref k3])), (k1, .inl (cI, 12, .inl (f 0))), (k2, .inl (cI, 12, .inl (f 1))), (k3, .inl (cI, 12, .inl (f 2)))] [(k0, .inr (0, [.int (nI (cN n)), .ref k1, .ref k2, .ref k3])), (k1, .inl (cI, 12, .inl ((cAdd n f a b) 0))), (k2, .inl (cI, 12, .inl ((cAdd n f a b) 1))), (k3, .inl (cI, 12, .inl ((cAdd n f a b) 2)))] := by
  refine entV (cc := cX0_addIfRoom) (maxL := 4) (ret := none) (by decide) rfl (Nat.le_of_ble_eq_true rfl) (fun p e s m below meth c A ls fx hl => ?_)
  obtain ⟨hx, hb, hr, hml, hown, hts, hlocks, hk, hP, hD, hA⟩ := fx
  have hown : s.vm.findClass RX0 = some m.cls := hown
  have hS : va_S A s.heap s.heap [] := va_S.rf
  have hP : va_P D vwCl [(k0, .inr (0, [.int (nI n), .ref k1, .ref k2, .ref k3])), (k1, .inl (cI, 12, .inl (f 0))), (k2, .inl (cI, 12, .inl (f 1))), (k3, .inl (cI, 12, .inl (f 2)))] s.heap := hP
  have hD : va_D A [(k0, .inr (0, [.int (nI n), .ref k1, .ref k2, .ref k3])), (k1, .inl (cI, 12, .inl (f 0))), (k2, .inl (cI, 12, .inl (f 1))), (k3, .inl (cI, 12, .inl (f 2)))] := hD
  have hl : lv_has ls 4 [(0, .ref k0), (1, .int a), (2, .int b)] := hl
  refine lv_aload_n hx hb dX0_addIfRoom_0 rfl (lv_at hl 0 rfl) ?_
  refine va_get (D := D) (ci := 0) (v := .int (nI n)) (C := RX0) (T := TX0) (N := 4) hx hb hts iX0_addIfRoom_X0 hown hk.1 hP 0 rfl rfl 0 (by decide) (hts _ mX0_addIfRoom_f21) (fun _ h9 => h9) rfl dX0_addIfRoom_1 ?_
  refine lv_bipush (v := 12) hx hb dX0_addIfRoom_4 (by decide) ?_
  refine icltN (i := n) (n := 12) (tgt := 10) hx hb (by omega) (by omega) dX0_addIfRoom_6 (by decide) (fun c6 => ?_) (fun c6 => ?_)
  · refine lv_aload_n hx hb dX0_addIfRoom_10 rfl (lv_at hl 0 rfl) ?_
    refine va_get (D := D) (ci := 0) (v := .int (nI n)) (C := RX0) (T := TX0) (N := 4) hx hb hts iX0_addIfRoom_X0 hown hk.1 hP 0 rfl rfl 0 (by decide) (hts _ mX0_addIfRoom_f21) (fun _ h9 => h9) rfl dX0_addIfRoom_11 ?_
    refine lv_istore_n (lv' := [(3, .int (nI n)), (0, .ref k0), (1, .int a), (2, .int b)]) hx hb dX0_addIfRoom_14 rfl hl (by decide) rfl (fun ls hl => ?_)
    refine lv_aload_n hx hb dX0_addIfRoom_15 rfl (lv_at hl 1 rfl) ?_
    refine va_get (D := D) (ci := 0) (v := .ref k1) (C := RX0) (T := TX0) (N := 4) hx hb hts iX0_addIfRoom_X0 hown hk.1 hP 0 rfl rfl 1 (by decide) (hts _ mX0_addIfRoom_f9) (fun _ h9 => h9) rfl dX0_addIfRoom_16 ?_
    refine lv_iload_n hx hb dX0_addIfRoom_19 rfl (lv_at hl 0 rfl) ?_
    refine lv_iload_n hx hb dX0_addIfRoom_20 rfl (lv_at hl 2 rfl) ?_
    refine astN hx hb hk hP hD hS 1 rfl n rfl (by omega) (Nat.le_of_ble_eq_true rfl) dX0_addIfRoom_21 (fun H locs hP hD hS => ?_)
    have hP : va_P D vwCl [(k0, .inr (0, [.int (nI n), .ref k1, .ref k2, .ref k3])), (k1, .inl (cI, 12, .inl (upd (f 0) n a))), (k2, .inl (cI, 12, .inl (f 1))), (k3, .inl (cI, 12, .inl (f 2)))] H := hP
    have hD : va_D A [(k0, .inr (0, [.int (nI n), .ref k1, .ref k2, .ref k3])), (k1, .inl (cI, 12, .inl (upd (f 0) n a))), (k2, .inl (cI, 12, .inl (f 1))), (k3, .inl (cI, 12, .inl (f 2)))] := hD
    refine lv_aload_n hx hb dX0_addIfRoom_22 rfl (lv_at hl 1 rfl) ?_
    refine va_get (D := D) (ci := 0) (v := .ref k2) (C := RX0) (T := TX0) (N := 4) hx hb hts iX0_addIfRoom_X0 hown hk.1 hP 0 rfl rfl 2 (by decide) (hts _ mX0_addIfRoom_f15) (fun _ h9 => h9) rfl dX0_addIfRoom_23 ?_
    refine lv_iload_n hx hb dX0_addIfRoom_26 rfl (lv_at hl 0 rfl) ?_
    refine lv_iload_n hx hb dX0_addIfRoom_27 rfl (lv_at hl 3 rfl) ?_
    refine astN hx hb hk hP hD hS 2 rfl n rfl (by omega) (Nat.le_of_ble_eq_true rfl) dX0_addIfRoom_28 (fun H locs hP hD hS => ?_)
    have hP : va_P D vwCl [(k0, .inr (0, [.int (nI n), .ref k1, .ref k2, .ref k3])), (k1, .inl (cI, 12, .inl (upd (f 0) n a))), (k2, .inl (cI, 12, .inl (upd (f 1) n b))), (k3, .inl (cI, 12, .inl (f 2)))] H := hP
    have hD : va_D A [(k0, .inr (0, [.int (nI n), .ref k1, .ref k2, .ref k3])), (k1, .inl (cI, 12, .inl (upd (f 0) n a))), (k2, .inl (cI, 12, .inl (upd (f 1) n b))), (k3, .inl (cI, 12, .inl (f 2)))] := hD
    refine lv_aload_n hx hb dX0_addIfRoom_29 rfl (lv_at hl 1 rfl) ?_
    refine va_get (D := D) (ci := 0) (v := .ref k3) (C := RX0) (T := TX0) (N := 4) hx hb hts iX0_addIfRoom_X0 hown hk.1 hP 0 rfl rfl 3 (by decide) (hts _ mX0_addIfRoom_f18) (fun _ h9 => h9) rfl dX0_addIfRoom_30 ?_
    refine lv_iload_n hx hb dX0_addIfRoom_33 rfl (lv_at hl 0 rfl) ?_
    refine lv_bipush (v := 20) hx hb dX0_addIfRoom_34 (by decide) ?_
    refine astN hx hb hk hP hD hS 3 rfl n rfl (by omega) (Nat.le_of_ble_eq_true rfl) dX0_addIfRoom_36 (fun H locs hP hD hS => ?_)
    have hP : va_P D vwCl [(k0, .inr (0, [.int (nI n), .ref k1, .ref k2, .ref k3])), (k1, .inl (cI, 12, .inl (upd (f 0) n a))), (k2, .inl (cI, 12, .inl (upd (f 1) n b))), (k3, .inl (cI, 12, .inl (upd (f 2) n 20)))] H := hP
    have hD : va_D A [(k0, .inr (0, [.int (nI n), .ref k1, .ref k2, .ref k3])), (k1, .inl (cI, 12, .inl (upd (f 0) n a))), (k2, .inl (cI, 12, .inl (upd (f 1) n b))), (k3, .inl (cI, 12, .inl (upd (f 2) n 20)))] := hD
    refine lv_aload_n hx hb dX0_addIfRoom_37 rfl (lv_at hl 1 rfl) ?_
    refine lv_iload_n hx hb dX0_addIfRoom_38 rfl (lv_at hl 0 rfl) ?_
    refine lv_iconst (v := 1) hx hb dX0_addIfRoom_39 (by decide) ?_
    refine lv_iadd hx hb dX0_addIfRoom_40 ?_
    refine top_int (naddE (a := n) (b := 1) rfl rfl) ?_
    refine va_put (D := D) (ci := 0) (v := .int (nI (n + 1))) (ty := .int) (C := RX0) (T := TX0) (N := 4) hx hb hts iX0_addIfRoom_X0 tyX0 tyX0_ok nmX0 hown hk.1 hP hD hS 0 rfl rfl 0 (by decide) (hts _ mX0_addIfRoom_f21) (fun _ h9 => h9) rfl (by decide +kernel) rfl rfl (Nat.le_of_ble_eq_true rfl) dX0_addIfRoom_41 (fun H locs hP hD hS => ?_)
    have hP : va_P D vwCl [(k0, .inr (0, [.int (nI (n + 1)), .ref k1, .ref k2, .ref k3])), (k1, .inl (cI, 12, .inl (upd (f 0) n a))), (k2, .inl (cI, 12, .inl (upd (f 1) n b))), (k3, .inl (cI, 12, .inl (upd (f 2) n 20)))] H := hP
    have hD : va_D A [(k0, .inr (0, [.int (nI (n + 1)), .ref k1, .ref k2, .ref k3])), (k1, .inl (cI, 12, .inl (upd (f 0) n a))), (k2, .inl (cI, 12, .inl (upd (f 1) n b))), (k3, .inl (cI, 12, .inl (upd (f 2) n 20)))] := hD
    rw [show cN n = n + 1 from if_neg (Nat.not_le.mpr c6), show cAdd n f a b = um (um (um f 0 n a) 1 n b) 2 n 20 from if_neg (Nat.not_le.mpr c6)]
    exact retV hx hb hr hlocks hS hP hD dX0_addIfRoom_44
  · rw [show cN n = n from if_pos c6, show cAdd n f a b = f from if_pos c6]
    exact retV hx hb hr hlocks hS hP hD dX0_addIfRoom_9

theorem mX0_goOn_f21 : (.fieldLink RX0 21 "StarConsole$Comets" "size" "I" : Cond) ∈ wsX0_goOn := by decide +kernel
theorem iX0_goOn_X0 : ∀ w ∈ wsX00, w ∈ wsX0_goOn := by decide +kernel
theorem mX0_goOn_f18 : (.fieldLink RX0 18 "StarConsole$Comets" "left" "[I" : Cond) ∈ wsX0_goOn := by decide +kernel
theorem mX0_goOn_f9 : (.fieldLink RX0 9 "StarConsole$Comets" "angle" "[I" : Cond) ∈ wsX0_goOn := by decide +kernel
theorem mX0_goOn_f15 : (.fieldLink RX0 15 "StarConsole$Comets" "speed" "[I" : Cond) ∈ wsX0_goOn := by decide +kernel
theorem mX0_goOn_iX5 : (.initialized RX5 : Cond) ∈ wsX0_goOn := by decide +kernel
theorem mX0_goOn_stX5_turned : (.static yX5_turned : Cond) ∈ wsX0_goOn := by decide +kernel
theorem hX0_goOn : yX0_goOn.cls = RX0 ∧ yX0_goOn.cls ≠ "java/lang/invoke/MethodHandle" ∧ yX0_goOn.cls ≠ "java/lang/invoke/VarHandle" ∧ (parseMethodDescriptor yX0_goOn.desc).map (fun d => d.parameters.length) = some 0 := by decide +kernel
set_option maxHeartbeats 4000000 in
set_option maxRecDepth 100000 in
theorem tX0_goOn (l : Launch) (D : va_G) (cI : ClassId) (k0 k1 k2 k3 n : Nat) (f : Mx) (hn : n ≤ 12) : CV l yX0_goOn wsX0_goOn ({ frames := 2, cells := 0, slots := 0, locals := 43 } : Room) D cI ([.ref k0] : List Value) [(k0, .inr (0, [.int (nI n), .ref k1, .ref k2, .ref k3])), (k1, .inl (cI, 12, .inl (f 0))), (k2, .inl (cI, 12, .inl (f 1))), (k3, .inl (cI, 12, .inl (f 2)))] [(k0, .inr (0, [.int (nI n), .ref k1, .ref k2, .ref k3])), (k1, .inl (cI, 12, .inl ((cGo f n) 0))), (k2, .inl (cI, 12, .inl ((cGo f n) 1))), (k3, .inl (cI, 12, .inl ((cGo f n) 2)))] := by
  refine entV (cc := cX0_goOn) (maxL := 2) (ret := none) (by decide) rfl (Nat.le_of_ble_eq_true rfl) (fun p e s m below meth c A ls fx hl => ?_)
  obtain ⟨hx, hb, hr, hml, hown, hts, hlocks, hk, hP, hD, hA⟩ := fx
  have hown : s.vm.findClass RX0 = some m.cls := hown
  have hS : va_S A s.heap s.heap [] := va_S.rf
  have hP : va_P D vwCl [(k0, .inr (0, [.int (nI n), .ref k1, .ref k2, .ref k3])), (k1, .inl (cI, 12, .inl (f 0))), (k2, .inl (cI, 12, .inl (f 1))), (k3, .inl (cI, 12, .inl (f 2)))] s.heap := hP
  have hD : va_D A [(k0, .inr (0, [.int (nI n), .ref k1, .ref k2, .ref k3])), (k1, .inl (cI, 12, .inl (f 0))), (k2, .inl (cI, 12, .inl (f 1))), (k3, .inl (cI, 12, .inl (f 2)))] := hD
  have hl : lv_has ls 2 [(0, .ref k0)] := hl
  refine lv_iconst (v := 0) hx hb dX0_goOn_0 (by decide) ?_
  refine lv_istore_n (lv' := [(1, .int 0), (0, .ref k0)]) hx hb dX0_goOn_1 rfl hl (by decide) rfl (fun ls hl => ?_)
  have key2 : ∀ (ku2 : Nat) (i : Nat), i ≤ n → n - i < ku2 → ∀ (H : Heap) (locs : List Loc), va_P D vwCl [(k0, .inr (0, [.int (nI n), .ref k1, .ref k2, .ref k3])), (k1, .inl (cI, 12, .inl ((cGo f i) 0))), (k2, .inl (cI, 12, .inl ((cGo f i) 1))), (k3, .inl (cI, 12, .inl ((cGo f i) 2)))] H → va_D A [(k0, .inr (0, [.int (nI n), .ref k1, .ref k2, .ref k3])), (k1, .inl (cI, 12, .inl ((cGo f i) 0))), (k2, .inl (cI, 12, .inl ((cGo f i) 1))), (k3, .inl (cI, 12, .inl ((cGo f i) 2)))] → va_S A s.heap H locs → ∀ ls : Array Slot, lv_has ls 2 [(1, .int (nI i)), (0, .ref k0)] → W p l e ({ frames := 2, cells := 0, slots := 0, locals := 43 } : Room) s m ([.ref k0] : List Value).toArray below meth c H locs 0 0 (MQ below (poV D A [(k0, .inr (0, [.int (nI n), .ref k1, .ref k2, .ref k3])), (k1, .inl (cI, 12, .inl ((cGo f n) 0))), (k2, .inl (cI, 12, .inl ((cGo f n) 1))), (k3, .inl (cI, 12, .inl ((cGo f n) 2)))]) ([.ref k0] : List Value).toArray s 0 0 A) (F0 m 2 ls []) := by
    intro ku2
    induction ku2 with
    | zero => intro i; intros; omega
    | succ ku2 ih2 =>
      intro i  hi2 hm2  H locs hP hD hS ls hl
      refine lv_iload_n hx hb dX0_goOn_2 rfl (lv_at hl 0 rfl) ?_
      refine lv_aload_n hx hb dX0_goOn_3 rfl (lv_at hl 1 rfl) ?_
      refine va_get (D := D) (ci := 0) (v := .int (nI n)) (C := RX0) (T := TX0) (N := 4) hx hb hts iX0_goOn_X0 hown hk.1 hP 0 rfl rfl 0 (by decide) (hts _ mX0_goOn_f21) (fun _ h9 => h9) rfl dX0_goOn_4 ?_
      refine icgeN (i := i) (n := n) (tgt := 56) hx hb (by omega) (by omega) dX0_goOn_7 (by decide) (fun c7 => ?_) (fun c7 => ?_)
      · have e1 : i = n := by omega
        subst e1
        exact retV hx hb hr hlocks hS hP hD dX0_goOn_56
      · refine lv_aload_n hx hb dX0_goOn_10 rfl (lv_at hl 1 rfl) ?_
        refine va_get (D := D) (ci := 0) (v := .ref k3) (C := RX0) (T := TX0) (N := 4) hx hb hts iX0_goOn_X0 hown hk.1 hP 0 rfl rfl 3 (by decide) (hts _ mX0_goOn_f18) (fun _ h9 => h9) rfl dX0_goOn_11 ?_
        refine lv_iload_n hx hb dX0_goOn_14 rfl (lv_at hl 0 rfl) ?_
        refine aldN hx hb hk hP 3 rfl i rfl (by omega) (Nat.le_of_ble_eq_true rfl) dX0_goOn_15 ?_
        refine lv_if_le (tgt := 50) hx hb dX0_goOn_16 (by decide) (fun c16 => ?_) (fun c16 => ?_)
        · refine lv_iinc (v := nI (i + 1)) (lv' := [(1, .int (nI (i + 1))), (0, .ref k0)]) hx hb dX0_goOn_50 hl (k := 0) rfl (nI_inc i) (by decide) rfl (fun ls hl => ?_)
          refine lv_goto (tgt := 2) hx hb dX0_goOn_53 (by decide) ?_
          have ihx := ih2 (i + 1)  (by omega) (by omega)
          rw [show cGo f (i + 1) = cGo f i from if_pos c16] at ihx
          exact ihx _ _ hP hD hS _ (lv_sub hl [0, 1] rfl)
        · refine lv_aload_n hx hb dX0_goOn_19 rfl (lv_at hl 1 rfl) ?_
          refine va_get (D := D) (ci := 0) (v := .ref k1) (C := RX0) (T := TX0) (N := 4) hx hb hts iX0_goOn_X0 hown hk.1 hP 0 rfl rfl 1 (by decide) (hts _ mX0_goOn_f9) (fun _ h9 => h9) rfl dX0_goOn_20 ?_
          refine lv_iload_n hx hb dX0_goOn_23 rfl (lv_at hl 0 rfl) ?_
          refine lv_aload_n hx hb dX0_goOn_24 rfl (lv_at hl 1 rfl) ?_
          refine va_get (D := D) (ci := 0) (v := .ref k1) (C := RX0) (T := TX0) (N := 4) hx hb hts iX0_goOn_X0 hown hk.1 hP 0 rfl rfl 1 (by decide) (hts _ mX0_goOn_f9) (fun _ h9 => h9) rfl dX0_goOn_25 ?_
          refine lv_iload_n hx hb dX0_goOn_28 rfl (lv_at hl 0 rfl) ?_
          refine aldN hx hb hk hP 1 rfl i rfl (by omega) (Nat.le_of_ble_eq_true rfl) dX0_goOn_29 ?_
          refine lv_aload_n hx hb dX0_goOn_30 rfl (lv_at hl 1 rfl) ?_
          refine va_get (D := D) (ci := 0) (v := .ref k2) (C := RX0) (T := TX0) (N := 4) hx hb hts iX0_goOn_X0 hown hk.1 hP 0 rfl rfl 2 (by decide) (hts _ mX0_goOn_f15) (fun _ h9 => h9) rfl dX0_goOn_31 ?_
          refine lv_iload_n hx hb dX0_goOn_34 rfl (lv_at hl 0 rfl) ?_
          refine aldN hx hb hk hP 2 rfl i rfl (by omega) (Nat.le_of_ble_eq_true rfl) dX0_goOn_35 ?_
          refine frI (wc := []) (wc' := []) (w' := [(k0, .inr (0, [.int (nI n), .ref k1, .ref k2, .ref k3])), (k1, .inl (cI, 12, .inl ((cGo f i) 0))), (k2, .inl (cI, 12, .inl ((cGo f i) 1))), (k3, .inl (cI, 12, .inl ((cGo f i) 2)))]) hP hD hS hA [] [0, 1, 2, 3] [0, 1, 2, 3] rfl rfl rfl rfl rfl (va_runSN (As := [.int (((cGo f i) 0) i), .int (((cGo f i) 1) i)]) (rest := [.int (nI i), .ref k1]) ⟨hx, hb, hml, hown, hts⟩ (tX5_turned l D cI (cGo f i 0 i) (cGo f i 1 i)  _) ⟨va_cnB 2 hts gX0_goOn_X5_turned_n25 rfl rfl rfl (show va_Nw (.methodLinkNest RX0 25 yX5_turned "StarConsole") s from hk.2 _ (List.mem_of_getElem? (i := 0) rfl)) (hts _ mX0_goOn_iX5) ⟨hX5_turned.2.1, hX5_turned.2.2.1, hX5_turned.2.2.2⟩ ⟨Nat.le_of_ble_eq_true rfl, Nat.le_of_ble_eq_true rfl⟩, (hts _ mX0_goOn_stX5_turned), trivial⟩ (preS_of hk hP hD [] rfl rfl) rfl rfl hl.1 rfl (lv_room (Nat.le_of_ble_eq_true rfl)) dX0_goOn_36 ⟨Nat.le_of_ble_eq_true rfl, Nat.le_of_ble_eq_true rfl⟩) (fun H locs hP hD hS => ?_)
          refine astN hx hb hk hP hD hS 1 rfl i rfl (by omega) (Nat.le_of_ble_eq_true rfl) dX0_goOn_39 (fun H locs hP hD hS => ?_)
          have hP : va_P D vwCl [(k0, .inr (0, [.int (nI n), .ref k1, .ref k2, .ref k3])), (k1, .inl (cI, 12, .inl (upd ((cGo f i) 0) i (tnd (cGo f i 0 i) (cGo f i 1 i))))), (k2, .inl (cI, 12, .inl ((cGo f i) 1))), (k3, .inl (cI, 12, .inl ((cGo f i) 2)))] H := hP
          have hD : va_D A [(k0, .inr (0, [.int (nI n), .ref k1, .ref k2, .ref k3])), (k1, .inl (cI, 12, .inl (upd ((cGo f i) 0) i (tnd (cGo f i 0 i) (cGo f i 1 i))))), (k2, .inl (cI, 12, .inl ((cGo f i) 1))), (k3, .inl (cI, 12, .inl ((cGo f i) 2)))] := hD
          refine lv_aload_n hx hb dX0_goOn_40 rfl (lv_at hl 1 rfl) ?_
          refine va_get (D := D) (ci := 0) (v := .ref k3) (C := RX0) (T := TX0) (N := 4) hx hb hts iX0_goOn_X0 hown hk.1 hP 0 rfl rfl 3 (by decide) (hts _ mX0_goOn_f18) (fun _ h9 => h9) rfl dX0_goOn_41 ?_
          refine lv_iload_n hx hb dX0_goOn_44 rfl (lv_at hl 0 rfl) ?_
          refine lv_dup2_11 hx hb dX0_goOn_45 rfl rfl ?_
          refine aldN hx hb hk hP 3 rfl i rfl (by omega) (Nat.le_of_ble_eq_true rfl) dX0_goOn_46 ?_
          refine lv_iconst (v := 1) hx hb dX0_goOn_47 (by decide) ?_
          refine lv_isub hx hb dX0_goOn_48 ?_
          refine astN hx hb hk hP hD hS 3 rfl i rfl (by omega) (Nat.le_of_ble_eq_true rfl) dX0_goOn_49 (fun H locs hP hD hS => ?_)
          have hP : va_P D vwCl [(k0, .inr (0, [.int (nI n), .ref k1, .ref k2, .ref k3])), (k1, .inl (cI, 12, .inl (upd ((cGo f i) 0) i (tnd (cGo f i 0 i) (cGo f i 1 i))))), (k2, .inl (cI, 12, .inl ((cGo f i) 1))), (k3, .inl (cI, 12, .inl (upd ((cGo f i) 2) i (((((cGo f i) 2) i) - 1)))))] H := hP
          have hD : va_D A [(k0, .inr (0, [.int (nI n), .ref k1, .ref k2, .ref k3])), (k1, .inl (cI, 12, .inl (upd ((cGo f i) 0) i (tnd (cGo f i 0 i) (cGo f i 1 i))))), (k2, .inl (cI, 12, .inl ((cGo f i) 1))), (k3, .inl (cI, 12, .inl (upd ((cGo f i) 2) i (((((cGo f i) 2) i) - 1)))))] := hD
          refine lv_iinc (v := nI (i + 1)) (lv' := [(1, .int (nI (i + 1))), (0, .ref k0)]) hx hb dX0_goOn_50 hl (k := 0) rfl (nI_inc i) (by decide) rfl (fun ls hl => ?_)
          refine lv_goto (tgt := 2) hx hb dX0_goOn_53 (by decide) ?_
          have ihx := ih2 (i + 1)  (by omega) (by omega)
          rw [show cGo f (i + 1) = um (um (cGo f i) 0 i (tnd (cGo f i 0 i) (cGo f i 1 i))) 2 i (cGo f i 2 i - 1) from if_neg c16] at ihx
          exact ihx _ _ hP hD hS _ (lv_sub hl [0, 1] rfl)
  exact key2 (n + 1) 0  (by omega) (by omega) _ _ hP hD hS _ (lv_sub hl [0, 1] rfl)

theorem mX2_approached_l43 : (.methodLink RX2 43 Lib.Math.max.name : Cond) ∈ wsX2_approached := by decide +kernel
theorem mX2_approached_smax : (.static Lib.Math.max.name : Cond) ∈ wsX2_approached := by decide +kernel
theorem mX2_approached_iM : (.initialized "java/lang/Math" : Cond) ∈ wsX2_approached := by decide +kernel
theorem mX2_approached_cmax : (.code Lib.Math.max.name Lib.Math.max.code 2 (some .int) : Cond) ∈ wsX2_approached := by decide +kernel
theorem mX2_approached_l49 : (.methodLink RX2 49 Lib.Math.min.name : Cond) ∈ wsX2_approached := by decide +kernel
theorem mX2_approached_smin : (.static Lib.Math.min.name : Cond) ∈ wsX2_approached := by decide +kernel
theorem mX2_approached_cmin : (.code Lib.Math.min.name Lib.Math.min.code 2 (some .int) : Cond) ∈ wsX2_approached := by decide +kernel
theorem hX2_approached : yX2_approached.cls = RX2 ∧ yX2_approached.cls ≠ "java/lang/invoke/MethodHandle" ∧ yX2_approached.cls ≠ "java/lang/invoke/VarHandle" ∧ (parseMethodDescriptor yX2_approached.desc).map (fun d => d.parameters.length) = some 3 := by decide +kernel
set_option maxHeartbeats 4000000 in
set_option maxRecDepth 100000 in
theorem tX2_approached (l : Launch) (D : va_G) (cI : ClassId) (f t st : Int32)  : CI l yX2_approached wsX2_approached ({ frames := 1, cells := 0, slots := 0, locals := 21 } : Room) D cI ([.int f, .int t, .int st] : List Value) [] (ap f t st) [] := by
  refine entI (cc := cX2_approached) (maxL := 3) (ret := (some .int)) (by decide) rfl (Nat.le_of_ble_eq_true rfl) (fun p e s m below meth c A ls fx hl => ?_)
  obtain ⟨hx, hb, hr, hml, hown, hts, hlocks, hk, hP, hD, hA⟩ := fx
  have hown : s.vm.findClass RX2 = some m.cls := hown
  have hS : va_S A s.heap s.heap [] := va_S.rf
  have hP : va_P D vwCl [] s.heap := hP
  have hD : va_D A [] := hD
  have hl : lv_has ls 3 [(0, .int f), (1, .int t), (2, .int st)] := hl
  refine lv_iload_n hx hb dX2_approached_0 rfl (lv_at hl 0 rfl) ?_
  refine lv_iload_n hx hb dX2_approached_1 rfl (lv_at hl 1 rfl) ?_
  refine lv_icmp_ge (tgt := 15) hx hb dX2_approached_2 (by decide) (fun c2 => ?_) (fun c2 => ?_)
  · refine lv_iload_n hx hb dX2_approached_15 rfl (lv_at hl 0 rfl) ?_
    refine lv_iload_n hx hb dX2_approached_16 rfl (lv_at hl 2 rfl) ?_
    refine lv_isub hx hb dX2_approached_17 ?_
    refine lv_iload_n hx hb dX2_approached_18 rfl (lv_at hl 1 rfl) ?_
    refine va_mmax hx hb (hml.trans hl.1.symm) hown (hts _ mX2_approached_l43) (hts _ mX2_approached_smax) (hts _ mX2_approached_iM) (hts _ mX2_approached_cmax) (Nat.le_of_ble_eq_true rfl) (Nat.le_of_ble_eq_true rfl) (Nat.le_of_ble_eq_true rfl) (Nat.le_of_ble_eq_true rfl) dX2_approached_19 ?_
    refine top_int (show _ = imax ((f - st)) t from rfl) ?_
    exact retI hx hb hr hlocks hS hP hD dX2_approached_22 (by rw [ap, if_pos c2]) rfl
  · refine lv_iload_n hx hb dX2_approached_5 rfl (lv_at hl 0 rfl) ?_
    refine lv_iload_n hx hb dX2_approached_6 rfl (lv_at hl 2 rfl) ?_
    refine lv_iadd hx hb dX2_approached_7 ?_
    refine lv_iload_n hx hb dX2_approached_8 rfl (lv_at hl 1 rfl) ?_
    refine va_mmin hx hb (hml.trans hl.1.symm) hown (hts _ mX2_approached_l49) (hts _ mX2_approached_smin) (hts _ mX2_approached_iM) (hts _ mX2_approached_cmin) (Nat.le_of_ble_eq_true rfl) (Nat.le_of_ble_eq_true rfl) (Nat.le_of_ble_eq_true rfl) (Nat.le_of_ble_eq_true rfl) dX2_approached_9 ?_
    refine top_int (show _ = imin ((f + st)) t from rfl) ?_
    refine lv_goto (tgt := 22) hx hb dX2_approached_12 (by decide) ?_
    exact retI hx hb hr hlocks hS hP hD dX2_approached_22 (by rw [ap, if_neg c2]) rfl

theorem mX2_darkenWithoutLife_f24 : (.fieldLink RX2 24 "StarConsole$Dimmers" "life" "[I" : Cond) ∈ wsX2_darkenWithoutLife := by decide +kernel
theorem iX2_darkenWithoutLife_X2 : ∀ w ∈ wsX20, w ∈ wsX2_darkenWithoutLife := by decide +kernel
theorem mX2_darkenWithoutLife_f15 : (.fieldLink RX2 15 "StarConsole$Dimmers" "level" "[I" : Cond) ∈ wsX2_darkenWithoutLife := by decide +kernel
theorem hX2_darkenWithoutLife : yX2_darkenWithoutLife.cls = RX2 ∧ yX2_darkenWithoutLife.cls ≠ "java/lang/invoke/MethodHandle" ∧ yX2_darkenWithoutLife.cls ≠ "java/lang/invoke/VarHandle" ∧ (parseMethodDescriptor yX2_darkenWithoutLife.desc).map (fun d => d.parameters.length) = some 1 := by decide +kernel
set_option maxHeartbeats 4000000 in
set_option maxRecDepth 100000 in
theorem tX2_darkenWithoutLife (l : Launch) (D : va_G) (cI : ClassId) (d0 d1 d2 d3 d4 d5 n : Nat) (lv lf : Nat → Int32) (i : Nat) (hn : n ≤ 8) (hi : i < n) : CV l yX2_darkenWithoutLife wsX2_darkenWithoutLife ({ frames := 1, cells := 0, slots := 0, locals := 21 } : Room) D cI ([.ref d0, .int (nI i)] : List Value) [(d0, .inr (2, [.int (nI n), .ref d1, .ref d2, .ref d3, .ref d4, .ref d5])), (d2, .inl (cI, 8, .inl lv)), (d5, .inl (cI, 8, .inl lf))] [(d0, .inr (2, [.int (nI n), .ref d1, .ref d2, .ref d3, .ref d4, .ref d5])), (d2, .inl (cI, 8, .inl (dkL lv lf i))), (d5, .inl (cI, 8, .inl lf))] := by
  refine entV (cc := cX2_darkenWithoutLife) (maxL := 2) (ret := none) (by decide) rfl (Nat.le_of_ble_eq_true rfl) (fun p e s m below meth c A ls fx hl => ?_)
  obtain ⟨hx, hb, hr, hml, hown, hts, hlocks, hk, hP, hD, hA⟩ := fx
  have hown : s.vm.findClass RX2 = some m.cls := hown
  have hS : va_S A s.heap s.heap [] := va_S.rf
  have hP : va_P D vwCl [(d0, .inr (2, [.int (nI n), .ref d1, .ref d2, .ref d3, .ref d4, .ref d5])), (d2, .inl (cI, 8, .inl lv)), (d5, .inl (cI, 8, .inl lf))] s.heap := hP
  have hD : va_D A [(d0, .inr (2, [.int (nI n), .ref d1, .ref d2, .ref d3, .ref d4, .ref d5])), (d2, .inl (cI, 8, .inl lv)), (d5, .inl (cI, 8, .inl lf))] := hD
  have hl : lv_has ls 2 [(0, .ref d0), (1, .int (nI i))] := hl
  refine lv_aload_n hx hb dX2_darkenWithoutLife_0 rfl (lv_at hl 0 rfl) ?_
  refine lv_iload_n hx hb dX2_darkenWithoutLife_1 rfl (lv_at hl 1 rfl) ?_
  refine frI (wc := [(d0, .inr (2, [.int (nI n), .ref d1, .ref d2, .ref d3, .ref d4, .ref d5]))]) (wc' := [(d0, .inr (2, [.int (nI n), .ref d1, .ref d2, .ref d3, .ref d4, .ref d5]))]) (w' := [(d0, .inr (2, [.int (nI n), .ref d1, .ref d2, .ref d3, .ref d4, .ref d5])), (d2, .inl (cI, 8, .inl lv)), (d5, .inl (cI, 8, .inl lf))]) hP hD hS hA [0] [1, 2] [2, 0, 1] rfl rfl rfl rfl rfl (va_runV (As := [.int (nI i)]) (rest := []) ⟨hx, hb, hml, hown, hts⟩ (tX2_has l D cI d0 d1 d2 d3 d4 d5 n (nI i) (by omega) _) (cwV 1 hts gX2_darkenWithoutLife_X2_has rfl rfl rfl hX2_has ⟨Nat.le_of_ble_eq_true rfl, Nat.le_of_ble_eq_true rfl⟩) (preV_of hk hP hD [0] rfl rfl (recvO hk hP (ci := 2) (q0 := 0) rfl rfl)) rfl rfl hl.1 rfl (lv_room (Nat.le_of_ble_eq_true rfl)) dX2_darkenWithoutLife_2 ⟨Nat.le_of_ble_eq_true rfl, Nat.le_of_ble_eq_true rfl⟩) (fun H locs hP hD hS => ?_)
  refine top_int (hasI_1 (by omega) (by omega)) ?_
  refine lv_if_eq (tgt := 24) hx hb dX2_darkenWithoutLife_5 (by decide) (fun h => absurd h (by decide)) (fun _ => ?_)
  refine lv_aload_n hx hb dX2_darkenWithoutLife_8 rfl (lv_at hl 0 rfl) ?_
  refine va_get (D := D) (ci := 2) (v := .ref d5) (C := RX2) (T := TX2) (N := 6) hx hb hts iX2_darkenWithoutLife_X2 hown hk.1 hP 0 rfl rfl 5 (by decide) (hts _ mX2_darkenWithoutLife_f24) (fun _ h9 => h9) rfl dX2_darkenWithoutLife_9 ?_
  refine lv_iload_n hx hb dX2_darkenWithoutLife_12 rfl (lv_at hl 1 rfl) ?_
  refine aldN hx hb hk hP 2 rfl i rfl (by omega) (Nat.le_of_ble_eq_true rfl) dX2_darkenWithoutLife_13 ?_
  refine lv_if_ne (tgt := 24) hx hb dX2_darkenWithoutLife_14 (by decide) (fun c14 => ?_) (fun c14 => ?_)
  · rw [show dkL lv lf i = lv from if_neg c14]
    exact retV hx hb hr hlocks hS hP hD dX2_darkenWithoutLife_24
  · refine lv_aload_n hx hb dX2_darkenWithoutLife_17 rfl (lv_at hl 0 rfl) ?_
    refine va_get (D := D) (ci := 2) (v := .ref d2) (C := RX2) (T := TX2) (N := 6) hx hb hts iX2_darkenWithoutLife_X2 hown hk.1 hP 0 rfl rfl 2 (by decide) (hts _ mX2_darkenWithoutLife_f15) (fun _ h9 => h9) rfl dX2_darkenWithoutLife_18 ?_
    refine lv_iload_n hx hb dX2_darkenWithoutLife_21 rfl (lv_at hl 1 rfl) ?_
    refine lv_iconst (v := 0) hx hb dX2_darkenWithoutLife_22 (by decide) ?_
    refine astN hx hb hk hP hD hS 1 rfl i rfl (by omega) (Nat.le_of_ble_eq_true rfl) dX2_darkenWithoutLife_23 (fun H locs hP hD hS => ?_)
    have hP : va_P D vwCl [(d0, .inr (2, [.int (nI n), .ref d1, .ref d2, .ref d3, .ref d4, .ref d5])), (d2, .inl (cI, 8, .inl (upd lv i 0))), (d5, .inl (cI, 8, .inl lf))] H := hP
    have hD : va_D A [(d0, .inr (2, [.int (nI n), .ref d1, .ref d2, .ref d3, .ref d4, .ref d5])), (d2, .inl (cI, 8, .inl (upd lv i 0))), (d5, .inl (cI, 8, .inl lf))] := hD
    rw [show dkL lv lf i = upd lv i 0 from if_pos c14]
    exact retV hx hb hr hlocks hS hP hD dX2_darkenWithoutLife_24

theorem mX2_goOn_f27 : (.fieldLink RX2 27 "StarConsole$Dimmers" "size" "I" : Cond) ∈ wsX2_goOn := by decide +kernel
theorem iX2_goOn_X2 : ∀ w ∈ wsX20, w ∈ wsX2_goOn := by decide +kernel
theorem mX2_goOn_f15 : (.fieldLink RX2 15 "StarConsole$Dimmers" "level" "[I" : Cond) ∈ wsX2_goOn := by decide +kernel
theorem mX2_goOn_f18 : (.fieldLink RX2 18 "StarConsole$Dimmers" "aim" "[I" : Cond) ∈ wsX2_goOn := by decide +kernel
theorem mX2_goOn_f21 : (.fieldLink RX2 21 "StarConsole$Dimmers" "pace" "[I" : Cond) ∈ wsX2_goOn := by decide +kernel
theorem mX2_goOn_f24 : (.fieldLink RX2 24 "StarConsole$Dimmers" "life" "[I" : Cond) ∈ wsX2_goOn := by decide +kernel
theorem mX2_goOn_l43 : (.methodLink RX2 43 Lib.Math.max.name : Cond) ∈ wsX2_goOn := by decide +kernel
theorem mX2_goOn_smax : (.static Lib.Math.max.name : Cond) ∈ wsX2_goOn := by decide +kernel
theorem mX2_goOn_iM : (.initialized "java/lang/Math" : Cond) ∈ wsX2_goOn := by decide +kernel
theorem mX2_goOn_cmax : (.code Lib.Math.max.name Lib.Math.max.code 2 (some .int) : Cond) ∈ wsX2_goOn := by decide +kernel
theorem hX2_goOn : yX2_goOn.cls = RX2 ∧ yX2_goOn.cls ≠ "java/lang/invoke/MethodHandle" ∧ yX2_goOn.cls ≠ "java/lang/invoke/VarHandle" ∧ (parseMethodDescriptor yX2_goOn.desc).map (fun d => d.parameters.length) = some 0 := by decide +kernel
set_option maxHeartbeats 4000000 in
set_option maxRecDepth 100000 in
theorem tX2_goOn (l : Launch) (D : va_G) (cI : ClassId) (d0 d1 d2 d3 d4 d5 n : Nat) (g : Mx) (hn : n ≤ 8) : CV l yX2_goOn wsX2_goOn ({ frames := 2, cells := 0, slots := 0, locals := 43 } : Room) D cI ([.ref d0] : List Value) [(d0, .inr (2, [.int (nI n), .ref d1, .ref d2, .ref d3, .ref d4, .ref d5])), (d1, .inl (cI, 8, .inl (g 0))), (d2, .inl (cI, 8, .inl (g 1))), (d3, .inl (cI, 8, .inl (g 2))), (d4, .inl (cI, 8, .inl (g 3))), (d5, .inl (cI, 8, .inl (g 4)))] [(d0, .inr (2, [.int (nI n), .ref d1, .ref d2, .ref d3, .ref d4, .ref d5])), (d1, .inl (cI, 8, .inl ((dGo g n) 0))), (d2, .inl (cI, 8, .inl ((dGo g n) 1))), (d3, .inl (cI, 8, .inl ((dGo g n) 2))), (d4, .inl (cI, 8, .inl ((dGo g n) 3))), (d5, .inl (cI, 8, .inl ((dGo g n) 4)))] := by
  refine entV (cc := cX2_goOn) (maxL := 2) (ret := none) (by decide) rfl (Nat.le_of_ble_eq_true rfl) (fun p e s m below meth c A ls fx hl => ?_)
  obtain ⟨hx, hb, hr, hml, hown, hts, hlocks, hk, hP, hD, hA⟩ := fx
  have hown : s.vm.findClass RX2 = some m.cls := hown
  have hS : va_S A s.heap s.heap [] := va_S.rf
  have hP : va_P D vwCl [(d0, .inr (2, [.int (nI n), .ref d1, .ref d2, .ref d3, .ref d4, .ref d5])), (d1, .inl (cI, 8, .inl (g 0))), (d2, .inl (cI, 8, .inl (g 1))), (d3, .inl (cI, 8, .inl (g 2))), (d4, .inl (cI, 8, .inl (g 3))), (d5, .inl (cI, 8, .inl (g 4)))] s.heap := hP
  have hD : va_D A [(d0, .inr (2, [.int (nI n), .ref d1, .ref d2, .ref d3, .ref d4, .ref d5])), (d1, .inl (cI, 8, .inl (g 0))), (d2, .inl (cI, 8, .inl (g 1))), (d3, .inl (cI, 8, .inl (g 2))), (d4, .inl (cI, 8, .inl (g 3))), (d5, .inl (cI, 8, .inl (g 4)))] := hD
  have hl : lv_has ls 2 [(0, .ref d0)] := hl
  refine lv_iconst (v := 0) hx hb dX2_goOn_0 (by decide) ?_
  refine lv_istore_n (lv' := [(1, .int 0), (0, .ref d0)]) hx hb dX2_goOn_1 rfl hl (by decide) rfl (fun ls hl => ?_)
  have key2 : ∀ (ku2 : Nat) (i : Nat), i ≤ n → n - i < ku2 → ∀ (H : Heap) (locs : List Loc), va_P D vwCl [(d0, .inr (2, [.int (nI n), .ref d1, .ref d2, .ref d3, .ref d4, .ref d5])), (d1, .inl (cI, 8, .inl ((dGo g i) 0))), (d2, .inl (cI, 8, .inl ((dGo g i) 1))), (d3, .inl (cI, 8, .inl ((dGo g i) 2))), (d4, .inl (cI, 8, .inl ((dGo g i) 3))), (d5, .inl (cI, 8, .inl ((dGo g i) 4)))] H → va_D A [(d0, .inr (2, [.int (nI n), .ref d1, .ref d2, .ref d3, .ref d4, .ref d5])), (d1, .inl (cI, 8, .inl ((dGo g i) 0))), (d2, .inl (cI, 8, .inl ((dGo g i) 1))), (d3, .inl (cI, 8, .inl ((dGo g i) 2))), (d4, .inl (cI, 8, .inl ((dGo g i) 3))), (d5, .inl (cI, 8, .inl ((dGo g i) 4)))] → va_S A s.heap H locs → ∀ ls : Array Slot, lv_has ls 2 [(1, .int (nI i)), (0, .ref d0)] → W p l e ({ frames := 2, cells := 0, slots := 0, locals := 43 } : Room) s m ([.ref d0] : List Value).toArray below meth c H locs 0 0 (MQ below (poV D A [(d0, .inr (2, [.int (nI n), .ref d1, .ref d2, .ref d3, .ref d4, .ref d5])), (d1, .inl (cI, 8, .inl ((dGo g n) 0))), (d2, .inl (cI, 8, .inl ((dGo g n) 1))), (d3, .inl (cI, 8, .inl ((dGo g n) 2))), (d4, .inl (cI, 8, .inl ((dGo g n) 3))), (d5, .inl (cI, 8, .inl ((dGo g n) 4)))]) ([.ref d0] : List Value).toArray s 0 0 A) (F0 m 2 ls []) := by
    intro ku2
    induction ku2 with
    | zero => intro i; intros; omega
    | succ ku2 ih2 =>
      intro i  hi2 hm2  H locs hP hD hS ls hl
      refine lv_iload_n hx hb dX2_goOn_2 rfl (lv_at hl 0 rfl) ?_
      refine lv_aload_n hx hb dX2_goOn_3 rfl (lv_at hl 1 rfl) ?_
      refine va_get (D := D) (ci := 2) (v := .int (nI n)) (C := RX2) (T := TX2) (N := 6) hx hb hts iX2_goOn_X2 hown hk.1 hP 0 rfl rfl 0 (by decide) (hts _ mX2_goOn_f27) (fun _ h9 => h9) rfl dX2_goOn_4 ?_
      refine icgeN (i := i) (n := n) (tgt := 74) hx hb (by omega) (by omega) dX2_goOn_7 (by decide) (fun c7 => ?_) (fun c7 => ?_)
      · have e1 : i = n := by omega
        subst e1
        exact retV hx hb hr hlocks hS hP hD dX2_goOn_74
      · refine lv_aload_n hx hb dX2_goOn_10 rfl (lv_at hl 1 rfl) ?_
        refine va_get (D := D) (ci := 2) (v := .ref d2) (C := RX2) (T := TX2) (N := 6) hx hb hts iX2_goOn_X2 hown hk.1 hP 0 rfl rfl 2 (by decide) (hts _ mX2_goOn_f15) (fun _ h9 => h9) rfl dX2_goOn_11 ?_
        refine lv_iload_n hx hb dX2_goOn_14 rfl (lv_at hl 0 rfl) ?_
        refine lv_aload_n hx hb dX2_goOn_15 rfl (lv_at hl 1 rfl) ?_
        refine va_get (D := D) (ci := 2) (v := .ref d2) (C := RX2) (T := TX2) (N := 6) hx hb hts iX2_goOn_X2 hown hk.1 hP 0 rfl rfl 2 (by decide) (hts _ mX2_goOn_f15) (fun _ h9 => h9) rfl dX2_goOn_16 ?_
        refine lv_iload_n hx hb dX2_goOn_19 rfl (lv_at hl 0 rfl) ?_
        refine aldN hx hb hk hP 2 rfl i rfl (by omega) (Nat.le_of_ble_eq_true rfl) dX2_goOn_20 ?_
        refine lv_aload_n hx hb dX2_goOn_21 rfl (lv_at hl 1 rfl) ?_
        refine va_get (D := D) (ci := 2) (v := .ref d3) (C := RX2) (T := TX2) (N := 6) hx hb hts iX2_goOn_X2 hown hk.1 hP 0 rfl rfl 3 (by decide) (hts _ mX2_goOn_f18) (fun _ h9 => h9) rfl dX2_goOn_22 ?_
        refine lv_iload_n hx hb dX2_goOn_25 rfl (lv_at hl 0 rfl) ?_
        refine aldN hx hb hk hP 3 rfl i rfl (by omega) (Nat.le_of_ble_eq_true rfl) dX2_goOn_26 ?_
        refine lv_aload_n hx hb dX2_goOn_27 rfl (lv_at hl 1 rfl) ?_
        refine va_get (D := D) (ci := 2) (v := .ref d4) (C := RX2) (T := TX2) (N := 6) hx hb hts iX2_goOn_X2 hown hk.1 hP 0 rfl rfl 4 (by decide) (hts _ mX2_goOn_f21) (fun _ h9 => h9) rfl dX2_goOn_28 ?_
        refine lv_iload_n hx hb dX2_goOn_31 rfl (lv_at hl 0 rfl) ?_
        refine aldN hx hb hk hP 4 rfl i rfl (by omega) (Nat.le_of_ble_eq_true rfl) dX2_goOn_32 ?_
        refine frI (wc := []) (wc' := []) (w' := [(d0, .inr (2, [.int (nI n), .ref d1, .ref d2, .ref d3, .ref d4, .ref d5])), (d1, .inl (cI, 8, .inl ((dGo g i) 0))), (d2, .inl (cI, 8, .inl ((dGo g i) 1))), (d3, .inl (cI, 8, .inl ((dGo g i) 2))), (d4, .inl (cI, 8, .inl ((dGo g i) 3))), (d5, .inl (cI, 8, .inl ((dGo g i) 4)))]) hP hD hS hA [] [0, 1, 2, 3, 4, 5] [0, 1, 2, 3, 4, 5] rfl rfl rfl rfl rfl (va_runS (As := [.int (((dGo g i) 1) i), .int (((dGo g i) 2) i), .int (((dGo g i) 3) i)]) (rest := [.int (nI i), .ref d2]) ⟨hx, hb, hml, hown, hts⟩ (tX2_approached l D cI (dGo g i 1 i) (dGo g i 2 i) (dGo g i 3 i)  _) (va_cwS 3 hts gX2_goOn_X2_approached rfl rfl rfl hX2_approached.2 ⟨Nat.le_of_ble_eq_true rfl, Nat.le_of_ble_eq_true rfl⟩) (preS_of hk hP hD [] rfl rfl) rfl rfl hl.1 rfl (lv_room (Nat.le_of_ble_eq_true rfl)) dX2_goOn_33 ⟨Nat.le_of_ble_eq_true rfl, Nat.le_of_ble_eq_true rfl⟩) (fun H locs hP hD hS => ?_)
        refine astN hx hb hk hP hD hS 2 rfl i rfl (by omega) (Nat.le_of_ble_eq_true rfl) dX2_goOn_36 (fun H locs hP hD hS => ?_)
        have hP : va_P D vwCl [(d0, .inr (2, [.int (nI n), .ref d1, .ref d2, .ref d3, .ref d4, .ref d5])), (d1, .inl (cI, 8, .inl ((dGo g i) 0))), (d2, .inl (cI, 8, .inl (upd ((dGo g i) 1) i (ap (dGo g i 1 i) (dGo g i 2 i) (dGo g i 3 i))))), (d3, .inl (cI, 8, .inl ((dGo g i) 2))), (d4, .inl (cI, 8, .inl ((dGo g i) 3))), (d5, .inl (cI, 8, .inl ((dGo g i) 4)))] H := hP
        have hD : va_D A [(d0, .inr (2, [.int (nI n), .ref d1, .ref d2, .ref d3, .ref d4, .ref d5])), (d1, .inl (cI, 8, .inl ((dGo g i) 0))), (d2, .inl (cI, 8, .inl (upd ((dGo g i) 1) i (ap (dGo g i 1 i) (dGo g i 2 i) (dGo g i 3 i))))), (d3, .inl (cI, 8, .inl ((dGo g i) 2))), (d4, .inl (cI, 8, .inl ((dGo g i) 3))), (d5, .inl (cI, 8, .inl ((dGo g i) 4)))] := hD
        refine lv_aload_n hx hb dX2_goOn_37 rfl (lv_at hl 1 rfl) ?_
        refine va_get (D := D) (ci := 2) (v := .ref d5) (C := RX2) (T := TX2) (N := 6) hx hb hts iX2_goOn_X2 hown hk.1 hP 0 rfl rfl 5 (by decide) (hts _ mX2_goOn_f24) (fun _ h9 => h9) rfl dX2_goOn_38 ?_
        refine lv_iload_n hx hb dX2_goOn_41 rfl (lv_at hl 0 rfl) ?_
        refine lv_iconst (v := 0) hx hb dX2_goOn_42 (by decide) ?_
        refine lv_aload_n hx hb dX2_goOn_43 rfl (lv_at hl 1 rfl) ?_
        refine va_get (D := D) (ci := 2) (v := .ref d5) (C := RX2) (T := TX2) (N := 6) hx hb hts iX2_goOn_X2 hown hk.1 hP 0 rfl rfl 5 (by decide) (hts _ mX2_goOn_f24) (fun _ h9 => h9) rfl dX2_goOn_44 ?_
        refine lv_iload_n hx hb dX2_goOn_47 rfl (lv_at hl 0 rfl) ?_
        refine aldN hx hb hk hP 5 rfl i rfl (by omega) (Nat.le_of_ble_eq_true rfl) dX2_goOn_48 ?_
        refine lv_aload_n hx hb dX2_goOn_49 rfl (lv_at hl 1 rfl) ?_
        refine va_get (D := D) (ci := 2) (v := .ref d2) (C := RX2) (T := TX2) (N := 6) hx hb hts iX2_goOn_X2 hown hk.1 hP 0 rfl rfl 2 (by decide) (hts _ mX2_goOn_f15) (fun _ h9 => h9) rfl dX2_goOn_50 ?_
        refine lv_iload_n hx hb dX2_goOn_53 rfl (lv_at hl 0 rfl) ?_
        refine aldN hx hb hk hP 2 rfl i rfl (by omega) (Nat.le_of_ble_eq_true rfl) dX2_goOn_54 ?_
        refine top_int pk_us ?_
        refine lv_bipush (v := 10) hx hb dX2_goOn_55 (by decide) ?_
        refine lv_idiv hx hb dX2_goOn_57 (by decide) ?_
        refine lv_isub hx hb dX2_goOn_58 ?_
        refine va_mmax hx hb (hml.trans hl.1.symm) hown (hts _ mX2_goOn_l43) (hts _ mX2_goOn_smax) (hts _ mX2_goOn_iM) (hts _ mX2_goOn_cmax) (Nat.le_of_ble_eq_true rfl) (Nat.le_of_ble_eq_true rfl) (Nat.le_of_ble_eq_true rfl) (Nat.le_of_ble_eq_true rfl) dX2_goOn_59 ?_
        refine top_int (show _ = imax 0 (((((dGo g i) 4) i) - ((((ap (dGo g i 1 i) (dGo g i 2 i) (dGo g i 3 i))) / 10)))) from rfl) ?_
        refine astN hx hb hk hP hD hS 5 rfl i rfl (by omega) (Nat.le_of_ble_eq_true rfl) dX2_goOn_62 (fun H locs hP hD hS => ?_)
        have hP : va_P D vwCl [(d0, .inr (2, [.int (nI n), .ref d1, .ref d2, .ref d3, .ref d4, .ref d5])), (d1, .inl (cI, 8, .inl ((dGo g i) 0))), (d2, .inl (cI, 8, .inl (upd ((dGo g i) 1) i (ap (dGo g i 1 i) (dGo g i 2 i) (dGo g i 3 i))))), (d3, .inl (cI, 8, .inl ((dGo g i) 2))), (d4, .inl (cI, 8, .inl ((dGo g i) 3))), (d5, .inl (cI, 8, .inl (upd ((dGo g i) 4) i ((imax 0 (((((dGo g i) 4) i) - ((((ap (dGo g i 1 i) (dGo g i 2 i) (dGo g i 3 i))) / 10)))))))))] H := hP
        have hD : va_D A [(d0, .inr (2, [.int (nI n), .ref d1, .ref d2, .ref d3, .ref d4, .ref d5])), (d1, .inl (cI, 8, .inl ((dGo g i) 0))), (d2, .inl (cI, 8, .inl (upd ((dGo g i) 1) i (ap (dGo g i 1 i) (dGo g i 2 i) (dGo g i 3 i))))), (d3, .inl (cI, 8, .inl ((dGo g i) 2))), (d4, .inl (cI, 8, .inl ((dGo g i) 3))), (d5, .inl (cI, 8, .inl (upd ((dGo g i) 4) i ((imax 0 (((((dGo g i) 4) i) - ((((ap (dGo g i 1 i) (dGo g i 2 i) (dGo g i 3 i))) / 10)))))))))] := hD
        refine lv_aload_n hx hb dX2_goOn_63 rfl (lv_at hl 1 rfl) ?_
        refine lv_iload_n hx hb dX2_goOn_64 rfl (lv_at hl 0 rfl) ?_
        refine frV (wc := [(d0, .inr (2, [.int (nI n), .ref d1, .ref d2, .ref d3, .ref d4, .ref d5])), (d2, .inl (cI, 8, .inl (upd (dGo g i 1) i (ap (dGo g i 1 i) (dGo g i 2 i) (dGo g i 3 i))))), (d5, .inl (cI, 8, .inl (upd ((dGo g i) 4) i ((imax 0 (((((dGo g i) 4) i) - ((((ap (dGo g i 1 i) (dGo g i 2 i) (dGo g i 3 i))) / 10)))))))))]) (wc' := [(d0, .inr (2, [.int (nI n), .ref d1, .ref d2, .ref d3, .ref d4, .ref d5])), (d2, .inl (cI, 8, .inl (dkL (upd (dGo g i 1) i (ap (dGo g i 1 i) (dGo g i 2 i) (dGo g i 3 i))) (upd ((dGo g i) 4) i ((imax 0 (((((dGo g i) 4) i) - ((((ap (dGo g i 1 i) (dGo g i 2 i) (dGo g i 3 i))) / 10))))))) i))), (d5, .inl (cI, 8, .inl (upd ((dGo g i) 4) i ((imax 0 (((((dGo g i) 4) i) - ((((ap (dGo g i 1 i) (dGo g i 2 i) (dGo g i 3 i))) / 10)))))))))]) (w' := [(d0, .inr (2, [.int (nI n), .ref d1, .ref d2, .ref d3, .ref d4, .ref d5])), (d1, .inl (cI, 8, .inl ((dGo g i) 0))), (d2, .inl (cI, 8, .inl (dkL (upd (dGo g i 1) i (ap (dGo g i 1 i) (dGo g i 2 i) (dGo g i 3 i))) (upd ((dGo g i) 4) i ((imax 0 (((((dGo g i) 4) i) - ((((ap (dGo g i 1 i) (dGo g i 2 i) (dGo g i 3 i))) / 10))))))) i))), (d3, .inl (cI, 8, .inl ((dGo g i) 2))), (d4, .inl (cI, 8, .inl ((dGo g i) 3))), (d5, .inl (cI, 8, .inl (upd ((dGo g i) 4) i ((imax 0 (((((dGo g i) 4) i) - ((((ap (dGo g i 1 i) (dGo g i 2 i) (dGo g i 3 i))) / 10)))))))))]) hP hD hS hA [0, 2, 5] [1, 3, 4] [3, 0, 4, 1, 2, 5] rfl rfl rfl rfl rfl (va_runV (As := [.int (nI i)]) (rest := []) ⟨hx, hb, hml, hown, hts⟩ (tX2_darkenWithoutLife l D cI d0 d1 d2 d3 d4 d5 n (upd (dGo g i 1) i (ap (dGo g i 1 i) (dGo g i 2 i) (dGo g i 3 i))) (upd ((dGo g i) 4) i ((imax 0 (((((dGo g i) 4) i) - ((((ap (dGo g i 1 i) (dGo g i 2 i) (dGo g i 3 i))) / 10))))))) i (by omega) (by omega) _) (cwV 1 hts gX2_goOn_X2_darkenWithoutLife rfl rfl rfl hX2_darkenWithoutLife ⟨Nat.le_of_ble_eq_true rfl, Nat.le_of_ble_eq_true rfl⟩) (preV_of hk hP hD [0, 2, 5] rfl rfl (recvO hk hP (ci := 2) (q0 := 0) rfl rfl)) rfl rfl hl.1 rfl (lv_room (Nat.le_of_ble_eq_true rfl)) dX2_goOn_65 ⟨Nat.le_of_ble_eq_true rfl, Nat.le_of_ble_eq_true rfl⟩) (fun H locs hP hD hS => ?_)
        rw [dk_eq] at hP hD
        refine lv_iinc (v := nI (i + 1)) (lv' := [(1, .int (nI (i + 1))), (0, .ref d0)]) hx hb dX2_goOn_68 hl (k := 0) rfl (nI_inc i) (by decide) rfl (fun ls hl => ?_)
        refine lv_goto (tgt := 2) hx hb dX2_goOn_71 (by decide) ?_
        have ihx := ih2 (i + 1)  (by omega) (by omega)
        rw [show dGo g (i + 1) = dSt (dGo g i) i from rfl] at ihx
        exact ihx _ _ hP hD hS _ (lv_sub hl [0, 1] rfl)
  exact key2 (n + 1) 0  (by omega) (by omega) _ _ hP hD hS _ (lv_sub hl [0, 1] rfl)

theorem mX2_glareOn_f27 : (.fieldLink RX2 27 "StarConsole$Dimmers" "size" "I" : Cond) ∈ wsX2_glareOn := by decide +kernel
theorem iX2_glareOn_X2 : ∀ w ∈ wsX20, w ∈ wsX2_glareOn := by decide +kernel
theorem mX2_glareOn_f9 : (.fieldLink RX2 9 "StarConsole$Dimmers" "part" "[I" : Cond) ∈ wsX2_glareOn := by decide +kernel
theorem mX2_glareOn_f15 : (.fieldLink RX2 15 "StarConsole$Dimmers" "level" "[I" : Cond) ∈ wsX2_glareOn := by decide +kernel
theorem hX2_glareOn : yX2_glareOn.cls = RX2 ∧ yX2_glareOn.cls ≠ "java/lang/invoke/MethodHandle" ∧ yX2_glareOn.cls ≠ "java/lang/invoke/VarHandle" ∧ (parseMethodDescriptor yX2_glareOn.desc).map (fun d => d.parameters.length) = some 1 := by decide +kernel
set_option maxHeartbeats 4000000 in
set_option maxRecDepth 100000 in
theorem tX2_glareOn (l : Launch) (D : va_G) (cI : ClassId) (d0 d1 d2 d3 d4 d5 n : Nat) (gp gl : Nat → Int32) (lit : Int32) (hn : n ≤ 8) : CI l yX2_glareOn wsX2_glareOn ({ frames := 1, cells := 0, slots := 0, locals := 22 } : Room) D cI ([.ref d0, .int lit] : List Value) [(d0, .inr (2, [.int (nI n), .ref d1, .ref d2, .ref d3, .ref d4, .ref d5])), (d1, .inl (cI, 8, .inl gp)), (d2, .inl (cI, 8, .inl gl))] (glS gp gl lit n) [(d0, .inr (2, [.int (nI n), .ref d1, .ref d2, .ref d3, .ref d4, .ref d5])), (d1, .inl (cI, 8, .inl gp)), (d2, .inl (cI, 8, .inl gl))] := by
  refine entI (cc := cX2_glareOn) (maxL := 5) (ret := (some .int)) (by decide) rfl (Nat.le_of_ble_eq_true rfl) (fun p e s m below meth c A ls fx hl => ?_)
  obtain ⟨hx, hb, hr, hml, hown, hts, hlocks, hk, hP, hD, hA⟩ := fx
  have hown : s.vm.findClass RX2 = some m.cls := hown
  have hS : va_S A s.heap s.heap [] := va_S.rf
  have hP : va_P D vwCl [(d0, .inr (2, [.int (nI n), .ref d1, .ref d2, .ref d3, .ref d4, .ref d5])), (d1, .inl (cI, 8, .inl gp)), (d2, .inl (cI, 8, .inl gl))] s.heap := hP
  have hD : va_D A [(d0, .inr (2, [.int (nI n), .ref d1, .ref d2, .ref d3, .ref d4, .ref d5])), (d1, .inl (cI, 8, .inl gp)), (d2, .inl (cI, 8, .inl gl))] := hD
  have hl : lv_has ls 5 [(0, .ref d0), (1, .int lit)] := hl
  refine lv_iconst (v := 0) hx hb dX2_glareOn_0 (by decide) ?_
  refine lv_istore_n (lv' := [(2, .int 0), (0, .ref d0), (1, .int lit)]) hx hb dX2_glareOn_1 rfl hl (by decide) rfl (fun ls hl => ?_)
  refine lv_iconst (v := 0) hx hb dX2_glareOn_2 (by decide) ?_
  refine lv_istore_n (lv' := [(3, .int 0), (2, .int 0), (0, .ref d0), (1, .int lit)]) hx hb dX2_glareOn_3 rfl hl (by decide) rfl (fun ls hl => ?_)
  have key4 : ∀ (ku4 : Nat) (i : Nat), i ≤ n → n - i < ku4 → ∀ (H : Heap) (locs : List Loc), va_P D vwCl [(d0, .inr (2, [.int (nI n), .ref d1, .ref d2, .ref d3, .ref d4, .ref d5])), (d1, .inl (cI, 8, .inl gp)), (d2, .inl (cI, 8, .inl gl))] H → va_D A [(d0, .inr (2, [.int (nI n), .ref d1, .ref d2, .ref d3, .ref d4, .ref d5])), (d1, .inl (cI, 8, .inl gp)), (d2, .inl (cI, 8, .inl gl))] → va_S A s.heap H locs → ∀ ls : Array Slot, lv_has ls 5 [(3, .int (nI i)), (2, .int (glS gp gl lit i)), (0, .ref d0), (1, .int lit)] → W p l e ({ frames := 1, cells := 0, slots := 0, locals := 22 } : Room) s m ([.ref d0, .int lit] : List Value).toArray below meth c H locs 0 0 (MQ below (poI D A [(d0, .inr (2, [.int (nI n), .ref d1, .ref d2, .ref d3, .ref d4, .ref d5])), (d1, .inl (cI, 8, .inl gp)), (d2, .inl (cI, 8, .inl gl))] (glS gp gl lit n)) ([.ref d0, .int lit] : List Value).toArray s 0 0 A) (F0 m 4 ls []) := by
    intro ku4
    induction ku4 with
    | zero => intro i; intros; omega
    | succ ku4 ih4 =>
      intro i  hi4 hm4  H locs hP hD hS ls hl
      refine lv_iload_n hx hb dX2_glareOn_4 rfl (lv_at hl 0 rfl) ?_
      refine lv_aload_n hx hb dX2_glareOn_5 rfl (lv_at hl 2 rfl) ?_
      refine va_get (D := D) (ci := 2) (v := .int (nI n)) (C := RX2) (T := TX2) (N := 6) hx hb hts iX2_glareOn_X2 hown hk.1 hP 0 rfl rfl 0 (by decide) (hts _ mX2_glareOn_f27) (fun _ h9 => h9) rfl dX2_glareOn_6 ?_
      refine icgeN (i := i) (n := n) (tgt := 74) hx hb (by omega) (by omega) dX2_glareOn_9 (by decide) (fun c9 => ?_) (fun c9 => ?_)
      · have e1 : i = n := by omega
        subst e1
        refine lv_iload_n hx hb dX2_glareOn_74 rfl (lv_at hl 1 rfl) ?_
        exact retI hx hb hr hlocks hS hP hD dX2_glareOn_75 (rfl) rfl
      · refine lv_aload_n hx hb dX2_glareOn_12 rfl (lv_at hl 2 rfl) ?_
        refine va_get (D := D) (ci := 2) (v := .ref d1) (C := RX2) (T := TX2) (N := 6) hx hb hts iX2_glareOn_X2 hown hk.1 hP 0 rfl rfl 1 (by decide) (hts _ mX2_glareOn_f9) (fun _ h9 => h9) rfl dX2_glareOn_13 ?_
        refine lv_iload_n hx hb dX2_glareOn_16 rfl (lv_at hl 0 rfl) ?_
        refine aldN hx hb hk hP 1 rfl i rfl (by omega) (Nat.le_of_ble_eq_true rfl) dX2_glareOn_17 ?_
        refine lv_iload_n hx hb dX2_glareOn_18 rfl (lv_at hl 3 rfl) ?_
        refine lv_isub hx hb dX2_glareOn_19 ?_
        refine lv_bipush (v := 12) hx hb dX2_glareOn_20 (by decide) ?_
        refine frI (wc := []) (wc' := []) (w' := [(d0, .inr (2, [.int (nI n), .ref d1, .ref d2, .ref d3, .ref d4, .ref d5])), (d1, .inl (cI, 8, .inl gp)), (d2, .inl (cI, 8, .inl gl))]) hP hD hS hA [] [0, 1, 2] [0, 1, 2] rfl rfl rfl rfl rfl (va_runS (As := [.int ((gp i) - lit), .int 12]) (rest := []) ⟨hx, hb, hml, hown, hts⟩ (tJ9_floorMod_7cf53 l D cI (gp i - lit) 12 (by decide) _) (va_cwS 2 hts gX2_glareOn_J9_floorMod_7cf53 rfl rfl rfl hJ9_floorMod_7cf53.2 ⟨Nat.le_of_ble_eq_true rfl, Nat.le_of_ble_eq_true rfl⟩) (preS_of hk hP hD [] rfl rfl) rfl rfl hl.1 rfl (lv_room (Nat.le_of_ble_eq_true rfl)) dX2_glareOn_22 ⟨Nat.le_of_ble_eq_true rfl, Nat.le_of_ble_eq_true rfl⟩) (fun H locs hP hD hS => ?_)
        refine lv_istore (lv' := [(4, .int (fmod (gp i - lit) 12)), (3, .int (nI i)), (2, .int (glS gp gl lit i)), (0, .ref d0), (1, .int lit)]) hx hb dX2_glareOn_25 hl (by decide) rfl (fun ls hl => ?_)
        refine lv_iload hx hb dX2_glareOn_27 (lv_at hl 0 rfl) ?_
        refine lv_if_ne (tgt := 44) hx hb dX2_glareOn_29 (by decide) (fun c29 => ?_) (fun c29 => ?_)
        · refine lv_iload hx hb dX2_glareOn_44 (lv_at hl 0 rfl) ?_
          refine lv_iconst (v := 1) hx hb dX2_glareOn_46 (by decide) ?_
          refine lv_icmp_eq (tgt := 57) hx hb dX2_glareOn_47 (by decide) (fun c47 => ?_) (fun c47 => ?_)
          · refine lv_iload_n hx hb dX2_glareOn_57 rfl (lv_at hl 2 rfl) ?_
            refine lv_aload_n hx hb dX2_glareOn_58 rfl (lv_at hl 3 rfl) ?_
            refine va_get (D := D) (ci := 2) (v := .ref d2) (C := RX2) (T := TX2) (N := 6) hx hb hts iX2_glareOn_X2 hown hk.1 hP 0 rfl rfl 2 (by decide) (hts _ mX2_glareOn_f15) (fun _ h9 => h9) rfl dX2_glareOn_59 ?_
            refine lv_iload_n hx hb dX2_glareOn_62 rfl (lv_at hl 1 rfl) ?_
            refine aldN hx hb hk hP 2 rfl i rfl (by omega) (Nat.le_of_ble_eq_true rfl) dX2_glareOn_63 ?_
            refine lv_iconst (v := 4) hx hb dX2_glareOn_64 (by decide) ?_
            refine lv_idiv hx hb dX2_glareOn_65 (by decide) ?_
            refine lv_iadd hx hb dX2_glareOn_66 ?_
            refine lv_istore_n (lv' := [(2, .int ((glS gp gl lit i) + (((gl i) / 4)))), (4, .int (fmod (gp i - lit) 12)), (3, .int (nI i)), (0, .ref d0), (1, .int lit)]) hx hb dX2_glareOn_67 rfl hl (by decide) rfl (fun ls hl => ?_)
            refine lv_iinc (v := nI (i + 1)) (lv' := [(3, .int (nI (i + 1))), (2, .int ((glS gp gl lit i) + (((gl i) / 4)))), (4, .int (fmod (gp i - lit) 12)), (0, .ref d0), (1, .int lit)]) hx hb dX2_glareOn_68 hl (k := 2) rfl (nI_inc i) (by decide) rfl (fun ls hl => ?_)
            refine lv_goto (tgt := 4) hx hb dX2_glareOn_71 (by decide) ?_
            have ihx := ih4 (i + 1)  (by omega) (by omega)
            rw [show glS gp gl lit (i + 1) = glC (gp i) (gl i) lit (glS gp gl lit i) from rfl, show glC (gp i) (gl i) lit (glS gp gl lit i) = _ from by rw [glC, if_neg c29, if_pos c47]] at ihx
            exact ihx _ _ hP hD hS _ (lv_sub hl [0, 1, 3, 4] rfl)
          · refine lv_iload hx hb dX2_glareOn_50 (lv_at hl 0 rfl) ?_
            refine lv_bipush (v := 11) hx hb dX2_glareOn_52 (by decide) ?_
            refine lv_icmp_ne (tgt := 68) hx hb dX2_glareOn_54 (by decide) (fun c54 => ?_) (fun c54 => ?_)
            · refine lv_iinc (v := nI (i + 1)) (lv' := [(3, .int (nI (i + 1))), (4, .int (fmod (gp i - lit) 12)), (2, .int (glS gp gl lit i)), (0, .ref d0), (1, .int lit)]) hx hb dX2_glareOn_68 hl (k := 1) rfl (nI_inc i) (by decide) rfl (fun ls hl => ?_)
              refine lv_goto (tgt := 4) hx hb dX2_glareOn_71 (by decide) ?_
              have ihx := ih4 (i + 1)  (by omega) (by omega)
              rw [show glS gp gl lit (i + 1) = glC (gp i) (gl i) lit (glS gp gl lit i) from rfl, show glC (gp i) (gl i) lit (glS gp gl lit i) = _ from by rw [glC, if_neg c29, if_neg c47, if_neg c54]] at ihx
              exact ihx _ _ hP hD hS _ (lv_sub hl [0, 2, 3, 4] rfl)
            · refine lv_iload_n hx hb dX2_glareOn_57 rfl (lv_at hl 2 rfl) ?_
              refine lv_aload_n hx hb dX2_glareOn_58 rfl (lv_at hl 3 rfl) ?_
              refine va_get (D := D) (ci := 2) (v := .ref d2) (C := RX2) (T := TX2) (N := 6) hx hb hts iX2_glareOn_X2 hown hk.1 hP 0 rfl rfl 2 (by decide) (hts _ mX2_glareOn_f15) (fun _ h9 => h9) rfl dX2_glareOn_59 ?_
              refine lv_iload_n hx hb dX2_glareOn_62 rfl (lv_at hl 1 rfl) ?_
              refine aldN hx hb hk hP 2 rfl i rfl (by omega) (Nat.le_of_ble_eq_true rfl) dX2_glareOn_63 ?_
              refine lv_iconst (v := 4) hx hb dX2_glareOn_64 (by decide) ?_
              refine lv_idiv hx hb dX2_glareOn_65 (by decide) ?_
              refine lv_iadd hx hb dX2_glareOn_66 ?_
              refine lv_istore_n (lv' := [(2, .int ((glS gp gl lit i) + (((gl i) / 4)))), (4, .int (fmod (gp i - lit) 12)), (3, .int (nI i)), (0, .ref d0), (1, .int lit)]) hx hb dX2_glareOn_67 rfl hl (by decide) rfl (fun ls hl => ?_)
              refine lv_iinc (v := nI (i + 1)) (lv' := [(3, .int (nI (i + 1))), (2, .int ((glS gp gl lit i) + (((gl i) / 4)))), (4, .int (fmod (gp i - lit) 12)), (0, .ref d0), (1, .int lit)]) hx hb dX2_glareOn_68 hl (k := 2) rfl (nI_inc i) (by decide) rfl (fun ls hl => ?_)
              refine lv_goto (tgt := 4) hx hb dX2_glareOn_71 (by decide) ?_
              have ihx := ih4 (i + 1)  (by omega) (by omega)
              rw [show glS gp gl lit (i + 1) = glC (gp i) (gl i) lit (glS gp gl lit i) from rfl, show glC (gp i) (gl i) lit (glS gp gl lit i) = _ from by rw [glC, if_neg c29, if_neg c47, if_pos c54]] at ihx
              exact ihx _ _ hP hD hS _ (lv_sub hl [0, 1, 3, 4] rfl)
        · refine lv_iload_n hx hb dX2_glareOn_32 rfl (lv_at hl 2 rfl) ?_
          refine lv_aload_n hx hb dX2_glareOn_33 rfl (lv_at hl 3 rfl) ?_
          refine va_get (D := D) (ci := 2) (v := .ref d2) (C := RX2) (T := TX2) (N := 6) hx hb hts iX2_glareOn_X2 hown hk.1 hP 0 rfl rfl 2 (by decide) (hts _ mX2_glareOn_f15) (fun _ h9 => h9) rfl dX2_glareOn_34 ?_
          refine lv_iload_n hx hb dX2_glareOn_37 rfl (lv_at hl 1 rfl) ?_
          refine aldN hx hb hk hP 2 rfl i rfl (by omega) (Nat.le_of_ble_eq_true rfl) dX2_glareOn_38 ?_
          refine lv_iadd hx hb dX2_glareOn_39 ?_
          refine lv_istore_n (lv' := [(2, .int ((glS gp gl lit i) + (gl i))), (4, .int (fmod (gp i - lit) 12)), (3, .int (nI i)), (0, .ref d0), (1, .int lit)]) hx hb dX2_glareOn_40 rfl hl (by decide) rfl (fun ls hl => ?_)
          refine lv_goto (tgt := 68) hx hb dX2_glareOn_41 (by decide) ?_
          refine lv_iinc (v := nI (i + 1)) (lv' := [(3, .int (nI (i + 1))), (2, .int ((glS gp gl lit i) + (gl i))), (4, .int (fmod (gp i - lit) 12)), (0, .ref d0), (1, .int lit)]) hx hb dX2_glareOn_68 hl (k := 2) rfl (nI_inc i) (by decide) rfl (fun ls hl => ?_)
          refine lv_goto (tgt := 4) hx hb dX2_glareOn_71 (by decide) ?_
          have ihx := ih4 (i + 1)  (by omega) (by omega)
          rw [show glS gp gl lit (i + 1) = glC (gp i) (gl i) lit (glS gp gl lit i) from rfl, show glC (gp i) (gl i) lit (glS gp gl lit i) = _ from by rw [glC, if_pos c29]] at ihx
          exact ihx _ _ hP hD hS _ (lv_sub hl [0, 1, 3, 4] rfl)
  exact key4 (n + 1) 0  (by omega) (by omega) _ _ hP hD hS _ (lv_sub hl [0, 1, 2, 3] rfl)

theorem mX2_fact_f9 : (.fieldLink RX2 9 "StarConsole$Dimmers" "part" "[I" : Cond) ∈ wsX2_fact := by decide +kernel
theorem iX2_fact_X2 : ∀ w ∈ wsX20, w ∈ wsX2_fact := by decide +kernel
theorem mX2_fact_f15 : (.fieldLink RX2 15 "StarConsole$Dimmers" "level" "[I" : Cond) ∈ wsX2_fact := by decide +kernel
theorem mX2_fact_f18 : (.fieldLink RX2 18 "StarConsole$Dimmers" "aim" "[I" : Cond) ∈ wsX2_fact := by decide +kernel
theorem mX2_fact_f21 : (.fieldLink RX2 21 "StarConsole$Dimmers" "pace" "[I" : Cond) ∈ wsX2_fact := by decide +kernel
theorem mX2_fact_f24 : (.fieldLink RX2 24 "StarConsole$Dimmers" "life" "[I" : Cond) ∈ wsX2_fact := by decide +kernel
theorem hX2_fact : yX2_fact.cls = RX2 ∧ yX2_fact.cls ≠ "java/lang/invoke/MethodHandle" ∧ yX2_fact.cls ≠ "java/lang/invoke/VarHandle" ∧ (parseMethodDescriptor yX2_fact.desc).map (fun d => d.parameters.length) = some 2 := by decide +kernel
set_option maxHeartbeats 4000000 in
set_option maxRecDepth 100000 in
theorem tX2_fact (l : Launch) (D : va_G) (cI : ClassId) (d0 d1 d2 d3 d4 d5 n : Nat) (g : Mx) (k : Nat) (w : Int32) (hn : n ≤ 8) (hk8 : k < n) : CI l yX2_fact wsX2_fact ({ frames := 1, cells := 0, slots := 0, locals := 21 } : Room) D cI ([.ref d0, .int (nI k), .int w] : List Value) [(d0, .inr (2, [.int (nI n), .ref d1, .ref d2, .ref d3, .ref d4, .ref d5])), (d1, .inl (cI, 8, .inl (g 0))), (d2, .inl (cI, 8, .inl (g 1))), (d3, .inl (cI, 8, .inl (g 2))), (d4, .inl (cI, 8, .inl (g 3))), (d5, .inl (cI, 8, .inl (g 4)))] (fcD g k w) [(d0, .inr (2, [.int (nI n), .ref d1, .ref d2, .ref d3, .ref d4, .ref d5])), (d1, .inl (cI, 8, .inl (g 0))), (d2, .inl (cI, 8, .inl (g 1))), (d3, .inl (cI, 8, .inl (g 2))), (d4, .inl (cI, 8, .inl (g 3))), (d5, .inl (cI, 8, .inl (g 4)))] := by
  refine entI (cc := cX2_fact) (maxL := 3) (ret := (some .int)) (by decide) rfl (Nat.le_of_ble_eq_true rfl) (fun p e s m below meth c A ls fx hl => ?_)
  obtain ⟨hx, hb, hr, hml, hown, hts, hlocks, hk, hP, hD, hA⟩ := fx
  have hown : s.vm.findClass RX2 = some m.cls := hown
  have hS : va_S A s.heap s.heap [] := va_S.rf
  have hP : va_P D vwCl [(d0, .inr (2, [.int (nI n), .ref d1, .ref d2, .ref d3, .ref d4, .ref d5])), (d1, .inl (cI, 8, .inl (g 0))), (d2, .inl (cI, 8, .inl (g 1))), (d3, .inl (cI, 8, .inl (g 2))), (d4, .inl (cI, 8, .inl (g 3))), (d5, .inl (cI, 8, .inl (g 4)))] s.heap := hP
  have hD : va_D A [(d0, .inr (2, [.int (nI n), .ref d1, .ref d2, .ref d3, .ref d4, .ref d5])), (d1, .inl (cI, 8, .inl (g 0))), (d2, .inl (cI, 8, .inl (g 1))), (d3, .inl (cI, 8, .inl (g 2))), (d4, .inl (cI, 8, .inl (g 3))), (d5, .inl (cI, 8, .inl (g 4)))] := hD
  have hl : lv_has ls 3 [(0, .ref d0), (1, .int (nI k)), (2, .int w)] := hl
  refine lv_aload_n hx hb dX2_fact_0 rfl (lv_at hl 0 rfl) ?_
  refine lv_iload_n hx hb dX2_fact_1 rfl (lv_at hl 1 rfl) ?_
  refine frI (wc := [(d0, .inr (2, [.int (nI n), .ref d1, .ref d2, .ref d3, .ref d4, .ref d5]))]) (wc' := [(d0, .inr (2, [.int (nI n), .ref d1, .ref d2, .ref d3, .ref d4, .ref d5]))]) (w' := [(d0, .inr (2, [.int (nI n), .ref d1, .ref d2, .ref d3, .ref d4, .ref d5])), (d1, .inl (cI, 8, .inl (g 0))), (d2, .inl (cI, 8, .inl (g 1))), (d3, .inl (cI, 8, .inl (g 2))), (d4, .inl (cI, 8, .inl (g 3))), (d5, .inl (cI, 8, .inl (g 4)))]) hP hD hS hA [0] [1, 2, 3, 4, 5] [5, 0, 1, 2, 3, 4] rfl rfl rfl rfl rfl (va_runV (As := [.int (nI k)]) (rest := []) ⟨hx, hb, hml, hown, hts⟩ (tX2_has l D cI d0 d1 d2 d3 d4 d5 n (nI k) (by omega) _) (cwV 1 hts gX2_fact_X2_has rfl rfl rfl hX2_has ⟨Nat.le_of_ble_eq_true rfl, Nat.le_of_ble_eq_true rfl⟩) (preV_of hk hP hD [0] rfl rfl (recvO hk hP (ci := 2) (q0 := 0) rfl rfl)) rfl rfl hl.1 rfl (lv_room (Nat.le_of_ble_eq_true rfl)) dX2_fact_2 ⟨Nat.le_of_ble_eq_true rfl, Nat.le_of_ble_eq_true rfl⟩) (fun H locs hP hD hS => ?_)
  refine top_int (hasI_1 (by omega) (by omega)) ?_
  refine lv_if_ne (tgt := 10) hx hb dX2_fact_5 (by decide) (fun _ => ?_) (fun h => absurd h (by decide))
  refine lv_iload_n hx hb dX2_fact_10 rfl (lv_at hl 2 rfl) ?_
  by_cases e0 : w = 0
  · refine top_int e0 ?_
    refine lv_tableIn (off := 29) (tgt := 40) hx hb dX2_fact_11 (by decide) (by decide) (by decide) (by decide) ?_
    refine lv_aload_n hx hb dX2_fact_40 rfl (lv_at hl 0 rfl) ?_
    refine va_get (D := D) (ci := 2) (v := .ref d1) (C := RX2) (T := TX2) (N := 6) hx hb hts iX2_fact_X2 hown hk.1 hP 0 rfl rfl 1 (by decide) (hts _ mX2_fact_f9) (fun _ h9 => h9) rfl dX2_fact_41 ?_
    refine lv_iload_n hx hb dX2_fact_44 rfl (lv_at hl 1 rfl) ?_
    refine aldN hx hb hk hP 1 rfl k rfl (by omega) (Nat.le_of_ble_eq_true rfl) dX2_fact_45 ?_
    exact retI hx hb hr hlocks hS hP hD dX2_fact_46 (by rw [fcD, if_pos e0]) rfl
  by_cases e1 : w = 1
  · refine top_int e1 ?_
    refine lv_tableIn (off := 36) (tgt := 47) hx hb dX2_fact_11 (by decide) (by decide) (by decide) (by decide) ?_
    refine lv_aload_n hx hb dX2_fact_47 rfl (lv_at hl 0 rfl) ?_
    refine va_get (D := D) (ci := 2) (v := .ref d2) (C := RX2) (T := TX2) (N := 6) hx hb hts iX2_fact_X2 hown hk.1 hP 0 rfl rfl 2 (by decide) (hts _ mX2_fact_f15) (fun _ h9 => h9) rfl dX2_fact_48 ?_
    refine lv_iload_n hx hb dX2_fact_51 rfl (lv_at hl 1 rfl) ?_
    refine aldN hx hb hk hP 2 rfl k rfl (by omega) (Nat.le_of_ble_eq_true rfl) dX2_fact_52 ?_
    exact retI hx hb hr hlocks hS hP hD dX2_fact_53 (by rw [fcD, if_neg e0, if_pos e1]) rfl
  by_cases e2 : w = 2
  · refine top_int e2 ?_
    refine lv_tableIn (off := 43) (tgt := 54) hx hb dX2_fact_11 (by decide) (by decide) (by decide) (by decide) ?_
    refine lv_aload_n hx hb dX2_fact_54 rfl (lv_at hl 0 rfl) ?_
    refine va_get (D := D) (ci := 2) (v := .ref d3) (C := RX2) (T := TX2) (N := 6) hx hb hts iX2_fact_X2 hown hk.1 hP 0 rfl rfl 3 (by decide) (hts _ mX2_fact_f18) (fun _ h9 => h9) rfl dX2_fact_55 ?_
    refine lv_iload_n hx hb dX2_fact_58 rfl (lv_at hl 1 rfl) ?_
    refine aldN hx hb hk hP 3 rfl k rfl (by omega) (Nat.le_of_ble_eq_true rfl) dX2_fact_59 ?_
    exact retI hx hb hr hlocks hS hP hD dX2_fact_60 (by rw [fcD, if_neg e0, if_neg e1, if_pos e2]) rfl
  by_cases e3 : w = 3
  · refine top_int e3 ?_
    refine lv_tableIn (off := 50) (tgt := 61) hx hb dX2_fact_11 (by decide) (by decide) (by decide) (by decide) ?_
    refine lv_aload_n hx hb dX2_fact_61 rfl (lv_at hl 0 rfl) ?_
    refine va_get (D := D) (ci := 2) (v := .ref d4) (C := RX2) (T := TX2) (N := 6) hx hb hts iX2_fact_X2 hown hk.1 hP 0 rfl rfl 4 (by decide) (hts _ mX2_fact_f21) (fun _ h9 => h9) rfl dX2_fact_62 ?_
    refine lv_iload_n hx hb dX2_fact_65 rfl (lv_at hl 1 rfl) ?_
    refine aldN hx hb hk hP 4 rfl k rfl (by omega) (Nat.le_of_ble_eq_true rfl) dX2_fact_66 ?_
    exact retI hx hb hr hlocks hS hP hD dX2_fact_67 (by rw [fcD, if_neg e0, if_neg e1, if_neg e2, if_pos e3]) rfl
  refine lv_tableOut (tgt := 68) hx hb dX2_fact_11 (tsw4 e0 e1 e2 e3) (by decide) ?_
  refine lv_aload_n hx hb dX2_fact_68 rfl (lv_at hl 0 rfl) ?_
  refine va_get (D := D) (ci := 2) (v := .ref d5) (C := RX2) (T := TX2) (N := 6) hx hb hts iX2_fact_X2 hown hk.1 hP 0 rfl rfl 5 (by decide) (hts _ mX2_fact_f24) (fun _ h9 => h9) rfl dX2_fact_69 ?_
  refine lv_iload_n hx hb dX2_fact_72 rfl (lv_at hl 1 rfl) ?_
  refine aldN hx hb hk hP 5 rfl k rfl (by omega) (Nat.le_of_ble_eq_true rfl) dX2_fact_73 ?_
  exact retI hx hb hr hlocks hS hP hD dX2_fact_74 (by rw [fcD, if_neg e0, if_neg e1, if_neg e2, if_neg e3]) rfl
end
