section
-- ===== PART A: goes FIRST, ahead of the names: the tables' words, and 'selects' of the private methods out of them =====
/-- a private method of a class that the tables say can be made, by its rows of tables_1 -/
def lw_okq (q : MethodName × Nat) : Prop := (q.1.cls ≠ "java/lang/invoke/MethodHandle" ∧ q.1.cls ≠ "java/lang/invoke/VarHandle") ∧ Cond.instantiable q.1.cls q.2 ∈ tables_1 ∧ Cond.privateMethod q.1 ∈ tables_1 ∧ Cond.instanceMethod q.1 ∈ tables_1
theorem lw_p0 : lw_okq (⟨"StarConsole$Show", "starsSeen", "(LStarConsole$Stars;)I"⟩, 9) := ⟨⟨by decide +kernel, by decide +kernel⟩, List.mem_of_getElem? (i := 74) (by decide +kernel), List.mem_of_getElem? (i := 221) (by decide +kernel), List.mem_of_getElem? (i := 222) (by decide +kernel)⟩
theorem lw_p1 : lw_okq (⟨"StarConsole$Show", "starSeen", "(LStarConsole$Stars;I)Z"⟩, 9) := ⟨⟨by decide +kernel, by decide +kernel⟩, List.mem_of_getElem? (i := 74) (by decide +kernel), List.mem_of_getElem? (i := 225) (by decide +kernel), List.mem_of_getElem? (i := 226) (by decide +kernel)⟩
theorem lw_p2 : lw_okq (⟨"StarConsole$Show", "outshines", "(II)Z"⟩, 9) := ⟨⟨by decide +kernel, by decide +kernel⟩, List.mem_of_getElem? (i := 74) (by decide +kernel), List.mem_of_getElem? (i := 237) (by decide +kernel), List.mem_of_getElem? (i := 238) (by decide +kernel)⟩
theorem lw_p3 : lw_okq (⟨"StarConsole$Show", "cometsSeen", "()I"⟩, 9) := ⟨⟨by decide +kernel, by decide +kernel⟩, List.mem_of_getElem? (i := 74) (by decide +kernel), List.mem_of_getElem? (i := 242) (by decide +kernel), List.mem_of_getElem? (i := 243) (by decide +kernel)⟩
theorem lw_p4 : lw_okq (⟨"StarConsole$Show", "cometSeen", "(I)Z"⟩, 9) := ⟨⟨by decide +kernel, by decide +kernel⟩, List.mem_of_getElem? (i := 74) (by decide +kernel), List.mem_of_getElem? (i := 246) (by decide +kernel), List.mem_of_getElem? (i := 247) (by decide +kernel)⟩
theorem lw_p5 : lw_okq (⟨"StarConsole", "joinedDimmers", "(J)J"⟩, 4) := ⟨⟨by decide +kernel, by decide +kernel⟩, List.mem_of_getElem? (i := 17) (by decide +kernel), List.mem_of_getElem? (i := 258) (by decide +kernel), List.mem_of_getElem? (i := 259) (by decide +kernel)⟩
theorem lw_p6 : lw_okq (⟨"StarConsole", "joinedStars", "(J)J"⟩, 4) := ⟨⟨by decide +kernel, by decide +kernel⟩, List.mem_of_getElem? (i := 17) (by decide +kernel), List.mem_of_getElem? (i := 270) (by decide +kernel), List.mem_of_getElem? (i := 271) (by decide +kernel)⟩
theorem lw_p7 : lw_okq (⟨"StarConsole", "joinedComets", "(J)J"⟩, 4) := ⟨⟨by decide +kernel, by decide +kernel⟩, List.mem_of_getElem? (i := 17) (by decide +kernel), List.mem_of_getElem? (i := 278) (by decide +kernel), List.mem_of_getElem? (i := 279) (by decide +kernel)⟩
theorem lw_p8 : lw_okq (⟨"StarConsole", "joinedCues", "(J)J"⟩, 4) := ⟨⟨by decide +kernel, by decide +kernel⟩, List.mem_of_getElem? (i := 17) (by decide +kernel), List.mem_of_getElem? (i := 286) (by decide +kernel), List.mem_of_getElem? (i := 287) (by decide +kernel)⟩
theorem lw_p9 : lw_okq (⟨"java/lang/Throwable", "fillInStackTrace", "(I)Ljava/lang/Throwable;"⟩, 6) := ⟨⟨by decide +kernel, by decide +kernel⟩, List.mem_of_getElem? (i := 344) (by decide +kernel), List.mem_of_getElem? (i := 342) (by decide +kernel), List.mem_of_getElem? (i := 343) (by decide +kernel)⟩
theorem lw_p10 : lw_okq (⟨"StarConsole$Dimmers", "darkenWithoutLife", "(I)V"⟩, 6) := ⟨⟨by decide +kernel, by decide +kernel⟩, List.mem_of_getElem? (i := 80) (by decide +kernel), List.mem_of_getElem? (i := 425) (by decide +kernel), List.mem_of_getElem? (i := 426) (by decide +kernel)⟩
theorem lw_p11 : lw_okq (⟨"StarConsole", "suits", "(III)Z"⟩, 4) := ⟨⟨by decide +kernel, by decide +kernel⟩, List.mem_of_getElem? (i := 17) (by decide +kernel), List.mem_of_getElem? (i := 452) (by decide +kernel), List.mem_of_getElem? (i := 453) (by decide +kernel)⟩
theorem lw_p12 : lw_okq (⟨"StarConsole$Show", "runCues", "(LStarConsole$Cues;)I"⟩, 9) := ⟨⟨by decide +kernel, by decide +kernel⟩, List.mem_of_getElem? (i := 74) (by decide +kernel), List.mem_of_getElem? (i := 498) (by decide +kernel), List.mem_of_getElem? (i := 499) (by decide +kernel)⟩
theorem lw_p13 : lw_okq (⟨"StarConsole$Show", "obey", "(III)V"⟩, 9) := ⟨⟨by decide +kernel, by decide +kernel⟩, List.mem_of_getElem? (i := 74) (by decide +kernel), List.mem_of_getElem? (i := 502) (by decide +kernel), List.mem_of_getElem? (i := 503) (by decide +kernel)⟩
theorem lw_p14 : lw_okq (⟨"StarConsole$Show", "speakOn", "()V"⟩, 9) := ⟨⟨by decide +kernel, by decide +kernel⟩, List.mem_of_getElem? (i := 74) (by decide +kernel), List.mem_of_getElem? (i := 529) (by decide +kernel), List.mem_of_getElem? (i := 530) (by decide +kernel)⟩
theorem lw_p15 : lw_okq (⟨"StarConsoleModel", "fail", "(I)I"⟩, 9) := ⟨⟨by decide +kernel, by decide +kernel⟩, List.mem_of_getElem? (i := 624) (by decide +kernel), List.mem_of_getElem? (i := 669) (by decide +kernel), List.mem_of_getElem? (i := 670) (by decide +kernel)⟩
def lw_privs_1 : List (MethodName × Nat) := [(⟨"StarConsole$Show", "starsSeen", "(LStarConsole$Stars;)I"⟩, 9), (⟨"StarConsole$Show", "starSeen", "(LStarConsole$Stars;I)Z"⟩, 9), (⟨"StarConsole$Show", "outshines", "(II)Z"⟩, 9), (⟨"StarConsole$Show", "cometsSeen", "()I"⟩, 9), (⟨"StarConsole$Show", "cometSeen", "(I)Z"⟩, 9), (⟨"StarConsole", "joinedDimmers", "(J)J"⟩, 4), (⟨"StarConsole", "joinedStars", "(J)J"⟩, 4), (⟨"StarConsole", "joinedComets", "(J)J"⟩, 4), (⟨"StarConsole", "joinedCues", "(J)J"⟩, 4), (⟨"java/lang/Throwable", "fillInStackTrace", "(I)Ljava/lang/Throwable;"⟩, 6), (⟨"StarConsole$Dimmers", "darkenWithoutLife", "(I)V"⟩, 6), (⟨"StarConsole", "suits", "(III)Z"⟩, 4), (⟨"StarConsole$Show", "runCues", "(LStarConsole$Cues;)I"⟩, 9), (⟨"StarConsole$Show", "obey", "(III)V"⟩, 9), (⟨"StarConsole$Show", "speakOn", "()V"⟩, 9), (⟨"StarConsoleModel", "fail", "(I)I"⟩, 9)]
theorem lw_r1 : ∀ q ∈ lw_privs_1, lw_okq q := List.forall_mem_cons.mpr ⟨lw_p0, List.forall_mem_cons.mpr ⟨lw_p1, List.forall_mem_cons.mpr ⟨lw_p2, List.forall_mem_cons.mpr ⟨lw_p3, List.forall_mem_cons.mpr ⟨lw_p4, List.forall_mem_cons.mpr ⟨lw_p5, List.forall_mem_cons.mpr ⟨lw_p6, List.forall_mem_cons.mpr ⟨lw_p7, List.forall_mem_cons.mpr ⟨lw_p8, List.forall_mem_cons.mpr ⟨lw_p9, List.forall_mem_cons.mpr ⟨lw_p10, List.forall_mem_cons.mpr ⟨lw_p11, List.forall_mem_cons.mpr ⟨lw_p12, List.forall_mem_cons.mpr ⟨lw_p13, List.forall_mem_cons.mpr ⟨lw_p14, List.forall_mem_cons.mpr ⟨lw_p15, fun _ h => absurd h List.not_mem_nil⟩⟩⟩⟩⟩⟩⟩⟩⟩⟩⟩⟩⟩⟩⟩⟩
theorem lw_p16 : lw_okq (⟨"StarConsoleModel", "isDimmer", "(I)Z"⟩, 9) := ⟨⟨by decide +kernel, by decide +kernel⟩, List.mem_of_getElem? (i := 624) (by decide +kernel), List.mem_of_getElem? (i := 680) (by decide +kernel), List.mem_of_getElem? (i := 681) (by decide +kernel)⟩
theorem lw_p17 : lw_okq (⟨"StarConsoleModel", "la", "(II)I"⟩, 9) := ⟨⟨by decide +kernel, by decide +kernel⟩, List.mem_of_getElem? (i := 624) (by decide +kernel), List.mem_of_getElem? (i := 684) (by decide +kernel), List.mem_of_getElem? (i := 685) (by decide +kernel)⟩
theorem lw_p18 : lw_okq (⟨"StarConsoleModel", "put", "(III)V"⟩, 9) := ⟨⟨by decide +kernel, by decide +kernel⟩, List.mem_of_getElem? (i := 624) (by decide +kernel), List.mem_of_getElem? (i := 688) (by decide +kernel), List.mem_of_getElem? (i := 689) (by decide +kernel)⟩
theorem lw_p19 : lw_okq (⟨"StarConsoleModel", "isCue", "(III)Z"⟩, 9) := ⟨⟨by decide +kernel, by decide +kernel⟩, List.mem_of_getElem? (i := 624) (by decide +kernel), List.mem_of_getElem? (i := 700) (by decide +kernel), List.mem_of_getElem? (i := 701) (by decide +kernel)⟩
theorem lw_p20 : lw_okq (⟨"StarConsoleModel", "ticksOn", "(I)I"⟩, 9) := ⟨⟨by decide +kernel, by decide +kernel⟩, List.mem_of_getElem? (i := 624) (by decide +kernel), List.mem_of_getElem? (i := 720) (by decide +kernel), List.mem_of_getElem? (i := 721) (by decide +kernel)⟩
theorem lw_p21 : lw_okq (⟨"StarConsoleModel", "tickOn", "()I"⟩, 9) := ⟨⟨by decide +kernel, by decide +kernel⟩, List.mem_of_getElem? (i := 624) (by decide +kernel), List.mem_of_getElem? (i := 724) (by decide +kernel), List.mem_of_getElem? (i := 725) (by decide +kernel)⟩
theorem lw_p22 : lw_okq (⟨"StarConsoleModel", "carryOut", "(I)V"⟩, 9) := ⟨⟨by decide +kernel, by decide +kernel⟩, List.mem_of_getElem? (i := 624) (by decide +kernel), List.mem_of_getElem? (i := 728) (by decide +kernel), List.mem_of_getElem? (i := 729) (by decide +kernel)⟩
theorem lw_p23 : lw_okq (⟨"StarConsoleModel", "glow", "(I)V"⟩, 9) := ⟨⟨by decide +kernel, by decide +kernel⟩, List.mem_of_getElem? (i := 624) (by decide +kernel), List.mem_of_getElem? (i := 732) (by decide +kernel), List.mem_of_getElem? (i := 733) (by decide +kernel)⟩
theorem lw_p24 : lw_okq (⟨"StarConsoleModel", "glareOf", "(I)I"⟩, 9) := ⟨⟨by decide +kernel, by decide +kernel⟩, List.mem_of_getElem? (i := 624) (by decide +kernel), List.mem_of_getElem? (i := 749) (by decide +kernel), List.mem_of_getElem? (i := 750) (by decide +kernel)⟩
theorem lw_p25 : lw_okq (⟨"StarConsoleModel", "starTold", "(II)I"⟩, 9) := ⟨⟨by decide +kernel, by decide +kernel⟩, List.mem_of_getElem? (i := 624) (by decide +kernel), List.mem_of_getElem? (i := 757) (by decide +kernel), List.mem_of_getElem? (i := 758) (by decide +kernel)⟩
theorem lw_p26 : lw_okq (⟨"StarConsoleModel", "stands", "(I)I"⟩, 9) := ⟨⟨by decide +kernel, by decide +kernel⟩, List.mem_of_getElem? (i := 624) (by decide +kernel), List.mem_of_getElem? (i := 761) (by decide +kernel), List.mem_of_getElem? (i := 762) (by decide +kernel)⟩
theorem lw_p27 : lw_okq (⟨"StarConsoleModel", "isSeen", "(II)Z"⟩, 9) := ⟨⟨by decide +kernel, by decide +kernel⟩, List.mem_of_getElem? (i := 624) (by decide +kernel), List.mem_of_getElem? (i := 765) (by decide +kernel), List.mem_of_getElem? (i := 766) (by decide +kernel)⟩
theorem lw_p28 : lw_okq (⟨"StarConsoleModel", "cometTold", "(II)I"⟩, 9) := ⟨⟨by decide +kernel, by decide +kernel⟩, List.mem_of_getElem? (i := 624) (by decide +kernel), List.mem_of_getElem? (i := 773) (by decide +kernel), List.mem_of_getElem? (i := 774) (by decide +kernel)⟩
theorem lw_p29 : lw_okq (⟨"StarConsoleModel", "counted", "(I)I"⟩, 9) := ⟨⟨by decide +kernel, by decide +kernel⟩, List.mem_of_getElem? (i := 624) (by decide +kernel), List.mem_of_getElem? (i := 781) (by decide +kernel), List.mem_of_getElem? (i := 782) (by decide +kernel)⟩
theorem lw_p30 : lw_okq (⟨"StarConsoleModel", "kept", "()[[I"⟩, 9) := ⟨⟨by decide +kernel, by decide +kernel⟩, List.mem_of_getElem? (i := 624) (by decide +kernel), List.mem_of_getElem? (i := 797) (by decide +kernel), List.mem_of_getElem? (i := 798) (by decide +kernel)⟩
theorem lw_p31 : lw_okq (⟨"StarConsoleModel", "bringBack", "([[I)V"⟩, 9) := ⟨⟨by decide +kernel, by decide +kernel⟩, List.mem_of_getElem? (i := 624) (by decide +kernel), List.mem_of_getElem? (i := 809) (by decide +kernel), List.mem_of_getElem? (i := 810) (by decide +kernel)⟩
def lw_privs_2 : List (MethodName × Nat) := [(⟨"StarConsoleModel", "isDimmer", "(I)Z"⟩, 9), (⟨"StarConsoleModel", "la", "(II)I"⟩, 9), (⟨"StarConsoleModel", "put", "(III)V"⟩, 9), (⟨"StarConsoleModel", "isCue", "(III)Z"⟩, 9), (⟨"StarConsoleModel", "ticksOn", "(I)I"⟩, 9), (⟨"StarConsoleModel", "tickOn", "()I"⟩, 9), (⟨"StarConsoleModel", "carryOut", "(I)V"⟩, 9), (⟨"StarConsoleModel", "glow", "(I)V"⟩, 9), (⟨"StarConsoleModel", "glareOf", "(I)I"⟩, 9), (⟨"StarConsoleModel", "starTold", "(II)I"⟩, 9), (⟨"StarConsoleModel", "stands", "(I)I"⟩, 9), (⟨"StarConsoleModel", "isSeen", "(II)Z"⟩, 9), (⟨"StarConsoleModel", "cometTold", "(II)I"⟩, 9), (⟨"StarConsoleModel", "counted", "(I)I"⟩, 9), (⟨"StarConsoleModel", "kept", "()[[I"⟩, 9), (⟨"StarConsoleModel", "bringBack", "([[I)V"⟩, 9)]
theorem lw_r2 : ∀ q ∈ lw_privs_2, lw_okq q := List.forall_mem_cons.mpr ⟨lw_p16, List.forall_mem_cons.mpr ⟨lw_p17, List.forall_mem_cons.mpr ⟨lw_p18, List.forall_mem_cons.mpr ⟨lw_p19, List.forall_mem_cons.mpr ⟨lw_p20, List.forall_mem_cons.mpr ⟨lw_p21, List.forall_mem_cons.mpr ⟨lw_p22, List.forall_mem_cons.mpr ⟨lw_p23, List.forall_mem_cons.mpr ⟨lw_p24, List.forall_mem_cons.mpr ⟨lw_p25, List.forall_mem_cons.mpr ⟨lw_p26, List.forall_mem_cons.mpr ⟨lw_p27, List.forall_mem_cons.mpr ⟨lw_p28, List.forall_mem_cons.mpr ⟨lw_p29, List.forall_mem_cons.mpr ⟨lw_p30, List.forall_mem_cons.mpr ⟨lw_p31, fun _ h => absurd h List.not_mem_nil⟩⟩⟩⟩⟩⟩⟩⟩⟩⟩⟩⟩⟩⟩⟩⟩
def lw_privs : List (MethodName × Nat) := lw_privs_1 ++ (lw_privs_2)
def lw_tbl : List Cond := k2_sels lw_privs ++ tables_1
theorem lw_privs_ok : ∀ q ∈ lw_privs, lw_okq q := by
  show ∀ q ∈ lw_privs_1 ++ (lw_privs_2), lw_okq q
  exact List.forall_mem_append.mpr ⟨lw_r1, lw_r2⟩
/-- the streams that the claim lets the run draw from -/
abbrev lw_cs : List Choice := [Jvm.Choice.named "NaN.bits"]
theorem lw_bits : nanBits ∈ lw_cs := by first | decide | exact List.mem_cons_self | simp [lw_cs, nanBits]
end
section
/-! ===== BEGIN words of one list among another's, by their places ===== -/
theorem goodIn_r {big : List Cond} (ws : List Cond) (ps : List Nat) (hp : ws = ps.filterMap (fun i => big[i]?)) (h : ws.all goodWord = true) : GoodIn big ws := by
  intro w hw
  have h1 := List.all_eq_true.mp h w hw
  rw [hp] at hw
  obtain ⟨i, -, hi⟩ := List.mem_filterMap.mp hw
  have hm : w ∈ big := by first | exact List.mem_of_getElem? hi | exact List.getElem?_mem hi
  exact ⟨hm, good_of_word h1⟩
theorem goodIn_app {big a b : List Cond} (ha : GoodIn big a) (hb : GoodIn big b) : GoodIn big (a ++ b) := fun w h => (List.mem_append.mp h).elim (ha w) (hb w)
theorem goodIn_ca {big a b : List Cond} {c : Cond} (ha : GoodIn big (c :: a)) (hb : GoodIn big b) : GoodIn big (c :: (a ++ b)) := fun w h => (List.mem_cons.mp h).elim (fun e => ha w (List.mem_cons.mpr (Or.inl e))) (fun h => (List.mem_append.mp h).elim (fun h => ha w (List.mem_cons.mpr (Or.inr h))) (hb w))
theorem goodIn_sub {big ws : List Cond} (hm : ∀ w ∈ ws, w ∈ big) (h : ws.all goodWord = true) : GoodIn big ws := fun w hw => ⟨hm w hw, good_of_word (List.all_eq_true.mp h w hw)⟩
/-! ===== END ===== -/

/-! ===== BEGIN exceptions that leave a method, and their catching by the caller (launches without stack traces) ===== -/
section VXA
/-! The laws vx_back, vx_callV, vx_callS, vx_callSW, vx_throw0, vx_throwS follow proofs of the library, with one case more: JvmDerived/Free/Laws.lean (Back.of_free), Shelf42/LK1.lean (callV, callS), Shelf/KitTraced.lean (throwNew0V, throwNewS). -/
/-- where a method has thrown q: the class by its name, the cell, what was written, the world -/
def vx_T (XC : String → State → State → Prop) (st : State) (q : Addr) (t : State) (mc ms : Nat) (free : Addr → Prop) : Prop :=
  ∃ (E : String) (ce : Cell) (L : List Loc), XC E st t ∧ t.heap[q]? = some ce ∧ ce.vm = .none ∧ st.vm.findClass E = some ce.cls ∧ st.WarmedH t.vm ∧ st.sameButNew ({ t with vm := st.vm } : State) L mc ms ∧ ∀ z ∈ L, free z.base
def vx_Q (Qc : Array Value → State → Outcome → State → Prop) (XC : String → State → State → Prop) (mc ms : Nat) (free : Addr → Prop) : Array Value → State → Outcome → State → Prop := fun a st o t =>
  (Qc a st o t ∧ ∃ L, FrameEnd st o t L mc ms ∧ ∀ q ∈ L, free q.base) ∨ ∃ q, o = .threw q ∧ vx_T XC st q t mc ms free
/-- a callee that returns or throws -/
def vx_Met (l : Launch) (y : MethodName) (ws : List Cond) (rm : Room) (Pc : Array Value → State → Prop) (Qc : Array Value → State → Outcome → State → Prop) (XC : String → State → State → Prop) (mc ms : Nat) (free : Addr → Prop) : Prop :=
  MetFree l y (headSpec ws rm) Pc (fun _ _ _ _ _ => True) (vx_Q Qc XC mc ms free)
def vx_Post (XC : String → State → State → Prop) (mc ms : Nat) (free : Addr → Prop) : Pt → Array Value → Addr → Pt → Prop := fun A a q B =>
  ∃ (g : JFrame) (mk : MethodId) (t : State) (L : List Loc) (E : String) (ce : Cell), B.U.heap = t.heap ∧ B.U.vm = t.vm ∧ XC E (A.U.calling g mk a) t ∧ t.heap[q]? = some ce ∧ ce.vm = .none ∧ A.U.vm.findClass E = some ce.cls ∧ B.locs = A.locs ++ L ∧ (∀ z ∈ L, free z.base) ∧ B.cells = A.cells + mc ∧ B.slots = A.slots + ms
def vx_Back (l : Launch) (R : Room) (p : Program) (e : Env) (below : List Frame) (s : State) (sargs : Array Value) (y : MethodName) (len W9 : Nat)
    (Pre : Pt → Array Value → Prop) (Post : Pt → Array Value → Option Value → Pt → Prop) (PostX : Pt → Array Value → Addr → Pt → Prop) : Prop :=
  ∀ (m : MethodId) (meth : Method) (c : Code) (A : Pt) (g : JFrame) (ig : Instr) (mk : MethodId) (a : Array Value),
    Stand p l e R s m sargs below meth c A.U A.locs A.cells A.slots → g.method = m → g.locals.size = c.maxLocals → decode c.code g.pc = .ok (ig, len) →
    2 * g.monitorRoom + (g.stack.map fun v => v.category).sum ≤ W9 → A.U.methodNamed? y = some mk → Pre A a →
    (∃ (v : Option Value) (B : Pt), Stand p l e R s m sargs below meth c B.U B.locs B.cells B.slots ∧ Post A a v B ∧
      Steps p.tables e below (doInvoke e (A.U.setTop g) [] mk a).1 (B.U.setTop { g with pc := g.pc + len, stack := v.toList ++ g.stack })) ∨
    (∃ (q : Addr) (B : Pt), Stand p l e R s m sargs below meth c B.U B.locs B.cells B.slots ∧ PostX A a q B ∧
      Steps p.tables e below (doInvoke e (A.U.setTop g) [] mk a).1 ((B.U.setTop g).pushFrame (.throwing q)))
section Payer
variable {l : Launch} {R : Room} {p : Program} {e : Env} {below : List Frame} {s : State} {sargs : Array Value} {y : MethodName} {len W9 : Nat}
theorem vx_back {ws : List Cond} {rm : Room} {Pc : Array Value → State → Prop} {Qc : Array Value → State → Outcome → State → Prop} {XC : String → State → State → Prop} {mc ms : Nat} {free : Addr → Prop} {bytes : ByteArray} {maxL : Nat} {ret : Option FieldType}
    (hM : vx_Met l y ws rm Pc Qc XC mc ms free) (hblind : FrameBlind Pc) (hrc : rm.cells = mc) (hrs : rm.slots = ms)
    (hframes : rm.frames + 1 ≤ R.frames) (hlocals : W9 + (maxL + 11) + rm.locals ≤ R.locals)
    (hws : ∀ w ∈ ws, ∀ a' U, s.WarmedH U.vm → w.before a' U = true) (hcode : Cond.code y bytes maxL ret ∈ ws) (hinit : ∀ a' U, s.WarmedH U.vm → (Cond.initialized y.cls).before a' U = true) :
    vx_Back l R p e below s sargs y len W9 (PreOf R mc ms Pc) (PostOf Qc mc ms free) (vx_Post XC mc ms free) := by
  intro m meth c A g ig mk a X hg hsize hdg hW hn hp
  have h1 : (headSpec ws rm).pre.before a A.U = true := atoms_intro fun w hw => hws w hw _ _ X.warmed
  have h2 : (Cond.code y bytes maxL ret).before a A.U = true := hws _ hcode _ _ X.warmed
  have h3 : (Cond.initialized y.cls).before a A.U = true := hinit _ _ X.warmed
  have h4 : A.cells + (headSpec ws rm).room.cells ≤ R.cells := by rw [show (headSpec ws rm).room.cells = mc from hrc]; exact hp.1
  have h5 : A.slots + (headSpec ws rm).room.slots ≤ R.slots := by rw [show (headSpec ws rm).room.slots = ms from hrs]; exact hp.2.1
  have hPc : Pc a (A.U.calling g mk a) := hblind _ _ _ _ hp.2.2
  obtain ⟨U, Ls, c0, s0⟩ := A
  dsimp only [Pt.U, Pt.locs, Pt.cells, Pt.slots] at h1 h2 h3 h4 h5 X hn hPc ⊢
  obtain ⟨methY, cY, hmY, hcY, -, hlY, -, -, -, -⟩ := Cond.code_spec hn h2
  obtain ⟨kY, hkY, -⟩ := className_of_methodNamed hn
  have hinitY : kY.init = .initialized := Cond.initialized_spec (findClass_of_methodNamed hn) hkY h3
  have h : At U g.method c below := by rw [hg]; exact X.here
  have hlocals9 : W9 + (maxL + 11) + (headSpec ws rm).room.locals ≤ R.locals := hlocals
  have happ : (headSpec ws rm).appliesLoose y e.platform (U.calling g mk a) = true :=
    Spec.appliesLoose_calling (g := g) h hdg hn hkY hinitY
      (X.room_calling (g := g) (R' := (headSpec ws rm).room) hsize hmY hcY hframes (by rw [hlY]; omega) h4 h5) h1
  obtain ⟨mid, hmid⟩ := h.above
  have hfr : (U.setTop g).frames = (.java g :: mid) ++ below := by rw [State.frames_setTop' g h.top, hmid]; rfl
  obtain ⟨o, s₂, hsteps, -, hend, hq⟩ := Steps.callFree hM p X.admits X.cas X.clock (acts := []) hfr happ hPc trivial
  have hq' : vx_Q Qc XC mc ms free a (U.calling g mk a) o s₂ := hq
  rw [State.frames_setTop' g h.top] at hend
  obtain ⟨g₀, hg0⟩ := Option.isSome_iff_exists.mp h.top
  obtain ⟨r, hr⟩ := State.topJava?_eq_some.mp hg0
  have hr' : (({ U with heap := s₂.heap, slotsUsed := s₂.slotsUsed } : State).setVm s₂.vm).frames = .java g₀ :: r := hr
  rcases hq' with ⟨hqc, L, hfe, hL⟩ | ⟨q, rfl, E, ce, L, hx, hce, hcv, hcl, hW₂, hsm, hL⟩
  · obtain ⟨⟨v, rfl⟩, hW₂, e2, q2, q3, q4, q5, q6⟩ := id hfe
    have e3 : s₂ = ({ (U.calling g mk a).setFrames s₂.frames with heap := s₂.heap, slotsUsed := s₂.slotsUsed } : State).setVm s₂.vm := by
      have : s₂ = ({ s₂ with vm := (U.calling g mk a).vm } : State).setVm s₂.vm := rfl
      rw [e2] at this
      exact this
    obtain ⟨c₂, i₂, len₂, hc₂, hd₂, hf₂⟩ := hend
    have hW' : U.WarmedH s₂.vm := hW₂
    have hcc : c₂ = c := by
      have h1 : s₂.code? g.method = U.code? g.method := by
        rw [State.code?_eq, State.code?_eq, hW'.alike.method?]
      exact Option.some.inj (hc₂.symm.trans (h1.trans h.code))
    subst hcc
    have hlen : len₂ = len := by rw [hdg] at hd₂; cases hd₂; rfl
    subst hlen
    have hs₂ : s₂ = (({ U with heap := s₂.heap, slotsUsed := s₂.slotsUsed } : State).setVm s₂.vm).setTop { g with pc := g.pc + len₂, stack := v.toList ++ g.stack } := by
      refine e3.trans ?_
      rw [hf₂, State.calling_eq h.top, State.setFrames_setFrames, State.setTop_of_frames _ hr', hr]
      rfl
    have hsame : U.sameButNew ({ U with heap := s₂.heap, slotsUsed := s₂.slotsUsed } : State) L mc ms := by
      refine ⟨?_, q2, q3, q4, q5, q6⟩
      obtain ⟨t, ht, -⟩ := State.frames_cons hr
      show ({ U with heap := s₂.heap, slotsUsed := s₂.slotsUsed } : State) = { U.setFrames U.frames with heap := s₂.heap, slotsUsed := s₂.slotsUsed }
      rw [State.setFrames_self ht]
    subst hg
    refine Or.inl ⟨v, ⟨(({ U with heap := s₂.heap, slotsUsed := s₂.slotsUsed } : State).setVm s₂.vm), Ls ++ L, c0 + mc, s0 + ms⟩,
      ⟨X.admits, X.cas, X.clock, X.frames, X.room, X.hears, X.method, X.code, (X.here.setHeapUsed s₂.heap s₂.slotsUsed).setVm hW'.alike, X.tail, State.WarmedH.trans X.warmed hW', X.limits, X.bytes, X.same.trans (hsame.setVm s.vm)⟩,
      ⟨g, mk, s₂, L, rfl, rfl, hqc, rfl, hL, rfl, rfl⟩, ?_⟩
    show Steps p.tables e below _ ((({ U with heap := s₂.heap, slotsUsed := s₂.slotsUsed } : State).setVm s₂.vm).setTop { g with pc := g.pc + len₂, stack := v.toList ++ g.stack })
    rw [← hs₂]
    exact hsteps
  · obtain ⟨e2, q2, q3, q4, q5, q6⟩ := id hsm
    have e3 : s₂ = ({ (U.calling g mk a).setFrames s₂.frames with heap := s₂.heap, slotsUsed := s₂.slotsUsed } : State).setVm s₂.vm := by
      have : s₂ = ({ s₂ with vm := (U.calling g mk a).vm } : State).setVm s₂.vm := rfl
      rw [e2] at this
      exact this
    have hf₂ : s₂.frames = .throwing q :: .java g :: U.frames.tail := hend
    have hW' : U.WarmedH s₂.vm := hW₂
    have hs₂ : s₂ = ((({ U with heap := s₂.heap, slotsUsed := s₂.slotsUsed } : State).setVm s₂.vm).setTop g).pushFrame (.throwing q) := by
      refine e3.trans ?_
      rw [hf₂, State.calling_eq h.top, State.setFrames_setFrames, State.pushFrame, State.frames_setTop _ hr', State.setTop_of_frames _ hr', State.setFrames_setFrames, hr]
      rfl
    have hsame : U.sameButNew ({ U with heap := s₂.heap, slotsUsed := s₂.slotsUsed } : State) L mc ms := by
      refine ⟨?_, q2, q3, q4, q5, q6⟩
      obtain ⟨t, ht, -⟩ := State.frames_cons hr
      show ({ U with heap := s₂.heap, slotsUsed := s₂.slotsUsed } : State) = { U.setFrames U.frames with heap := s₂.heap, slotsUsed := s₂.slotsUsed }
      rw [State.setFrames_self ht]
    subst hg
    refine Or.inr ⟨q, ⟨(({ U with heap := s₂.heap, slotsUsed := s₂.slotsUsed } : State).setVm s₂.vm), Ls ++ L, c0 + mc, s0 + ms⟩,
      ⟨X.admits, X.cas, X.clock, X.frames, X.room, X.hears, X.method, X.code, (X.here.setHeapUsed s₂.heap s₂.slotsUsed).setVm hW'.alike, X.tail, State.WarmedH.trans X.warmed hW', X.limits, X.bytes, X.same.trans (hsame.setVm s.vm)⟩,
      ⟨g, mk, s₂, L, E, ce, rfl, rfl, hx, hce, hcv, hcl, rfl, hL, rfl, rfl⟩, ?_⟩
    show Steps p.tables e below _ (((({ U with heap := s₂.heap, slotsUsed := s₂.slotsUsed } : State).setVm s₂.vm).setTop g).pushFrame (.throwing q))
    rw [← hs₂]
    exact hsteps
end Payer
section Calls
variable {p : Program} {l : Launch} {e : Env} {R : Room} {s : State} {m : MethodId} {args : Array Value} {below : List Frame} {meth : Method} {c : Code} {T : State} {locs : List Loc} {cells slots : Nat}
theorem vx_callV (X : Stand p l e R s m args below meth c T locs cells slots) (hexec : p.tables.exec = Jvm.exec) {own C : String} {index : Nat} {y : MethodName} {bytes : ByteArray} {maxL : Nat} {ret : Option FieldType}
    (hown : s.vm.findClass own = some m.cls) (hlink : (Cond.methodLink own index y).before args s = true) (hinst : (Cond.instanceMethod y).before args s = true) (hsel : (Cond.selects C y y).before args s = true)
    (hcode : (Cond.code y bytes maxL ret).before args s = true) (hy : y.cls ≠ "java/lang/invoke/MethodHandle" ∧ y.cls ≠ "java/lang/invoke/VarHandle")
    {W9 : Nat} {Pre : Pt → Array Value → Prop} {Post : Pt → Array Value → Option Value → Pt → Prop} {PostX : Pt → Array Value → Addr → Pt → Prop} (hK : vx_Back l R p e below s args y 3 W9 Pre Post PostX)
    {b : Addr} {cellB : Cell} (hcell : T.heap[b]? = some cellB) (hobj : cellB.vm.isStatics = false) (hcls : s.vm.findClass C = some cellB.cls)
    {g : JFrame} (hg : g.method = m) (hsize : g.locals.size = c.maxLocals) {argsL rest : List Value} (hlen : ∀ sig, parseMethodDescriptor y.desc = some sig → argsL.length = sig.parameters.length)
    (hstack : g.stack = argsL.reverse ++ .ref b :: rest) (hW : 2 * g.monitorRoom + (rest.map fun v => v.category).sum ≤ W9) (hdg : decode c.code g.pc = .ok (.invokevirtual index, 3))
    (hpre : ∀ vm₁, s.WarmedH vm₁ → Pre ⟨T.setVm vm₁, locs, cells, slots⟩ (Value.ref b :: argsL).toArray) :
    (∃ (v : Option Value) (vm₁ : Vm) (B : Pt), s.WarmedH vm₁ ∧ Stand p l e R s m args below meth c B.U B.locs B.cells B.slots ∧ Post ⟨T.setVm vm₁, locs, cells, slots⟩ (Value.ref b :: argsL).toArray v B ∧
      ∀ target, Steps p.tables e below (B.U.setTop { g with pc := g.pc + 3, stack := v.toList ++ rest }) target → Steps p.tables e below (T.setTop g) target) ∨
    (∃ (q : Addr) (vm₁ : Vm) (B : Pt), s.WarmedH vm₁ ∧ Stand p l e R s m args below meth c B.U B.locs B.cells B.slots ∧ PostX ⟨T.setVm vm₁, locs, cells, slots⟩ (Value.ref b :: argsL).toArray q B ∧
      Steps p.tables e below (T.setTop g) ((B.U.setTop { g with stack := rest }).pushFrame (.throwing q))) := by
  obtain ⟨mk, methM, hnamed, hmethM, hstM, habM⟩ := Cond.instanceMethod_spec hinst
  obtain ⟨methM', cM, hmethM', -, -, -, -, -, -, hsigM⟩ := Cond.code_spec hnamed hcode
  cases hmethM.symm.trans hmethM'
  obtain ⟨c2, r2, m2, q1, q2, q3, q4, kP, hkP, hkPi⟩ := Cond.selects_spec hsel
  cases hcls.symm.trans q1
  cases (State.methodFound?_of_named hnamed hy).symm.trans q2
  cases hnamed.symm.trans q3
  have hselP : selectMethod e.platform s.vm cellB.cls mk = .method mk := by rw [Launch.admits_selectMethod X.admits]; exact q4
  obtain ⟨vm₁, X₁, hstep₁⟩ := X.invokevirtual hexec hown hlink hnamed hmethM hstM hkP hkPi hy (a := b) (cell := cellB) hcell
    (fun z h => by rw [h] at hobj; cases hobj) hselP hmethM habM hkP hkPi (g := g) hg (argsL := argsL) (rest := rest) (hlen _ hsigM) hstack hdg
  rcases hK m meth c ⟨T.setVm vm₁, locs, cells, slots⟩ { g with stack := rest } (.invokevirtual index) mk (Value.ref b :: argsL).toArray X₁ hg hsize hdg hW (X₁.named hnamed) (hpre vm₁ X₁.warmed) with ⟨v, B, X', hpost, hsteps⟩ | ⟨q, B, X', hpost, hsteps⟩
  · exact Or.inl ⟨v, vm₁, B, X₁.warmed, X', hpost, fun target h => hstep₁ _ fun acts => by rw [doInvoke_state]; exact hsteps.trans h⟩
  · exact Or.inr ⟨q, vm₁, B, X₁.warmed, X', hpost, hstep₁ _ fun acts => by rw [doInvoke_state]; exact hsteps⟩
theorem vx_callS (X : Stand p l e R s m args below meth c T locs cells slots) (hexec : p.tables.exec = Jvm.exec) {own : String} {index : Nat} {y : MethodName} {bytes : ByteArray} {maxL : Nat} {ret : Option FieldType}
    (hown : s.vm.findClass own = some m.cls) (hlink : (Cond.methodLink own index y).before args s = true) (hstat : (Cond.static y).before args s = true) (hinit : (Cond.initialized y.cls).before args s = true)
    (hcode : (Cond.code y bytes maxL ret).before args s = true) (hy : y.cls ≠ "java/lang/invoke/MethodHandle" ∧ y.cls ≠ "java/lang/invoke/VarHandle")
    {W9 : Nat} {Pre : Pt → Array Value → Prop} {Post : Pt → Array Value → Option Value → Pt → Prop} {PostX : Pt → Array Value → Addr → Pt → Prop} (hK : vx_Back l R p e below s args y 3 W9 Pre Post PostX)
    {g : JFrame} (hg : g.method = m) (hsize : g.locals.size = c.maxLocals) {argsL rest : List Value} (hlen : ∀ sig, parseMethodDescriptor y.desc = some sig → argsL.length = sig.parameters.length)
    (hstack : g.stack = argsL.reverse ++ rest) (hW : 2 * g.monitorRoom + (rest.map fun v => v.category).sum ≤ W9) (hdg : decode c.code g.pc = .ok (.invokestatic index, 3))
    (hpre : ∀ vm₁, s.WarmedH vm₁ → Pre ⟨T.setVm vm₁, locs, cells, slots⟩ argsL.toArray) :
    (∃ (v : Option Value) (vm₁ : Vm) (B : Pt), s.WarmedH vm₁ ∧ Stand p l e R s m args below meth c B.U B.locs B.cells B.slots ∧ Post ⟨T.setVm vm₁, locs, cells, slots⟩ argsL.toArray v B ∧
      ∀ target, Steps p.tables e below (B.U.setTop { g with pc := g.pc + 3, stack := v.toList ++ rest }) target → Steps p.tables e below (T.setTop g) target) ∨
    (∃ (q : Addr) (vm₁ : Vm) (B : Pt), s.WarmedH vm₁ ∧ Stand p l e R s m args below meth c B.U B.locs B.cells B.slots ∧ PostX ⟨T.setVm vm₁, locs, cells, slots⟩ argsL.toArray q B ∧
      Steps p.tables e below (T.setTop g) ((B.U.setTop { g with stack := rest }).pushFrame (.throwing q))) := by
  obtain ⟨mk, hnamed⟩ := Cond.code_named hcode
  obtain ⟨methM, cM, hmethM, -, -, -, -, -, -, hsigM⟩ := Cond.code_spec hnamed hcode
  have hstatic : methM.isStatic = true := Cond.static_spec hnamed hmethM hstat
  obtain ⟨kP, hkP, -⟩ := className_of_methodNamed hnamed
  have hinitP : kP.init = .initialized := Cond.initialized_spec (findClass_of_methodNamed hnamed) hkP hinit
  obtain ⟨vm₁, X₁, hstep₁⟩ := X.invokestatic hexec hown hlink hnamed hmethM hstatic hkP hinitP hy (g := g) hg (argsL := argsL) (rest := rest) (hlen _ hsigM) hstack hdg
  rcases hK m meth c ⟨T.setVm vm₁, locs, cells, slots⟩ { g with stack := rest } (.invokestatic index) mk argsL.toArray X₁ hg hsize hdg hW (X₁.named hnamed) (hpre vm₁ X₁.warmed) with ⟨v, B, X', hpost, hsteps⟩ | ⟨q, B, X', hpost, hsteps⟩
  · exact Or.inl ⟨v, vm₁, B, X₁.warmed, X', hpost, fun target h => hstep₁ _ fun acts => by rw [doInvoke_state]; exact hsteps.trans h⟩
  · exact Or.inr ⟨q, vm₁, B, X₁.warmed, X', hpost, hstep₁ _ fun acts => by rw [doInvoke_state]; exact hsteps⟩
end Calls
theorem vx_cls {s : State} {T : State} {vm₁ : Vm} {E : String} {k : ClassId} (hW : s.WarmedH vm₁) (h : (T.setVm vm₁).vm.findClass E = some k) : s.vm.findClass E = some k := by
  have h1 : vm₁.findClass E = some k := h
  rw [hW.alike.findClass] at h1
  exact h1
/-- the method's frame g, with q thrown over it -/
def vx_W (p : Program) (l : Launch) (e : Env) (R : Room) (s : State) (m : MethodId) (args : Array Value) (below : List Frame) (meth : Method) (c : Code) (H : Heap) (locs : List Loc) (cells slots : Nat) (Q : State → Prop) (g : JFrame) (q : Addr) : Prop :=
  ∀ T : State, T.heap = H → Stand p l e R s m args below meth c T locs cells slots → ∃ t, Steps p.tables e below ((T.setTop g).pushFrame (.throwing q)) t ∧ Q t
def vx_Run (p : Program) (l : Launch) (e : Env) (R : Room) (s : State) (m : MethodId) (args : Array Value) (below : List Frame) (meth : Method) (c : Code) (H : Heap) (locs : List Loc) (cells slots mc ms : Nat) (g : JFrame) (rest : List Value) (Qa : State → Outcome → State → Prop) (XC : String → State → State → Prop) (free : Addr → Prop) : Prop :=
  ∀ T : State, T.heap = H → Stand p l e R s m args below meth c T locs cells slots →
    (∃ (v : Option Value) (st₀ t T' : State) (L : List Loc), st₀.heap = H ∧ Stand p l e R s m args below meth c T' (locs ++ L) (cells + mc) (slots + ms) ∧ (∀ q ∈ L, free q.base) ∧ T'.heap = t.heap ∧ T'.vm = t.vm ∧ Qa st₀ (.returned v) t ∧
      Goes p e below T g T' { g with pc := g.pc + 3, stack := v.toList ++ rest }) ∨
    (∃ (q : Addr) (st₀ t T' : State) (L : List Loc) (E : String) (ce : Cell), st₀.heap = H ∧ Stand p l e R s m args below meth c T' (locs ++ L) (cells + mc) (slots + ms) ∧ (∀ z ∈ L, free z.base) ∧ T'.heap = t.heap ∧ T'.vm = t.vm ∧ XC E st₀ t ∧ t.heap[q]? = some ce ∧ ce.vm = .none ∧ s.vm.findClass E = some ce.cls ∧
      Steps p.tables e below (T.setTop g) ((T'.setTop { g with stack := rest }).pushFrame (.throwing q)))
def vx_X {S : Type} (px : S → Prop) (B : String → S → State → Prop) (A : Nat → Prop) : String → State → State → Prop := fun E st t => ∃ u : S, px u ∧ B E u t ∧ va_F A st t
section Runs
variable {p : Program} {l : Launch} {e : Env} {R : Room} {s : State} {m : MethodId} {args : Array Value} {below : List Frame} {meth : Method} {c : Code} {H : Heap} {locs : List Loc} {cells slots : Nat}
variable {y : MethodName} {bytes cc : ByteArray} {maxL nL mc ms n index : Nat} {ret : Option FieldType} {ws : List Cond} {rm : Room} {Pc : Array Value → State → Prop} {Qc : Array Value → State → Outcome → State → Prop} {XC : String → State → State → Prop} {free : Addr → Prop} {Ts : List Cond} {own C : String} {b : Addr} {As rest : List Value} {g : JFrame}
theorem vx_callBack (cb : CallB R s args own index y bytes maxL ret ws rm mc ms n) (hM : vx_Met l y ws rm Pc Qc XC mc ms free) (hbl : FrameBlind Pc) : vx_Back l R p e below s args y 3 8 (PreOf R mc ms Pc) (PostOf Qc mc ms free) (vx_Post XC mc ms free) := by
  obtain ⟨hrc, hrs, hfr, hlo, hws, hcw, -, hini, -⟩ := cb
  exact vx_back (bytes := bytes) (maxL := maxL) (ret := ret) hM hbl hrc hrs hfr hlo hws hcw (fun a' U hW => word_at hW (Or.inl (by first | rfl | simp [Cond.onTables, Cond.keeps, Cond.steady])) hini)
theorem vx_runV (S : CallFix p m c cc nL s args Ts own) (hM : vx_Met l y ws rm Pc Qc XC mc ms free) (cw : CallW R s args own C index y bytes maxL ret ws rm mc ms n) (hp : PreV s H C b Pc As)
    (hg : g.method = m) (hn : As.length = n) (hsize : g.locals.size = nL) (hstack : g.stack = As.reverse ++ .ref b :: rest) (hW : 2 * g.monitorRoom + (rest.map fun v => v.category).sum ≤ 8) (hdg : decode cc g.pc = .ok (.invokevirtual index, 3)) (hf : cells + mc ≤ R.cells ∧ slots + ms ≤ R.slots) :
    vx_Run p l e R s m args below meth c H locs cells slots mc ms g rest (Qc (Value.ref b :: As).toArray) XC free := by
  have hK : vx_Back l R p e below s args y 3 8 (PreOf R mc ms Pc) (PostOf Qc mc ms free) (vx_Post XC mc ms free) := vx_callBack cw.1 hM hp.1
  obtain ⟨⟨-, -, -, -, -, -, hcode, -, hy, hlen, hl⟩, hin, hse⟩ := cw
  obtain ⟨hx, hb, hml, ho, -⟩ := S
  obtain ⟨-, ⟨cellB, hcB, hoB, hclB⟩, hPc⟩ := hp
  intro T hT X
  rcases vx_callV X hx (C := C) (bytes := bytes) (maxL := maxL) (ret := ret) ho hl hin hse hcode hy hK (by rw [hT]; exact hcB) hoB hclB hg (hsize.trans hml.symm) (argsL := As) (rest := rest) (fun sig h => hn.trans (hlen sig h)) hstack hW (by rw [hb]; exact hdg)
    (fun vm₁ hW₁ => ⟨hf.1, hf.2, hPc (T.setVm vm₁) hT hW₁⟩) with ⟨v, vm₁, ⟨U', l2, c2, s2⟩, hW₁, X', ⟨g', mk, t, L, e1, e2, hq, h1, hL, h2, h3⟩, st⟩ | ⟨q, vm₁, ⟨U', l2, c2, s2⟩, hW₁, X', ⟨g', mk, t, L, E, ce, e1, e2, hq, hce, hcv, hcl, h1, hL, h2, h3⟩, st⟩
  · dsimp only [Pt.U, Pt.locs, Pt.cells, Pt.slots] at X' e1 e2 h1 h2 h3 st
    subst h1; subst h2; subst h3
    exact Or.inl ⟨v, (T.setVm vm₁).calling g' mk (Value.ref b :: As).toArray, t, U', L, hT, X', hL, e1, e2, hq, st⟩
  · dsimp only [Pt.U, Pt.locs, Pt.cells, Pt.slots] at X' e1 e2 h1 h2 h3 st hcl
    subst h1; subst h2; subst h3
    exact Or.inr ⟨q, (T.setVm vm₁).calling g' mk (Value.ref b :: As).toArray, t, U', L, E, ce, hT, X', hL, e1, e2, hq, hce, hcv, vx_cls hW₁ hcl, st⟩
theorem vx_runS (S : CallFix p m c cc nL s args Ts own) (hM : vx_Met l y ws rm Pc Qc XC mc ms free) (cw : CallB R s args own index y bytes maxL ret ws rm mc ms n ∧ (Cond.static y).before args s = true) (hp : PreS s H Pc As)
    (hg : g.method = m) (hn : As.length = n) (hsize : g.locals.size = nL) (hstack : g.stack = As.reverse ++ rest) (hW : 2 * g.monitorRoom + (rest.map fun v => v.category).sum ≤ 8) (hdg : decode cc g.pc = .ok (.invokestatic index, 3)) (hf : cells + mc ≤ R.cells ∧ slots + ms ≤ R.slots) :
    vx_Run p l e R s m args below meth c H locs cells slots mc ms g rest (Qc As.toArray) XC free := by
  have hK : vx_Back l R p e below s args y 3 8 (PreOf R mc ms Pc) (PostOf Qc mc ms free) (vx_Post XC mc ms free) := vx_callBack cw.1 hM hp.1
  obtain ⟨⟨-, -, -, -, -, -, hcode, hini, hy, hlen, hl⟩, hstt⟩ := cw
  obtain ⟨hx, hb, hml, ho, -⟩ := S
  intro T hT X
  rcases vx_callS X hx (bytes := bytes) (maxL := maxL) (ret := ret) ho hl hstt hini hcode hy hK hg (hsize.trans hml.symm) (argsL := As) (rest := rest) (fun sig h => hn.trans (hlen sig h)) hstack hW (by rw [hb]; exact hdg)
    (fun vm₁ hW₁ => ⟨hf.1, hf.2, hp.2 (T.setVm vm₁) hT hW₁⟩) with ⟨v, vm₁, ⟨U', l2, c2, s2⟩, hW₁, X', ⟨g', mk, t, L, e1, e2, hq, h1, hL, h2, h3⟩, st⟩ | ⟨q, vm₁, ⟨U', l2, c2, s2⟩, hW₁, X', ⟨g', mk, t, L, E, ce, e1, e2, hq, hce, hcv, hcl, h1, hL, h2, h3⟩, st⟩
  · dsimp only [Pt.U, Pt.locs, Pt.cells, Pt.slots] at X' e1 e2 h1 h2 h3 st
    subst h1; subst h2; subst h3
    exact Or.inl ⟨v, (T.setVm vm₁).calling g' mk As.toArray, t, U', L, hT, X', hL, e1, e2, hq, st⟩
  · dsimp only [Pt.U, Pt.locs, Pt.cells, Pt.slots] at X' e1 e2 h1 h2 h3 st hcl
    subst h1; subst h2; subst h3
    exact Or.inr ⟨q, (T.setVm vm₁).calling g' mk As.toArray, t, U', L, E, ce, hT, X', hL, e1, e2, hq, hce, hcv, vx_cls hW₁ hcl, st⟩
end Runs
section Rows
variable {p : Program} {l : Launch} {e : Env} {R : Room} {s : State} {m : MethodId} {args : Array Value} {below : List Frame} {meth : Method} {c : Code} {H : Heap} {locs : List Loc} {cells slots : Nat} {Q : State → Prop}
variable {mc ms : Nat} {free : Addr → Prop} {A0 A1 : Nat → Prop} {H0 : Heap} {a : Array Value} {pc : Nat} {ls : Array Slot} {st0 rest : List Value}
theorem vx_keep {st₀ t T' : State} {L : List Loc} (h0 : st₀.heap = H) (e1 : T'.heap = t.heap) (hS : va_S A0 H0 H locs) (hA : ∀ q, q < H.size → A1 q → A0 q) (hf : ∀ q, free q → A0 q) (hL : ∀ q ∈ L, free q.base) (hF : va_F A1 st₀ t) :
    H.size ≤ T'.heap.size ∧ (∀ q : Nat, q < H.size → ¬ A1 q → T'.heap[q]? = H[q]?) ∧ va_S A0 H0 T'.heap (locs ++ L) := by
  obtain ⟨hz, hk⟩ := hF
  rw [h0] at hz hk
  exact ⟨by rw [e1]; exact hz, fun q h1 h2 => by rw [e1]; exact hk q h1 h2,
    ⟨Nat.le_trans hS.1 (by rw [e1]; exact hz), fun q h1 h2 => by rw [e1, hk q (Nat.lt_of_lt_of_le h1 hS.1) (fun z => h2 (hA q (Nat.lt_of_lt_of_le h1 hS.1) z))]; exact hS.2.1 q h1 h2, fun q hq => by
      rcases List.mem_append.mp hq with h | h
      · exact hS.2.2 q h
      · exact hf _ (hL q h)⟩⟩
theorem vx_calli {S SX : Type} {post : Int32 → S → Prop} {px : SX → Prop} {B : S → State → Prop} {BX : String → SX → State → Prop} {AX : Nat → Prop} (hr : vx_Run p l e R s m args below meth c H locs cells slots mc ms (F0 m pc ls st0) rest (va_Qi post B A1 a) (vx_X px BX AX) free) (hS : va_S A0 H0 H locs) (hA : ∀ q, q < H.size → A1 q → A0 q) (hf : ∀ q, free q → A0 q) (hAX : ∀ q, q < H.size → AX q → A0 q)
    (kx : ∀ (E : String) (ce : Cell) (q9 : Addr) (u : SX) (t : State) (H1 : Heap) (locs1 : List Loc), t.heap = H1 → s.vm.Alike t.vm → px u → BX E u t → H.size ≤ H1.size → (∀ q : Nat, q < H.size → ¬ AX q → H1[q]? = H[q]?) → va_S A0 H0 H1 locs1 → H1[q9]? = some ce → ce.vm = .none → s.vm.findClass E = some ce.cls → vx_W p l e R s m args below meth c H1 locs1 (cells + mc) (slots + ms) Q (F0 m pc ls rest) q9)
    (kk : ∀ (r : Int32) (u : S) (t : State) (H1 : Heap) (locs1 : List Loc), t.heap = H1 → s.vm.Alike t.vm → post r u → B u t → H.size ≤ H1.size → (∀ q : Nat, q < H.size → ¬ A1 q → H1[q]? = H[q]?) → va_S A0 H0 H1 locs1 → W p l e R s m args below meth c H1 locs1 (cells + mc) (slots + ms) Q (F0 m (pc + 3) ls (.int r :: rest))) : W p l e R s m args below meth c H locs cells slots Q (F0 m pc ls st0) := by
  intro T hT X
  rcases hr T hT X with ⟨v, st₀, t, T', L, h0, X', hL, e1, e2, ⟨⟨r, u, hv, hp, hb⟩, hF⟩, st⟩ | ⟨q, st₀, t, T', L, E, ce, h0, X', hL, e1, e2, ⟨u, hp, hb, hF⟩, hce, hcv, hcl, st⟩
  · cases hv
    obtain ⟨k1, k2, k3⟩ := vx_keep h0 e1 hS hA hf hL hF
    obtain ⟨t2, a1, b1⟩ := kk r u t T'.heap (locs ++ L) e1.symm (by rw [← e2]; exact X'.warmed.alike) hp hb k1 k2 k3 T' rfl X'
    exact ⟨t2, st t2 a1, b1⟩
  · obtain ⟨k1, k2, k3⟩ := vx_keep h0 e1 hS hAX hf hL hF
    obtain ⟨t2, a1, b1⟩ := kx E ce q u t T'.heap (locs ++ L) e1.symm (by rw [← e2]; exact X'.warmed.alike) hp hb k1 k2 k3 (by rw [e1]; exact hce) hcv hcl T' rfl X'
    exact ⟨t2, st.trans a1, b1⟩
theorem vx_calll {S SX : Type} {post : Int64 → S → Prop} {px : SX → Prop} {B : S → State → Prop} {BX : String → SX → State → Prop} {AX : Nat → Prop} (hr : vx_Run p l e R s m args below meth c H locs cells slots mc ms (F0 m pc ls st0) rest (va_Ql post B A1 a) (vx_X px BX AX) free) (hS : va_S A0 H0 H locs) (hA : ∀ q, q < H.size → A1 q → A0 q) (hf : ∀ q, free q → A0 q) (hAX : ∀ q, q < H.size → AX q → A0 q)
    (kx : ∀ (E : String) (ce : Cell) (q9 : Addr) (u : SX) (t : State) (H1 : Heap) (locs1 : List Loc), t.heap = H1 → s.vm.Alike t.vm → px u → BX E u t → H.size ≤ H1.size → (∀ q : Nat, q < H.size → ¬ AX q → H1[q]? = H[q]?) → va_S A0 H0 H1 locs1 → H1[q9]? = some ce → ce.vm = .none → s.vm.findClass E = some ce.cls → vx_W p l e R s m args below meth c H1 locs1 (cells + mc) (slots + ms) Q (F0 m pc ls rest) q9)
    (kk : ∀ (r : Int64) (u : S) (t : State) (H1 : Heap) (locs1 : List Loc), t.heap = H1 → s.vm.Alike t.vm → post r u → B u t → H.size ≤ H1.size → (∀ q : Nat, q < H.size → ¬ A1 q → H1[q]? = H[q]?) → va_S A0 H0 H1 locs1 → W p l e R s m args below meth c H1 locs1 (cells + mc) (slots + ms) Q (F0 m (pc + 3) ls (.long r :: rest))) : W p l e R s m args below meth c H locs cells slots Q (F0 m pc ls st0) := by
  intro T hT X
  rcases hr T hT X with ⟨v, st₀, t, T', L, h0, X', hL, e1, e2, ⟨⟨r, u, hv, hp, hb⟩, hF⟩, st⟩ | ⟨q, st₀, t, T', L, E, ce, h0, X', hL, e1, e2, ⟨u, hp, hb, hF⟩, hce, hcv, hcl, st⟩
  · cases hv
    obtain ⟨k1, k2, k3⟩ := vx_keep h0 e1 hS hA hf hL hF
    obtain ⟨t2, a1, b1⟩ := kk r u t T'.heap (locs ++ L) e1.symm (by rw [← e2]; exact X'.warmed.alike) hp hb k1 k2 k3 T' rfl X'
    exact ⟨t2, st t2 a1, b1⟩
  · obtain ⟨k1, k2, k3⟩ := vx_keep h0 e1 hS hAX hf hL hF
    obtain ⟨t2, a1, b1⟩ := kx E ce q u t T'.heap (locs ++ L) e1.symm (by rw [← e2]; exact X'.warmed.alike) hp hb k1 k2 k3 (by rw [e1]; exact hce) hcv hcl T' rfl X'
    exact ⟨t2, st.trans a1, b1⟩
theorem vx_callf {S SX : Type} {post : UInt32 → S → Prop} {px : SX → Prop} {B : S → State → Prop} {BX : String → SX → State → Prop} {AX : Nat → Prop} (hr : vx_Run p l e R s m args below meth c H locs cells slots mc ms (F0 m pc ls st0) rest (va_Qf post B A1 a) (vx_X px BX AX) free) (hS : va_S A0 H0 H locs) (hA : ∀ q, q < H.size → A1 q → A0 q) (hf : ∀ q, free q → A0 q) (hAX : ∀ q, q < H.size → AX q → A0 q)
    (kx : ∀ (E : String) (ce : Cell) (q9 : Addr) (u : SX) (t : State) (H1 : Heap) (locs1 : List Loc), t.heap = H1 → s.vm.Alike t.vm → px u → BX E u t → H.size ≤ H1.size → (∀ q : Nat, q < H.size → ¬ AX q → H1[q]? = H[q]?) → va_S A0 H0 H1 locs1 → H1[q9]? = some ce → ce.vm = .none → s.vm.findClass E = some ce.cls → vx_W p l e R s m args below meth c H1 locs1 (cells + mc) (slots + ms) Q (F0 m pc ls rest) q9)
    (kk : ∀ (r : UInt32) (u : S) (t : State) (H1 : Heap) (locs1 : List Loc), t.heap = H1 → s.vm.Alike t.vm → post r u → B u t → H.size ≤ H1.size → (∀ q : Nat, q < H.size → ¬ A1 q → H1[q]? = H[q]?) → va_S A0 H0 H1 locs1 → W p l e R s m args below meth c H1 locs1 (cells + mc) (slots + ms) Q (F0 m (pc + 3) ls (.float r :: rest))) : W p l e R s m args below meth c H locs cells slots Q (F0 m pc ls st0) := by
  intro T hT X
  rcases hr T hT X with ⟨v, st₀, t, T', L, h0, X', hL, e1, e2, ⟨⟨r, u, hv, hp, hb⟩, hF⟩, st⟩ | ⟨q, st₀, t, T', L, E, ce, h0, X', hL, e1, e2, ⟨u, hp, hb, hF⟩, hce, hcv, hcl, st⟩
  · cases hv
    obtain ⟨k1, k2, k3⟩ := vx_keep h0 e1 hS hA hf hL hF
    obtain ⟨t2, a1, b1⟩ := kk r u t T'.heap (locs ++ L) e1.symm (by rw [← e2]; exact X'.warmed.alike) hp hb k1 k2 k3 T' rfl X'
    exact ⟨t2, st t2 a1, b1⟩
  · obtain ⟨k1, k2, k3⟩ := vx_keep h0 e1 hS hAX hf hL hF
    obtain ⟨t2, a1, b1⟩ := kx E ce q u t T'.heap (locs ++ L) e1.symm (by rw [← e2]; exact X'.warmed.alike) hp hb k1 k2 k3 (by rw [e1]; exact hce) hcv hcl T' rfl X'
    exact ⟨t2, st.trans a1, b1⟩
theorem vx_calld {S SX : Type} {post : UInt64 → S → Prop} {px : SX → Prop} {B : S → State → Prop} {BX : String → SX → State → Prop} {AX : Nat → Prop} (hr : vx_Run p l e R s m args below meth c H locs cells slots mc ms (F0 m pc ls st0) rest (va_Qd post B A1 a) (vx_X px BX AX) free) (hS : va_S A0 H0 H locs) (hA : ∀ q, q < H.size → A1 q → A0 q) (hf : ∀ q, free q → A0 q) (hAX : ∀ q, q < H.size → AX q → A0 q)
    (kx : ∀ (E : String) (ce : Cell) (q9 : Addr) (u : SX) (t : State) (H1 : Heap) (locs1 : List Loc), t.heap = H1 → s.vm.Alike t.vm → px u → BX E u t → H.size ≤ H1.size → (∀ q : Nat, q < H.size → ¬ AX q → H1[q]? = H[q]?) → va_S A0 H0 H1 locs1 → H1[q9]? = some ce → ce.vm = .none → s.vm.findClass E = some ce.cls → vx_W p l e R s m args below meth c H1 locs1 (cells + mc) (slots + ms) Q (F0 m pc ls rest) q9)
    (kk : ∀ (r : UInt64) (u : S) (t : State) (H1 : Heap) (locs1 : List Loc), t.heap = H1 → s.vm.Alike t.vm → post r u → B u t → H.size ≤ H1.size → (∀ q : Nat, q < H.size → ¬ A1 q → H1[q]? = H[q]?) → va_S A0 H0 H1 locs1 → W p l e R s m args below meth c H1 locs1 (cells + mc) (slots + ms) Q (F0 m (pc + 3) ls (.double r :: rest))) : W p l e R s m args below meth c H locs cells slots Q (F0 m pc ls st0) := by
  intro T hT X
  rcases hr T hT X with ⟨v, st₀, t, T', L, h0, X', hL, e1, e2, ⟨⟨r, u, hv, hp, hb⟩, hF⟩, st⟩ | ⟨q, st₀, t, T', L, E, ce, h0, X', hL, e1, e2, ⟨u, hp, hb, hF⟩, hce, hcv, hcl, st⟩
  · cases hv
    obtain ⟨k1, k2, k3⟩ := vx_keep h0 e1 hS hA hf hL hF
    obtain ⟨t2, a1, b1⟩ := kk r u t T'.heap (locs ++ L) e1.symm (by rw [← e2]; exact X'.warmed.alike) hp hb k1 k2 k3 T' rfl X'
    exact ⟨t2, st t2 a1, b1⟩
  · obtain ⟨k1, k2, k3⟩ := vx_keep h0 e1 hS hAX hf hL hF
    obtain ⟨t2, a1, b1⟩ := kx E ce q u t T'.heap (locs ++ L) e1.symm (by rw [← e2]; exact X'.warmed.alike) hp hb k1 k2 k3 (by rw [e1]; exact hce) hcv hcl T' rfl X'
    exact ⟨t2, st.trans a1, b1⟩
theorem vx_callv {S SX : Type} {post : S → Prop} {px : SX → Prop} {B : S → State → Prop} {BX : String → SX → State → Prop} {AX : Nat → Prop} (hr : vx_Run p l e R s m args below meth c H locs cells slots mc ms (F0 m pc ls st0) rest (va_Qv post B A1 a) (vx_X px BX AX) free) (hS : va_S A0 H0 H locs) (hA : ∀ q, q < H.size → A1 q → A0 q) (hf : ∀ q, free q → A0 q) (hAX : ∀ q, q < H.size → AX q → A0 q)
    (kx : ∀ (E : String) (ce : Cell) (q9 : Addr) (u : SX) (t : State) (H1 : Heap) (locs1 : List Loc), t.heap = H1 → s.vm.Alike t.vm → px u → BX E u t → H.size ≤ H1.size → (∀ q : Nat, q < H.size → ¬ AX q → H1[q]? = H[q]?) → va_S A0 H0 H1 locs1 → H1[q9]? = some ce → ce.vm = .none → s.vm.findClass E = some ce.cls → vx_W p l e R s m args below meth c H1 locs1 (cells + mc) (slots + ms) Q (F0 m pc ls rest) q9)
    (kk : ∀ (u : S) (t : State) (H1 : Heap) (locs1 : List Loc), t.heap = H1 → s.vm.Alike t.vm → post u → B u t → H.size ≤ H1.size → (∀ q : Nat, q < H.size → ¬ A1 q → H1[q]? = H[q]?) → va_S A0 H0 H1 locs1 → W p l e R s m args below meth c H1 locs1 (cells + mc) (slots + ms) Q (F0 m (pc + 3) ls (rest))) : W p l e R s m args below meth c H locs cells slots Q (F0 m pc ls st0) := by
  intro T hT X
  rcases hr T hT X with ⟨v, st₀, t, T', L, h0, X', hL, e1, e2, ⟨⟨u, hv, hp, hb⟩, hF⟩, st⟩ | ⟨q, st₀, t, T', L, E, ce, h0, X', hL, e1, e2, ⟨u, hp, hb, hF⟩, hce, hcv, hcl, st⟩
  · cases hv
    obtain ⟨k1, k2, k3⟩ := vx_keep h0 e1 hS hA hf hL hF
    obtain ⟨t2, a1, b1⟩ := kk u t T'.heap (locs ++ L) e1.symm (by rw [← e2]; exact X'.warmed.alike) hp hb k1 k2 k3 T' rfl X'
    exact ⟨t2, st t2 a1, b1⟩
  · obtain ⟨k1, k2, k3⟩ := vx_keep h0 e1 hS hAX hf hL hF
    obtain ⟨t2, a1, b1⟩ := kx E ce q u t T'.heap (locs ++ L) e1.symm (by rw [← e2]; exact X'.warmed.alike) hp hb k1 k2 k3 (by rw [e1]; exact hce) hcv hcl T' rfl X'
    exact ⟨t2, st.trans a1, b1⟩
/-- caught by the row x of this method's table; the rows ahead don't take it -/
theorem vx_catch {own name : String} {E : String} {ce : Cell} {q : Addr} (hown : s.vm.findClass own = some m.cls) (pre : List ExceptionTableEntry) (x : ExceptionTableEntry) (suf : List ExceptionTableEntry) (hsplit : c.exceptionTable.toList = pre ++ x :: suf)
    (hpass : ∀ z ∈ pre, covers z pc = false ∨ (z.catchType ≠ 0 ∧ ∃ nm : String, (Cond.classLink own z.catchType nm).before args s = true ∧ va_Nc E nm s)) (hx : covers x pc = true) (h0 : x.catchType ≠ 0)
    (hlink : (Cond.classLink own x.catchType name).before args s = true) (hcast : (Cond.castable E name).before args s = true) (hcell : H[q]? = some ce) (hv : ce.vm = .none) (hcl : s.vm.findClass E = some ce.cls)
    (kk : W p l e R s m args below meth c H locs cells slots Q (F0 m x.handlerPc ls [.ref q])) : vx_W p l e R s m args below meth c H locs cells slots Q (F0 m pc ls rest) q := by
  intro T hT X
  have hpl : e.platform.magicAccessors = ({} : Platform).magicAccessors := by rw [X.admits.platform]
  obtain ⟨c3, c4, hc3, hc4, hasg⟩ := Cond.castable_spec hcast
  cases Option.some.inj (hc3.symm.trans hcl)
  obtain ⟨c5, hc5, hcl5⟩ := Cond.classLink_spec hown hlink e.platform hpl
  cases Option.some.inj (hc4.symm.trans hc5)
  obtain ⟨vm', X', st⟩ := X.thenCaughtThrough q (g := F0 m pc ls rest) rfl (Steps.refl _) (by rw [hT]; exact hcell) (by rw [hv]; rfl) (by obtain ⟨k9, h9, -⟩ := Vm.findClass_spec hcl; exact ⟨k9, h9⟩) pre x suf hsplit
    (fun z hz => by
      rcases hpass z hz with h | ⟨hz0, nm, hl1, hn1⟩
      · exact Or.inl h
      · obtain ⟨c6, hc6, hcl6⟩ := Cond.classLink_spec hown hl1 e.platform hpl
        obtain ⟨a8, b8, h1, h2, h3⟩ := hn1
        cases Option.some.inj (h1.symm.trans hcl)
        cases Option.some.inj (h2.symm.trans hc6)
        exact Or.inr ⟨hz0, _, hcl6, h3⟩) hx (Or.inr ⟨h0, c4, hcl5, hasg⟩)
  obtain ⟨t, a1, b1⟩ := kk (T.setVm vm') hT X'
  exact ⟨t, st.trans a1, b1⟩
end Rows
section Ends
variable {p : Program} {l : Launch} {e : Env} {R : Room} {s : State} {m : MethodId} {args : Array Value} {below : List Frame} {meth : Method} {c : Code} {H : Heap} {locs : List Loc} {cells slots : Nat} {Q : State → Prop}
variable {mc ms : Nat} {free : Addr → Prop} {A0 A1 : Nat → Prop} {H0 : Heap} {a : Array Value} {ls : Array Slot} {st0 rest : List Value}
variable {Qc : Array Value → State → Outcome → State → Prop} {XC : String → State → State → Prop}
/-- what a body that may throw owes at its end -/
def vx_MQ (below : List Frame) (Qc : Array Value → State → Outcome → State → Prop) (XC : String → State → State → Prop) (a : Array Value) (s : State) (mc ms : Nat) (free : Addr → Prop) : State → Prop := fun t =>
  ∃ o, t.status = .running ∧ Ended t below o ∧ vx_Q Qc XC mc ms free a s o t
theorem vx_ret {g : JFrame} {mc ms : Nat} (k : W p l e R s m args below meth c H locs cells slots (MQ below Qc args s mc ms free) g) : W p l e R s m args below meth c H locs cells slots (vx_MQ below Qc XC args s mc ms free) g := by
  intro T hT X
  obtain ⟨t, a1, o, b1, b2, b3, b4⟩ := k T hT X
  exact ⟨t, a1, o, b1, b2, Or.inl ⟨b3, b4⟩⟩
/-- not caught here: it goes on to the caller -/
theorem vx_widen {g : JFrame} {q : Addr} {k n : Nat} (h1 : cells ≤ k) (h2 : slots ≤ n) (kk : vx_W p l e R s m args below meth c H locs k n Q g q) : vx_W p l e R s m args below meth c H locs cells slots Q g q := fun T hT X => kk T hT (stand_widen X h1 h2)
theorem vx_out {pc : Nat} {E : String} {ce : Cell} {q : Addr} {mc ms : Nat} (hout : ∀ x ∈ c.exceptionTable.toList, covers x pc = false) (hlocks : meth.locks = false) (hcell : H[q]? = some ce) (hv : ce.vm = .none) (hcl : s.vm.findClass E = some ce.cls)
    (hx : ∀ t : State, t.heap = H → s.vm.Alike t.vm → XC E s t) (hf : ∀ z ∈ locs, free z.base) (hc : cells ≤ mc) (hs : slots ≤ ms) :
    vx_W p l e R s m args below meth c H locs cells slots (vx_MQ below Qc XC args s mc ms free) (F0 m pc ls rest) q := by
  intro T hT X
  obtain ⟨st1, hrun, hend, hW, hsm⟩ := X.leaveThrown q (g := F0 m pc ls rest) rfl rfl rfl hout hlocks
  have hcell9 : (T.setFrames (.throwing q :: below)).heap[q]? = some ce := by
    show T.heap[q]? = some ce
    rw [hT]; exact hcell
  exact ⟨_, st1, .threw q, hrun, hend, Or.inr ⟨q, rfl, E, ce, locs, hx _ hT hW.alike, hcell9, hv, hcl, hW, hsm.mono hc hs, hf⟩⟩
theorem vx_frame {U : State} {k n : Nat} (h : s.sameButNew ({ U with vm := s.vm } : State) locs k n) : s.heap.size ≤ U.heap.size ∧ ∀ q : Nat, q < s.heap.size → (∀ z ∈ locs, z.base ≠ q) → U.heap[q]? = s.heap[q]? := by
  obtain ⟨-, h2, -, -, -, h6⟩ := h
  refine ⟨h2, fun q hq hz => ?_⟩
  obtain ⟨c9, e1, e2, e3, e4⟩ := h6 q _ (Array.getElem?_eq_getElem hq)
  have hs : c9.slots = (s.heap[q]).slots := Array.ext_getElem? fun i => e4 i fun hm => hz _ hm rfl
  have h9 : c9 = s.heap[q] := by
    rw [hs] at e2
    exact e2
  have e5 : U.heap[q]? = some c9 := e1
  rw [e5, h9, Array.getElem?_eq_getElem hq]
/-- the words of a throw but the four that speak of the heap -/
def vx_no (w : Cond) : Bool := decide (w ≠ .isRef (.static Bundle.tN "UNASSIGNED_STACK" Bundle.steD)) && decide (w ≠ .isRef (.static Bundle.tN "SUPPRESSED_SENTINEL" Bundle.listD)) && decide (w ≠ .laysStatic Bundle.tN "UNASSIGNED_STACK" Bundle.steD) && decide (w ≠ .laysStatic Bundle.tN "SUPPRESSED_SENTINEL" Bundle.listD)
def vx_at0 (own : String) (ic : Nat) (X : String) (names : List String) : List Cond := (Bundle.ownAtoms0 own ic X names).filter vx_no
def vx_atS (own : String) (ic : Nat) (X : String) (names : List String) : List Cond := (Bundle.ownAtoms own ic X names).filter vx_no
/-- a word that the tables alone decide, or a good one -/
def vx_ot (w : Cond) : Bool := w.onTables || goodWord w
theorem vx_ot_at {args a' : Array Value} {s U : State} {w : Cond} (hW : s.WarmedH U.vm) (hvm : s.vm = U.vm) (hg : vx_ot w = true) (h : w.before args s = true) : w.before a' U = true := by
  simp only [vx_ot, Bool.or_eq_true] at hg
  rcases hg with hg | hg
  · exact va_tabs hg hvm h
  · exact word_at hW (good_of_word hg) h
/-- a list's words: the good ones out of the method's own list, the others by premises of their own -/
theorem vx_hat {args : Array Value} {s : State} {L B : List Cond} (h1 : ∀ w ∈ L.filter goodWord, w.before args s = true) (h2 : ∀ w ∈ L.filter (fun w => !goodWord w), w ∈ B) (h3 : ∀ w ∈ B, w.before args s = true) : ∀ w ∈ L, w.before args s = true := by
  intro w hw
  by_cases g : goodWord w = true
  · exact h1 w (List.mem_filter.mpr ⟨hw, g⟩)
  · refine h3 w (h2 w (List.mem_filter.mpr ⟨hw, ?_⟩))
    show (!goodWord w) = true
    cases hgw : goodWord w
    · rfl
    · exact absurd hgw g
theorem vx_c {args : Array Value} {s : State} {w : Cond} {B : List Cond} (h : w.before args s = true) (t : ∀ w ∈ B, w.before args s = true) : ∀ w' ∈ w :: B, w'.before args s = true := fun w' h' => (List.mem_cons.mp h').elim (fun e => by rw [e]; exact h) (t w')
theorem vx_n {args : Array Value} {s : State} : ∀ w ∈ ([] : List Cond), w.before args s = true := fun _ h => nomatch h
theorem vx_own {args : Array Value} {s : State} {L : List Cond} (h1 : ∀ w ∈ L.filter vx_no, w.before args s = true)
    (hU : (Cond.isRef (.static Bundle.tN "UNASSIGNED_STACK" Bundle.steD)).before args s = true) (hN : (Cond.isRef (.static Bundle.tN "SUPPRESSED_SENTINEL" Bundle.listD)).before args s = true)
    (lU : (Cond.laysStatic Bundle.tN "UNASSIGNED_STACK" Bundle.steD).before args s = true) (lN : (Cond.laysStatic Bundle.tN "SUPPRESSED_SENTINEL" Bundle.listD).before args s = true) : ∀ w ∈ L, w.before args s = true := by
  intro w hw
  by_cases e1 : w = .isRef (.static Bundle.tN "UNASSIGNED_STACK" Bundle.steD)
  · rw [e1]; exact hU
  · by_cases e2 : w = .isRef (.static Bundle.tN "SUPPRESSED_SENTINEL" Bundle.listD)
    · rw [e2]; exact hN
    · by_cases e3 : w = .laysStatic Bundle.tN "UNASSIGNED_STACK" Bundle.steD
      · rw [e3]; exact lU
      · by_cases e4 : w = .laysStatic Bundle.tN "SUPPRESSED_SENTINEL" Bundle.listD
        · rw [e4]; exact lN
        · exact h1 w (List.mem_filter.mpr ⟨hw, by unfold vx_no; rw [decide_eq_true e1, decide_eq_true e2, decide_eq_true e3, decide_eq_true e4]; rfl⟩)
/-- where a static field lies, its class's statics cell in H -/
def vx_L (C n d : String) (A : Nat → Prop) (U : State) (H : Heap) : Prop := ∃ (c : ClassId) (k : Class) (i : Nat) (f : Field) (a : Nat) (cell : Cell), U.vm.findClass C = some c ∧ U.fieldFound? C n d = some (c, k, i, f) ∧ f.isStatic = true ∧ k.statics = some a ∧ H[a]? = some cell ∧ cell.vm.isStatics = true ∧ cell.cls = c ∧ f.slot < cell.slots.size ∧ k.staticTypes[f.slot]? = some f.type ∧ ¬ A a
theorem vx_L.moved {C n d : String} {A : Nat → Prop} {u U : State} {H : Heap} (hvm : u.vm.Alike U.vm) (h : vx_L C n d A u H) : vx_L C n d A U H := by
  obtain ⟨c, k, i, f, a, cell, h1, h2, h3, h4, h5, h6, h7, h8, h9, h10⟩ := h
  obtain ⟨k', hi', he⟩ := State.fieldFound?_setVm hvm h2
  exact ⟨c, k', i, f, a, cell, by rw [hvm.findClass]; exact h1, hi', h3, by rw [he]; exact h4, h5, h6, h7, h8, by rw [he]; exact h9, h10⟩
theorem vx_L.kept {C n d : String} {A : Nat → Prop} {U : State} {H H1 : Heap} (h : vx_L C n d A U H) (hq : ∀ a : Nat, a < H.size → ¬ A a → H1[a]? = H[a]?) : vx_L C n d A U H1 := by
  obtain ⟨c, k, i, f, a, cell, h1, h2, h3, h4, h5, h6, h7, h8, h9, h10⟩ := h
  exact ⟨c, k, i, f, a, cell, h1, h2, h3, h4, by rw [hq a (Array.getElem?_eq_some_iff.mp h5).1 h10]; exact h5, h6, h7, h8, h9, h10⟩
theorem vx_L.narrow {C n d : String} {A B : Nat → Prop} {U : State} {H : Heap} (h : vx_L C n d A U H) (hAB : ∀ q, B q → A q) : vx_L C n d B U H := by
  obtain ⟨c, k, i, f, a, cell, h1, h2, h3, h4, h5, h6, h7, h8, h9, h10⟩ := h
  exact ⟨c, k, i, f, a, cell, h1, h2, h3, h4, h5, h6, h7, h8, h9, fun z => h10 (hAB _ z)⟩
theorem vx_L.word {C n d : String} {A : Nat → Prop} {s : State} {args : Array Value} (h : vx_L C n d A s s.heap) : (Cond.laysStatic C n d).before args s = true := by
  obtain ⟨c, k, i, f, a, cell, h1, h2, h3, h4, h5, h6, h7, h8, h9, -⟩ := h
  show (Cond.laysStatic C n d).holds args s none s [] = true
  exact Cond.laysStatic_of h1 h2 h3 h4 h5 h6 h7 h8 h9
/-- .. and what it holds: null or some reference -/
def vx_Zq (C n d : String) (A : Nat → Prop) (U : State) (H : Heap) : Prop := va_Zq C n d A U H ∧ vx_L C n d A U H
theorem vx_Zq.moved {C n d : String} {A : Nat → Prop} {u U : State} {H : Heap} (hvm : u.vm.Alike U.vm) (h : vx_Zq C n d A u H) : vx_Zq C n d A U H := ⟨va_Zq.moved hvm h.1, vx_L.moved hvm h.2⟩
theorem vx_Zq.kept {C n d : String} {A : Nat → Prop} {U : State} {H H1 : Heap} (h : vx_Zq C n d A U H) (hq : ∀ a : Nat, a < H.size → ¬ A a → H1[a]? = H[a]?) : vx_Zq C n d A U H1 := ⟨va_Zq.kept h.1 hq, vx_L.kept h.2 hq⟩
theorem vx_Zq.narrow {C n d : String} {A B : Nat → Prop} {U : State} {H : Heap} (h : vx_Zq C n d A U H) (hAB : ∀ q, B q → A q) : vx_Zq C n d B U H := ⟨va_Zq.narrow h.1 hAB, vx_L.narrow h.2 hAB⟩
theorem vx_Zqof {args : Array Value} {s : State} {C n d : String} {A : Nat → Prop} (hl : (Cond.laysStatic C n d).before args s = true) (hini : (Cond.initialized C).before args s = true) (h : (Cond.isRef (.static C n d)).before args s = true) (hA : ∀ a : Nat, a < s.heap.size → ¬ A a) : vx_Zq C n d A s s.heap := by
  refine ⟨va_Zqof hl hini h hA, ?_⟩
  obtain ⟨c, k, i, f, a, cell, h1, h2, h3, h4, h5, h6, h7, h8, h9⟩ := Cond.laysStatic_spec hl
  exact ⟨c, k, i, f, a, cell, h1, h2, h3, h4, h5, h6, h7, h8, h9, hA a (Array.getElem?_eq_some_iff.mp h5).1⟩
theorem vx_isRef {C n d : String} {v : Value} {A : Nat → Prop} {s : State} {args : Array Value} (h : va_Z C n d v A s s.heap) (hv : v.isRef = true) : (Cond.isRef (.static C n d)).before args s = true := by
  obtain ⟨cf, kf, fi, f, a, cell, h1, h2, h3, h4, h5, h6, h7, -⟩ := h
  have he : (Term.static C n d).eval args s none [] s = some v := by
    simp [Term.eval, State.fieldNamed?, h1, h2, h4, h5, h6, h7]
  simp only [Cond.before, Cond.holds, Cond.value, he]
  cases v <;> simp_all [Value.isRef]
theorem vx_isRefq {C n d : String} {A : Nat → Prop} {s : State} {args : Array Value} (h : va_Zq C n d A s s.heap) : (Cond.isRef (.static C n d)).before args s = true := by
  rcases h with h | ⟨t, h⟩
  · exact vx_isRef h rfl
  · exact vx_isRef h rfl
/-- the same frame, seen from here: as if the method were called anew in this heap -/
theorem vx_rebase {T : State} (X : Stand p l e R s m args below meth c T locs cells slots) {R' : Room} (hf : R'.frames ≤ R.frames) (hl : R'.locals ≤ R.locals) (hc : cells + R'.cells ≤ R.cells) (hs : slots + R'.slots ≤ R.slots) :
    Stand p l e R' ((T.setVm s.vm).setFrames (.invoking m args :: below)) m args below meth c T [] 0 0 := by
  have htop : (T.setVm s.vm).topJava?.isSome := X.here.top
  have hF : ((T.setVm s.vm).setFrames (.invoking m args :: below)).frames = .invoking m args :: below := State.frames_setFrames _ (State.cur_lt_of_top htop)
  obtain ⟨g₀, hg0⟩ := Option.isSome_iff_exists.mp htop
  obtain ⟨r, hr⟩ := State.topJava?_eq_some.mp hg0
  have hl9 : e.platform.stackLimits (T.setVm s.vm).me = e.platform.stackLimits s.me := X.limits
  have hb9 : (T.setVm s.vm).me.stackBytes = s.me.stackBytes := X.bytes
  refine ⟨X.admits, X.cas, X.clock, hF, ?_, X.hears, X.method, X.code, X.here, X.tail, X.warmed, ?_, ?_, ?_⟩
  · have h := X.room
    have hU : ((T.setVm s.vm).setFrames (.invoking m args :: below)).localsInUse = s.localsInUse := by
      rw [State.localsInUse_invoking hF (meth := meth) (c := c) X.method X.code, State.localsInUse_invoking X.frames X.method X.code]
    simp only [State.hasRoom, Bool.and_eq_true, decide_eq_true_eq] at h ⊢
    obtain ⟨⟨⟨⟨h1, h2, h3, h4, h5, h6⟩, h7⟩, h8⟩, h9⟩ := h
    rw [X.frames, List.length_cons] at h2 h3
    have q1 := X.heapSize
    have q2 := X.used
    simp only [hF, hU, List.length_cons, State.stackLimits_setFrames, State.stackBytes_setFrames, hl9, hb9]
    refine ⟨⟨⟨⟨by omega, by omega, by omega, by omega, by omega, h6⟩, ?_⟩, ?_⟩, X.book⟩
    · show T.heap.size + R'.cells ≤ e.platform.maxCells
      omega
    · show T.slotsUsed + R'.slots ≤ e.platform.maxSlots
      omega
  · rw [State.stackLimits_setFrames]; rfl
  · rw [State.stackBytes_setFrames]; rfl
  · refine ⟨?_, Nat.le_refl _, Nat.le_refl _, ?_, ?_, fun a c9 h9 => ⟨c9, h9, rfl, rfl, fun _ _ => rfl⟩⟩
    · obtain ⟨t, ht, -⟩ := State.frames_cons hr
      show T.setVm s.vm = { ((T.setVm s.vm).setFrames (.invoking m args :: below)).setFrames (T.setVm s.vm).frames with heap := T.heap, slotsUsed := T.slotsUsed }
      rw [State.setFrames_setFrames, State.setFrames_self ht]
      rfl
    · show T.slotsUsed = T.slotsUsed + ((T.heap.toList.drop T.heap.size).map (·.slots.size)).sum
      rw [List.drop_eq_nil_of_le (Nat.le_of_eq Array.length_toList)]
      rfl
    · show ((T.heap.toList.drop T.heap.size).map (·.slots.size)).sum ≤ 0
      rw [List.drop_eq_nil_of_le (Nat.le_of_eq Array.length_toList)]
      exact Nat.le_refl _
/-- 'throw new E()': new; dup; invokespecial; athrow -/
theorem vx_throw0 {cc : ByteArray} {pc : Nat} (hexec : p.tables.exec = Jvm.exec) (hb : c.code = cc) (hl : l.stackTraces = false) {own cls : String} {names : List String} {ik ic mc ms : Nat} {A : Nat → Prop}
    (hown : s.vm.findClass own = some m.cls) (hcls : Bundle.fit cls = true) (hnames : ∀ n ∈ names, Bundle.fit n = true)
    (hk : (Cond.classLink own ik cls).before args s = true) (hini : (Cond.initialized cls).before args s = true) (hat : ∀ w ∈ vx_at0 own ic cls names, w.before args s = true)
    (hgood : ∀ w ∈ Cond.classLink own ik cls :: Cond.initialized cls :: vx_at0 own ic cls names, vx_ot w = true)
    (hU : vx_Zq Bundle.tN "UNASSIGNED_STACK" Bundle.steD A s s.heap) (hN : vx_Zq Bundle.tN "SUPPRESSED_SENTINEL" Bundle.listD A s s.heap) (hS : va_S A s.heap H locs) (hsize : ls.size = c.maxLocals)
    (d0 : decode cc pc = .ok (.new ik, 3)) (d3 : decode cc (pc + 3) = .ok (.dup, 1)) (d4 : decode cc (pc + 4) = .ok (.invokespecial ic, 3)) (d7 : decode cc (pc + 7) = .ok (.athrow, 1))
    (hout : ∀ x ∈ c.exceptionTable.toList, covers x (pc + 7) = false)
    (hRframes : names.length + 3 < R.frames) (hRlocals : (rest.map fun v => v.category).sum + (13 * (names.length + 1) + 42) ≤ R.locals) (hRcells : cells + 1 ≤ R.cells) (hRslots : slots + 6 ≤ R.slots) (hlocks : meth.locks = false)
    (hx : ∀ t : State, s.vm.Alike t.vm → H.size ≤ t.heap.size → (∀ q : Nat, q < H.size → t.heap[q]? = H[q]?) → XC cls s t)
    (hf : ∀ z ∈ locs, free z.base) (hc : cells + 1 ≤ mc) (hs : slots + 6 ≤ ms) :
    W p l e R s m args below meth c H locs cells slots (vx_MQ below Qc XC args s mc ms free) (F0 m pc ls rest) := by
  intro T hT X
  have htr : e.platform.stackTraces = false := (show e.platform.stackTraces = l.stackTraces by rw [X.admits.platform]).trans hl
  have Y := vx_rebase X (R' := { frames := R.frames, locals := R.locals, cells := 1, slots := 6 }) (Nat.le_refl _) (Nat.le_refl _) hRcells hRslots
  obtain ⟨s', hA⟩ : ∃ z, z = (T.setVm s.vm).setFrames (.invoking m args :: below) := ⟨_, rfl⟩
  rw [← hA] at Y
  have hvm : s'.vm = s.vm := by rw [hA]; rfl
  have hhp : s'.heap = H := by rw [hA]; exact hT
  have hW0 : s.WarmedH s'.vm := by rw [hvm]; exact State.WarmedH.refl s
  have hat' : ∀ w ∈ vx_at0 own ic cls names, w.before args s' = true := fun w hw => vx_ot_at hW0 hvm.symm (hgood w (List.mem_cons_of_mem _ (List.mem_cons_of_mem _ hw))) (hat w hw)
  have hk' : (Cond.classLink own ik cls).before args s' = true := vx_ot_at hW0 hvm.symm (hgood _ List.mem_cons_self) hk
  have hini' : (Cond.initialized cls).before args s' = true := vx_ot_at hW0 hvm.symm (hgood _ (List.mem_cons_of_mem _ List.mem_cons_self)) hini
  have hU' : vx_Zq Bundle.tN "UNASSIGNED_STACK" Bundle.steD A s' s'.heap := by rw [hhp]; exact vx_Zq.moved hW0.alike (hU.kept hS.2.1)
  have hN' : vx_Zq Bundle.tN "SUPPRESSED_SENTINEL" Bundle.listD A s' s'.heap := by rw [hhp]; exact vx_Zq.moved hW0.alike (hN.kept hS.2.1)
  have h : ∀ w ∈ Bundle.ownAtoms0 own ic cls names, w.before args s' = true := vx_own hat' (vx_isRefq hU'.1) (vx_isRefq hN'.1) hU'.2.word hN'.2.word
  have hown' : s'.vm.findClass own = some m.cls := by rw [hvm]; exact hown
  have hins : (Cond.instantiable cls 6).before args s' = true := h _ (by simp [Bundle.ownAtoms0])
  obtain ⟨vm₁, cX, kX, hfX, hkX, -, -, X₁, st1⟩ := Y.newCold hexec (own := own) (C := cls) (index := ik) (n := 6) hown' hk' hins hini'
    (g := F0 m pc ls rest) rfl (by rw [hb]; exact d0) (Nat.le_refl _) (Nat.le_refl _)
  generalize hT1 : (T.setVm vm₁).pushCell { cls := cX, slots := kX.instanceTypes.map defaultValue, vm := .none } = T1 at X₁ st1
  have hcat : (Value.ref T.heap.size).category = 1 := rfl
  have hcellA : T1.heap[T.heap.size]? = some (freshCell cX kX) := by rw [← hT1]; exact State.heap_pushCell_size _ _
  have d3' : decode c.code (pc + 3) = .ok (.dup, 1) := by rw [hb]; exact d3
  obtain ⟨U, hsteps, hrun, hend, hW, hsame, ce, hce, hO⟩ := X₁.ctorThrow0 hexec htr (own := own) (cls := cls) (names := names) (ic := ic) hown' hcls hnames h (fun x hx => nomatch hx) hfX hkX hcellA (by rw [hhp, hT]; exact Nat.le_refl _)
    (g := { method := m, pc := pc + 4, locals := ls, stack := .ref T.heap.size :: .ref T.heap.size :: rest, locked := none }) rfl hsize rfl rfl (rest := rest) rfl
    (by rw [hb]; exact d4) (by rw [hb]; exact d7) hout hRframes (by simp only [List.map_cons, List.sum_cons, hcat]; omega) hlocks
  obtain ⟨f1, f2⟩ := vx_frame hsame
  rw [hhp] at f1 f2
  have hWs : s.WarmedH U.vm := State.WarmedH.trans hW0 hW
  have hcl : s.vm.findClass cls = some ce.cls := by
    have h9 := hO.cls
    rw [hvm] at h9
    exact h9
  have hall : s.sameButNew ({ U with vm := s.vm } : State) locs mc ms := by
    subst hA
    obtain ⟨e1, e2⟩ := hsame
    rw [State.setFrames_setFrames] at e1
    have h2 : (T.setVm s.vm).sameButNew ({ U with vm := s.vm } : State) [] (0 + 1) (0 + 6) := ⟨e1, e2⟩
    have h3 := X.same.trans h2
    rw [List.append_nil] at h3
    exact h3.mono hc hs
  refine ⟨U, ?_, .threw T.heap.size, hrun, hend, Or.inr ⟨T.heap.size, rfl, cls, ce, locs, hx U hWs.alike f1 (fun q hq => f2 q hq (fun z hz => nomatch hz)), hce, hO.vm, hcl, hWs, hall, hf⟩⟩
  refine st1 _ ?_
  show Steps p.tables e below (T1.setTop { method := m, pc := pc + 3, locals := ls, stack := .ref T.heap.size :: rest, locked := none }) _
  jvm_step X₁.here [X₁.here.top, hexec, d3', Value.category]
  exact hsteps
/-- 'throw new E("text")': new; dup; ldc; invokespecial; athrow -/
theorem vx_throwS {cc : ByteArray} {pc : Nat} (hexec : p.tables.exec = Jvm.exec) (hb : c.code = cc) (hl : l.stackTraces = false) {own cls text : String} {names : List String} {ik is ic mc ms sa : Nat} {A : Nat → Prop}
    (hown : s.vm.findClass own = some m.cls) (hcls : Bundle.fit cls = true) (hnames : ∀ n ∈ names, Bundle.fit n = true)
    (hk : (Cond.classLink own ik cls).before args s = true) (hini : (Cond.initialized cls).before args s = true) (hstr : vk_R own is text sa s) (hat : ∀ w ∈ vx_atS own ic cls names, w.before args s = true)
    (hgood : ∀ w ∈ Cond.classLink own ik cls :: Cond.initialized cls :: vx_atS own ic cls names, vx_ot w = true)
    (hU : vx_Zq Bundle.tN "UNASSIGNED_STACK" Bundle.steD A s s.heap) (hN : vx_Zq Bundle.tN "SUPPRESSED_SENTINEL" Bundle.listD A s s.heap) (hS : va_S A s.heap H locs) (hsize : ls.size = c.maxLocals)
    (d0 : decode cc pc = .ok (.new ik, 3)) (d3 : decode cc (pc + 3) = .ok (.dup, 1)) (d4 : decode cc (pc + 4) = .ok (.ldc is, 2)) (d6 : decode cc (pc + 6) = .ok (.invokespecial ic, 3)) (d9 : decode cc (pc + 9) = .ok (.athrow, 1))
    (hout : ∀ x ∈ c.exceptionTable.toList, covers x (pc + 9) = false)
    (hRframes : names.length + 3 < R.frames) (hRlocals : (rest.map fun v => v.category).sum + (13 * (names.length + 1) + 43) ≤ R.locals) (hRcells : cells + 1 ≤ R.cells) (hRslots : slots + 6 ≤ R.slots) (hlocks : meth.locks = false)
    (hx : ∀ t : State, s.vm.Alike t.vm → H.size ≤ t.heap.size → (∀ q : Nat, q < H.size → t.heap[q]? = H[q]?) → XC cls s t)
    (hf : ∀ z ∈ locs, free z.base) (hc : cells + 1 ≤ mc) (hs : slots + 6 ≤ ms) :
    W p l e R s m args below meth c H locs cells slots (vx_MQ below Qc XC args s mc ms free) (F0 m pc ls rest) := by
  intro T hT X
  have htr : e.platform.stackTraces = false := (show e.platform.stackTraces = l.stackTraces by rw [X.admits.platform]).trans hl
  have Y := vx_rebase X (R' := { frames := R.frames, locals := R.locals, cells := 1, slots := 6 }) (Nat.le_refl _) (Nat.le_refl _) hRcells hRslots
  obtain ⟨s', hA⟩ : ∃ z, z = (T.setVm s.vm).setFrames (.invoking m args :: below) := ⟨_, rfl⟩
  rw [← hA] at Y
  have hvm : s'.vm = s.vm := by rw [hA]; rfl
  have hhp : s'.heap = H := by rw [hA]; exact hT
  have hW0 : s.WarmedH s'.vm := by rw [hvm]; exact State.WarmedH.refl s
  have hat' : ∀ w ∈ vx_atS own ic cls names, w.before args s' = true := fun w hw => vx_ot_at hW0 hvm.symm (hgood w (List.mem_cons_of_mem _ (List.mem_cons_of_mem _ hw))) (hat w hw)
  have hk' : (Cond.classLink own ik cls).before args s' = true := vx_ot_at hW0 hvm.symm (hgood _ List.mem_cons_self) hk
  have hini' : (Cond.initialized cls).before args s' = true := vx_ot_at hW0 hvm.symm (hgood _ (List.mem_cons_of_mem _ List.mem_cons_self)) hini
  have hU' : vx_Zq Bundle.tN "UNASSIGNED_STACK" Bundle.steD A s' s'.heap := by rw [hhp]; exact vx_Zq.moved hW0.alike (hU.kept hS.2.1)
  have hN' : vx_Zq Bundle.tN "SUPPRESSED_SENTINEL" Bundle.listD A s' s'.heap := by rw [hhp]; exact vx_Zq.moved hW0.alike (hN.kept hS.2.1)
  have h : ∀ w ∈ Bundle.ownAtoms own ic cls names, w.before args s' = true := vx_own hat' (vx_isRefq hU'.1) (vx_isRefq hN'.1) hU'.2.word hN'.2.word
  have hown' : s'.vm.findClass own = some m.cls := by rw [hvm]; exact hown
  have hins : (Cond.instantiable cls 6).before args s' = true := h _ (by simp [Bundle.ownAtoms])
  obtain ⟨vm₁, cX, kX, hfX, hkX, -, -, X₁, st1⟩ := Y.newCold hexec (own := own) (C := cls) (index := ik) (n := 6) hown' hk' hins hini'
    (g := F0 m pc ls rest) rfl (by rw [hb]; exact d0) (Nat.le_refl _) (Nat.le_refl _)
  generalize hT1 : (T.setVm vm₁).pushCell { cls := cX, slots := kX.instanceTypes.map defaultValue, vm := .none } = T1 at X₁ st1
  have hcat : (Value.ref T.heap.size).category = 1 := rfl
  have hcellA : T1.heap[T.heap.size]? = some (freshCell cX kX) := by rw [← hT1]; exact State.heap_pushCell_size _ _
  have d3' : decode c.code (pc + 3) = .ok (.dup, 1) := by rw [hb]; exact d3
  have d4' : decode c.code (pc + 4) = .ok (.ldc is, 2) := by rw [hb]; exact d4
  have hstr' : vk_R own is text sa s' := vk_R.warm hW0 hstr
  obtain ⟨U, hsteps, hrun, hend, hW, hsame, ce, hce, hO⟩ := X₁.ctorThrowS hexec htr (own := own) (cls := cls) (names := names) (ic := ic) hown' hcls hnames h (fun x hx => nomatch hx) hfX hkX hcellA (by rw [hhp, hT]; exact Nat.le_refl _) (msg := .ref sa) rfl
    (g := { method := m, pc := pc + 6, locals := ls, stack := .ref sa :: .ref T.heap.size :: .ref T.heap.size :: rest, locked := none }) rfl hsize rfl rfl (rest := rest) rfl
    (by rw [hb]; exact d6) (by rw [hb]; exact d9) hout hRframes (by simp only [List.map_cons, List.sum_cons, hcat]; omega) hlocks
  obtain ⟨f1, f2⟩ := vx_frame hsame
  rw [hhp] at f1 f2
  have hWs : s.WarmedH U.vm := State.WarmedH.trans hW0 hW
  have hcl : s.vm.findClass cls = some ce.cls := by
    have h9 := hO.cls
    rw [hvm] at h9
    exact h9
  have hall : s.sameButNew ({ U with vm := s.vm } : State) locs mc ms := by
    subst hA
    obtain ⟨e1, e2⟩ := hsame
    rw [State.setFrames_setFrames] at e1
    have h2 : (T.setVm s.vm).sameButNew ({ U with vm := s.vm } : State) [] (0 + 1) (0 + 6) := ⟨e1, e2⟩
    have h3 := X.same.trans h2
    rw [List.append_nil] at h3
    exact h3.mono hc hs
  refine ⟨U, ?_, .threw T.heap.size, hrun, hend, Or.inr ⟨T.heap.size, rfl, cls, ce, locs, hx U hWs.alike f1 (fun q hq => f2 q hq (fun z hz => nomatch hz)), hce, hO.vm, hcl, hWs, hall, hf⟩⟩
  refine st1 _ ?_
  show Steps p.tables e below (T1.setTop { method := m, pc := pc + 3, locals := ls, stack := .ref T.heap.size :: rest, locked := none }) _
  jvm_step X₁.here [X₁.here.top, hexec, d3', Value.category]
  exact X₁.ldcString hexec (own := own) (text := text) (index := is) (a := sa) hown' hstr'.1 hstr'.2
    (g := { method := m, pc := pc + 4, locals := ls, stack := .ref T.heap.size :: .ref T.heap.size :: rest, locked := none }) rfl d4' _ hsteps
/-- 'throw new E("text")', the text by a wide index -/
theorem vx_throwSW {cc : ByteArray} {pc : Nat} (hexec : p.tables.exec = Jvm.exec) (hb : c.code = cc) (hl : l.stackTraces = false) {own cls text : String} {names : List String} {ik is ic mc ms sa : Nat} {A : Nat → Prop}
    (hown : s.vm.findClass own = some m.cls) (hcls : Bundle.fit cls = true) (hnames : ∀ n ∈ names, Bundle.fit n = true)
    (hk : (Cond.classLink own ik cls).before args s = true) (hini : (Cond.initialized cls).before args s = true) (hstr : vk_R own is text sa s) (hat : ∀ w ∈ vx_atS own ic cls names, w.before args s = true)
    (hgood : ∀ w ∈ Cond.classLink own ik cls :: Cond.initialized cls :: vx_atS own ic cls names, vx_ot w = true)
    (hU : vx_Zq Bundle.tN "UNASSIGNED_STACK" Bundle.steD A s s.heap) (hN : vx_Zq Bundle.tN "SUPPRESSED_SENTINEL" Bundle.listD A s s.heap) (hS : va_S A s.heap H locs) (hsize : ls.size = c.maxLocals)
    (d0 : decode cc pc = .ok (.new ik, 3)) (d3 : decode cc (pc + 3) = .ok (.dup, 1)) (d4 : decode cc (pc + 4) = .ok (.ldc_w is, 3)) (d7 : decode cc (pc + 7) = .ok (.invokespecial ic, 3)) (d10 : decode cc (pc + 10) = .ok (.athrow, 1))
    (hout : ∀ x ∈ c.exceptionTable.toList, covers x (pc + 10) = false)
    (hRframes : names.length + 3 < R.frames) (hRlocals : (rest.map fun v => v.category).sum + (13 * (names.length + 1) + 43) ≤ R.locals) (hRcells : cells + 1 ≤ R.cells) (hRslots : slots + 6 ≤ R.slots) (hlocks : meth.locks = false)
    (hx : ∀ t : State, s.vm.Alike t.vm → H.size ≤ t.heap.size → (∀ q : Nat, q < H.size → t.heap[q]? = H[q]?) → XC cls s t)
    (hf : ∀ z ∈ locs, free z.base) (hc : cells + 1 ≤ mc) (hs : slots + 6 ≤ ms) :
    W p l e R s m args below meth c H locs cells slots (vx_MQ below Qc XC args s mc ms free) (F0 m pc ls rest) := by
  intro T hT X
  have htr : e.platform.stackTraces = false := (show e.platform.stackTraces = l.stackTraces by rw [X.admits.platform]).trans hl
  have Y := vx_rebase X (R' := { frames := R.frames, locals := R.locals, cells := 1, slots := 6 }) (Nat.le_refl _) (Nat.le_refl _) hRcells hRslots
  obtain ⟨s', hA⟩ : ∃ z, z = (T.setVm s.vm).setFrames (.invoking m args :: below) := ⟨_, rfl⟩
  rw [← hA] at Y
  have hvm : s'.vm = s.vm := by rw [hA]; rfl
  have hhp : s'.heap = H := by rw [hA]; exact hT
  have hW0 : s.WarmedH s'.vm := by rw [hvm]; exact State.WarmedH.refl s
  have hat' : ∀ w ∈ vx_atS own ic cls names, w.before args s' = true := fun w hw => vx_ot_at hW0 hvm.symm (hgood w (List.mem_cons_of_mem _ (List.mem_cons_of_mem _ hw))) (hat w hw)
  have hk' : (Cond.classLink own ik cls).before args s' = true := vx_ot_at hW0 hvm.symm (hgood _ List.mem_cons_self) hk
  have hini' : (Cond.initialized cls).before args s' = true := vx_ot_at hW0 hvm.symm (hgood _ (List.mem_cons_of_mem _ List.mem_cons_self)) hini
  have hU' : vx_Zq Bundle.tN "UNASSIGNED_STACK" Bundle.steD A s' s'.heap := by rw [hhp]; exact vx_Zq.moved hW0.alike (hU.kept hS.2.1)
  have hN' : vx_Zq Bundle.tN "SUPPRESSED_SENTINEL" Bundle.listD A s' s'.heap := by rw [hhp]; exact vx_Zq.moved hW0.alike (hN.kept hS.2.1)
  have h : ∀ w ∈ Bundle.ownAtoms own ic cls names, w.before args s' = true := vx_own hat' (vx_isRefq hU'.1) (vx_isRefq hN'.1) hU'.2.word hN'.2.word
  have hown' : s'.vm.findClass own = some m.cls := by rw [hvm]; exact hown
  have hins : (Cond.instantiable cls 6).before args s' = true := h _ (by simp [Bundle.ownAtoms])
  obtain ⟨vm₁, cX, kX, hfX, hkX, -, -, X₁, st1⟩ := Y.newCold hexec (own := own) (C := cls) (index := ik) (n := 6) hown' hk' hins hini'
    (g := F0 m pc ls rest) rfl (by rw [hb]; exact d0) (Nat.le_refl _) (Nat.le_refl _)
  generalize hT1 : (T.setVm vm₁).pushCell { cls := cX, slots := kX.instanceTypes.map defaultValue, vm := .none } = T1 at X₁ st1
  have hcat : (Value.ref T.heap.size).category = 1 := rfl
  have hcellA : T1.heap[T.heap.size]? = some (freshCell cX kX) := by rw [← hT1]; exact State.heap_pushCell_size _ _
  have d3' : decode c.code (pc + 3) = .ok (.dup, 1) := by rw [hb]; exact d3
  have d4' : decode c.code (pc + 4) = .ok (.ldc_w is, 3) := by rw [hb]; exact d4
  have hstr' : vk_R own is text sa s' := vk_R.warm hW0 hstr
  obtain ⟨U, hsteps, hrun, hend, hW, hsame, ce, hce, hO⟩ := X₁.ctorThrowS hexec htr (own := own) (cls := cls) (names := names) (ic := ic) hown' hcls hnames h (fun x hx => nomatch hx) hfX hkX hcellA (by rw [hhp, hT]; exact Nat.le_refl _) (msg := .ref sa) rfl
    (g := { method := m, pc := pc + 7, locals := ls, stack := .ref sa :: .ref T.heap.size :: .ref T.heap.size :: rest, locked := none }) rfl hsize rfl rfl (rest := rest) rfl
    (by rw [hb]; exact d7) (by rw [hb]; exact d10) hout hRframes (by simp only [List.map_cons, List.sum_cons, hcat]; omega) hlocks
  obtain ⟨f1, f2⟩ := vx_frame hsame
  rw [hhp] at f1 f2
  have hWs : s.WarmedH U.vm := State.WarmedH.trans hW0 hW
  have hcl : s.vm.findClass cls = some ce.cls := by
    have h9 := hO.cls
    rw [hvm] at h9
    exact h9
  have hall : s.sameButNew ({ U with vm := s.vm } : State) locs mc ms := by
    subst hA
    obtain ⟨e1, e2⟩ := hsame
    rw [State.setFrames_setFrames] at e1
    have h2 : (T.setVm s.vm).sameButNew ({ U with vm := s.vm } : State) [] (0 + 1) (0 + 6) := ⟨e1, e2⟩
    have h3 := X.same.trans h2
    rw [List.append_nil] at h3
    exact h3.mono hc hs
  refine ⟨U, ?_, .threw T.heap.size, hrun, hend, Or.inr ⟨T.heap.size, rfl, cls, ce, locs, hx U hWs.alike f1 (fun q hq => f2 q hq (fun z hz => nomatch hz)), hce, hO.vm, hcl, hWs, hall, hf⟩⟩
  refine st1 _ ?_
  show Steps p.tables e below (T1.setTop { method := m, pc := pc + 3, locals := ls, stack := .ref T.heap.size :: rest, locked := none }) _
  jvm_step X₁.here [X₁.here.top, hexec, d3', Value.category]
  exact X₁.ldcStringW hexec (own := own) (text := text) (index := is) (a := sa) hown' hstr'.1 hstr'.2
    (g := { method := m, pc := pc + 4, locals := ls, stack := .ref T.heap.size :: .ref T.heap.size :: rest, locked := none }) rfl d4' _ hsteps
end Ends
section Bodies
variable {l : Launch}
theorem vx_ofW {y : MethodName} {ws ws' : List Cond} {rm : Room} {Pc : Array Value → State → Prop} {Qc : Array Value → State → Outcome → State → Prop} {XC : String → State → State → Prop} {mc ms : Nat} {free : Addr → Prop} {cc : ByteArray} {maxL : Nat} {ret : Option FieldType}
    (hy : plainName y.cls = true) (hw : ws = Cond.code y cc maxL ret :: ws')
    (body : ∀ p e s m args below meth c s₁, BodyLoose p l y (headSpec ws rm) cc maxL ret e s m args below meth c s₁ → c.maxLocals = maxL → (∀ x ∈ c.exceptionTable.toList, False) → Pc args s →
      W p l e (headSpec ws rm).room s m args below meth c s.heap [] 0 0 (vx_MQ below Qc XC args s mc ms free) (entryFrame m args maxL)) : vx_Met l y ws rm Pc Qc XC mc ms free := by
  refine MetFree.of_bodyS (code := cc) (maxLocals := maxL) (ret := ret) hy ?_ ?_
  · intro args s m h hn
    obtain ⟨meth, c, h1, h2, h3, h4, h5, h6, -, -⟩ := Cond.code_spec hn (atoms_spec (ws := ws) h _ (by rw [hw]; exact List.mem_cons_self))
    exact ⟨meth, c, h1, h2, h3, h4, h5, h6⟩
  · intro p e s m args below meth c s₁ B hml hP _
    have hh0 : s₁.heap = s.heap := by rw [B.state]; rfl
    have ht : ∀ x ∈ c.exceptionTable.toList, False := by
      obtain ⟨meth9, c9, h1, h2, -, -, -, -, h7, -⟩ := Cond.code_spec B.named (atoms_spec (ws := ws) B.pre _ (by rw [hw]; exact List.mem_cons_self))
      cases Option.some.inj (h1.symm.trans B.method)
      cases Option.some.inj (h2.symm.trans (Stand.of_body B).code)
      intro x hx
      rw [Array.isEmpty_iff.mp h7] at hx
      cases hx
    obtain ⟨t, a1, o, b1, b2, b3⟩ := body p e s m args below meth c s₁ B hml ht hP s₁ hh0 (Stand.of_body B)
    exact ⟨t, o, a1, b1, b2, b3⟩
/-- the table of a body with handlers -/
theorem vx_table {p : Program} {x y : MethodName} {S : Spec} {cc bytes : ByteArray} {maxL maxL' : Nat} {ret ret' : Option FieldType} {e : Env} {s s₁ : State} {m : MethodId} {args : Array Value} {below : List Frame} {meth : Method} {c : Code} {hh : List (Nat × Nat × Nat × Nat)}
    (B : BodyLoose p l y S cc maxL ret e s m args below meth c s₁) (h : (Cond.codeWith y bytes maxL' ret' hh).before args s = true) : c.exceptionTable.toList = tableOf hh := by
  obtain ⟨m9, meth9, c9, hn9, h1, h2, -, -, h6, -⟩ := Cond.codeWith_spec h
  cases Option.some.inj (hn9.symm.trans B.named)
  cases Option.some.inj (h1.symm.trans B.method)
  cases Option.some.inj (h2.symm.trans (Stand.of_body B).code)
  rw [← h6, table_eq]
end Bodies
end VXA
/-! ===== END ===== -/
/-! ===== BEGIN a static call of a method with an exception table ===== -/
section VXS
variable {p : Program} {l : Launch} {e : Env} {R : Room} {s : State} {m : MethodId} {args : Array Value} {below : List Frame} {meth : Method} {c : Code} {T : State} {H : Heap} {locs : List Loc} {cells slots : Nat}
abbrev vx_CSW (R : Room) (s : State) (args : Array Value) (own : String) (index : Nat) (y : MethodName) (bytes : ByteArray) (maxL : Nat) (ret : Option FieldType) (hh : List (Nat × Nat × Nat × Nat)) (ws : List Cond) (rm : Room) (mc ms n : Nat) : Prop :=
  (rm.cells = mc ∧ rm.slots = ms ∧ rm.frames + 1 ≤ R.frames ∧ 8 + (maxL + 11) + rm.locals ≤ R.locals ∧ (∀ w ∈ ws, ∀ (a' : Array Value) (U : State), s.WarmedH U.vm → w.before a' U = true) ∧ Cond.codeWith y bytes maxL ret hh ∈ ws) ∧
  (Cond.codeWith y bytes maxL ret hh).before args s = true ∧ (Cond.initialized y.cls).before args s = true ∧ (y.cls ≠ "java/lang/invoke/MethodHandle" ∧ y.cls ≠ "java/lang/invoke/VarHandle") ∧
  (∀ sig, parseMethodDescriptor y.desc = some sig → n = sig.parameters.length) ∧ (Cond.methodLink own index y).before args s = true ∧ (Cond.static y).before args s = true
theorem vx_cwSW {own : String} {index maxL mc ms : Nat} {y : MethodName} {bytes : ByteArray} {ret : Option FieldType} {hh : List (Nat × Nat × Nat × Nat)} {Ts ws ws' : List Cond} {rm : Room} (n : Nat) (ht : ∀ w ∈ Ts, w.before args s = true) (hT : GoodIn Ts (va_wsS own index y ws)) (hw : ws = Cond.codeWith y bytes maxL ret hh :: ws') (hrc : rm.cells = mc) (hrs : rm.slots = ms)
    (hd : y.cls ≠ "java/lang/invoke/MethodHandle" ∧ y.cls ≠ "java/lang/invoke/VarHandle" ∧ (parseMethodDescriptor y.desc).map (fun d => d.parameters.length) = some n) (hR : rm.frames + 1 ≤ R.frames ∧ 8 + (maxL + 11) + rm.locals ≤ R.locals) :
    vx_CSW R s args own index y bytes maxL ret hh ws rm mc ms n := by
  have ok : ∀ w ∈ va_wsS own index y ws, w.before args s = true := fun w h => ht w (hT w h).1
  have hG : GoodIn Ts ws := fun w h => hT w (by unfold va_wsS; exact List.mem_append_right _ h)
  have hc : Cond.codeWith y bytes maxL ret hh ∈ ws := by rw [hw]; exact List.mem_cons_self
  refine ⟨⟨hrc, hrs, hR.1, hR.2, pay_in ht hG, hc⟩, ht _ (hG _ hc).1, ok _ (by simp [va_wsS]), ⟨hd.1, hd.2.1⟩, fun sig h => ?_, ok _ (by simp [va_wsS]), ok _ (by simp [va_wsS])⟩
  have h2 := hd.2.2
  rw [h] at h2
  exact (Option.some.inj h2).symm
theorem vx_callSW (X : Stand p l e R s m args below meth c T locs cells slots) (hexec : p.tables.exec = Jvm.exec) {own : String} {index : Nat} {y : MethodName} {bytes : ByteArray} {maxL : Nat} {ret : Option FieldType} {hh : List (Nat × Nat × Nat × Nat)}
    (hown : s.vm.findClass own = some m.cls) (hlink : (Cond.methodLink own index y).before args s = true) (hstat : (Cond.static y).before args s = true) (hinit : (Cond.initialized y.cls).before args s = true)
    (hcode : (Cond.codeWith y bytes maxL ret hh).before args s = true) (hy : y.cls ≠ "java/lang/invoke/MethodHandle" ∧ y.cls ≠ "java/lang/invoke/VarHandle")
    {W9 : Nat} {Pre : Pt → Array Value → Prop} {Post : Pt → Array Value → Option Value → Pt → Prop} (hK : Back l R p e below s args y 3 W9 Pre Post)
    {g : JFrame} (hg : g.method = m) (hsize : g.locals.size = c.maxLocals) {argsL rest : List Value} (hlen : ∀ sig, parseMethodDescriptor y.desc = some sig → argsL.length = sig.parameters.length)
    (hstack : g.stack = argsL.reverse ++ rest) (hW : 2 * g.monitorRoom + (rest.map fun v => v.category).sum ≤ W9) (hdg : decode c.code g.pc = .ok (.invokestatic index, 3))
    (hpre : ∀ vm₁, s.WarmedH vm₁ → Pre ⟨T.setVm vm₁, locs, cells, slots⟩ argsL.toArray) :
    ∃ (v : Option Value) (vm₁ : Vm) (B : Pt), s.WarmedH vm₁ ∧ Stand p l e R s m args below meth c B.U B.locs B.cells B.slots ∧ Post ⟨T.setVm vm₁, locs, cells, slots⟩ argsL.toArray v B ∧
      ∀ target, Steps p.tables e below (B.U.setTop { g with pc := g.pc + 3, stack := v.toList ++ rest }) target → Steps p.tables e below (T.setTop g) target := by
  obtain ⟨mk, methM, cM, hnamed, hmethM, -, -, -, -, -, -, hsigM⟩ := Cond.codeWith_spec hcode
  have hstatic : methM.isStatic = true := Cond.static_spec hnamed hmethM hstat
  obtain ⟨kP, hkP, -⟩ := className_of_methodNamed hnamed
  have hinitP : kP.init = .initialized := Cond.initialized_spec (findClass_of_methodNamed hnamed) hkP hinit
  obtain ⟨vm₁, X₁, hstep₁⟩ := X.invokestatic hexec hown hlink hnamed hmethM hstatic hkP hinitP hy (g := g) hg (argsL := argsL) (rest := rest) (hlen _ hsigM) hstack hdg
  obtain ⟨v, B, X', hpost, hsteps⟩ := hK m meth c ⟨T.setVm vm₁, locs, cells, slots⟩ { g with stack := rest } (.invokestatic index) mk argsL.toArray X₁ hg hsize hdg hW (X₁.named hnamed) (hpre vm₁ X₁.warmed)
  exact ⟨v, vm₁, B, X₁.warmed, X', hpost, fun target h => hstep₁ _ fun acts => by rw [doInvoke_state]; exact hsteps.trans h⟩
theorem vx_runSW {y : MethodName} {bytes cc : ByteArray} {maxL nL mc ms n index : Nat} {ret : Option FieldType} {hh : List (Nat × Nat × Nat × Nat)} {ws : List Cond} {rm : Room} {Pc : Array Value → State → Prop} {Qc : Array Value → State → Outcome → State → Prop} {free : Addr → Prop} {Ts : List Cond} {own : String} {As rest : List Value} {g : JFrame}
    (S : CallFix p m c cc nL s args Ts own) (hM : Met l y ws rm Pc Qc mc ms free) (cw : vx_CSW R s args own index y bytes maxL ret hh ws rm mc ms n) (hp : PreS s H Pc As)
    (hg : g.method = m) (hn : As.length = n) (hsize : g.locals.size = nL) (hstack : g.stack = As.reverse ++ rest) (hW : 2 * g.monitorRoom + (rest.map fun v => v.category).sum ≤ 8) (hdg : decode cc g.pc = .ok (.invokestatic index, 3)) (hf : cells + mc ≤ R.cells ∧ slots + ms ≤ R.slots) :
    va_Run p l e R s m args below meth c H locs cells slots mc ms g rest (Qc As.toArray) (free) := by
  obtain ⟨⟨hrc, hrs, hfr, hlo, hws, hcw⟩, hcode, hini, hy, hlen, hl, hstt⟩ := cw
  have hK : Back l R p e below s args y 3 8 (PreOf R mc ms Pc) (PostOf Qc mc ms free) := va_backW (hh := hh) (bytes := bytes) (maxL := maxL) (ret := ret) hM hp.1 hrc hrs hfr hlo hws hcw (fun a' U hW => word_at hW (Or.inl (by first | rfl | simp [Cond.onTables, Cond.keeps, Cond.steady])) hini)
  obtain ⟨hx, hb, hml, ho, -⟩ := S
  intro T hT X
  obtain ⟨v, vm₁, ⟨U', l2, c2, s2⟩, hW₁, X', ⟨g', mk, t, L, e1, e2, hq, h1, hL, h2, h3⟩, st⟩ := vx_callSW X hx (hh := hh) (bytes := bytes) (maxL := maxL) (ret := ret) ho hl hstt hini hcode hy hK hg (hsize.trans hml.symm) (argsL := As) (rest := rest) (fun sig h => hn.trans (hlen sig h)) hstack hW (by rw [hb]; exact hdg)
    (fun vm₁ hW₁ => ⟨hf.1, hf.2, hp.2 (T.setVm vm₁) hT hW₁⟩)
  dsimp only [Pt.U, Pt.locs, Pt.cells, Pt.slots] at X' e1 e2 h1 h2 h3 st
  subst h1; subst h2; subst h3
  exact ⟨v, (T.setVm vm₁).calling g' mk As.toArray, t, U', L, hT, X', hL, e1, e2, hq, st⟩
/-- not caught here, past rows that name other classes: it goes on to the caller -/
theorem vx_outP {p : Program} {l : Launch} {e : Env} {R : Room} {s : State} {m : MethodId} {args : Array Value} {below : List Frame} {meth : Method} {c : Code} {H : Heap} {locs : List Loc} {cells slots : Nat} {free : Addr → Prop} {ls : Array Slot} {rest : List Value} {Qc : Array Value → State → Outcome → State → Prop} {XC : String → State → State → Prop}
    {pc : Nat} {own E : String} {ce : Cell} {q : Addr} {mc ms : Nat} (hown : s.vm.findClass own = some m.cls) (hlocks : meth.locks = false)
    (hpass : ∀ z ∈ c.exceptionTable.toList, covers z pc = false ∨ (z.catchType ≠ 0 ∧ ∃ nm : String, (Cond.classLink own z.catchType nm).before args s = true ∧ va_Nc E nm s)) (hcell : H[q]? = some ce) (hv : ce.vm = .none) (hcl : s.vm.findClass E = some ce.cls)
    (hx : ∀ t : State, t.heap = H → s.vm.Alike t.vm → XC E s t) (hf : ∀ z ∈ locs, free z.base) (hc : cells ≤ mc) (hs : slots ≤ ms) :
    vx_W p l e R s m args below meth c H locs cells slots (vx_MQ below Qc XC args s mc ms free) (F0 m pc ls rest) q := by
  intro T hT X
  have hpl : e.platform.magicAccessors = ({} : Platform).magicAccessors := by rw [X.admits.platform]
  obtain ⟨vm', hW', X', st⟩ := X.outThrough hlocks q (g := F0 m pc ls rest) rfl rfl rfl (cell := ce) (by rw [hT]; exact hcell) (by rw [hv]; rfl)
    (by obtain ⟨k9, h9, -⟩ := Vm.findClass_spec hcl; exact ⟨k9, h9⟩) (fun z hz => by
      rcases hpass z hz with h | ⟨hz0, nm, hl1, hn1⟩
      · exact Or.inl h
      · obtain ⟨c6, hc6, hcl6⟩ := Cond.classLink_spec hown hl1 e.platform hpl
        obtain ⟨a8, b8, h1, h2, h3⟩ := hn1
        cases Option.some.inj (h1.symm.trans hcl)
        cases Option.some.inj (h2.symm.trans hc6)
        exact Or.inr ⟨hz0, _, hcl6, h3⟩)
  obtain ⟨g₀, hfr⟩ := X'.frames_eq
  have hcell9 : ((T.setVm vm').setFrames (.throwing q :: below)).heap[q]? = some ce := by
    show T.heap[q]? = some ce
    rw [hT]; exact hcell
  have hend : Ended ((T.setVm vm').setFrames (.throwing q :: below)) below (.threw q) := State.frames_setFrames _ (State.cur_lt_of_frames hfr)
  refine ⟨(T.setVm vm').setFrames (.throwing q :: below), ?_, .threw q, X'.here.running, hend, Or.inr ⟨q, rfl, E, ce, locs, hx _ hT (X'.ends _).1.alike, hcell9, hv, hcl, (X'.ends _).1, (X'.ends _).2.mono hc hs, hf⟩⟩
  rw [X.pushThrowing_eq]
  exact st
/-- a thing of a world lies in the heap -/
theorem vx_lt {D : va_G} {cl : List vw_C} {ws : va_W} {H1 : Heap} (h : va_P D cl ws H1) {k : Nat} {q : Nat × va_E} (hk : ws[k]? = some q) : q.1 < H1.size := (h k q hk).lt
end VXS
/-! ===== END ===== -/
/-! ===== BEGIN methods with a table of their own: called by a name, returning or throwing ===== -/
section VXH
/-! vx_backW, vx_callVX, vx_callSX, vx_callVW, vx_runVW, vx_runVX, vx_runSX, vx_ofWH follow the same proofs as their sisters above (Free/Laws.lean, Shelf42/LK1.lean); vx_outP calls Shelf42/NT130.lean (outThrough). -/
section
variable {l : Launch} {R : Room} {p : Program} {e : Env} {below : List Frame} {s : State} {sargs : Array Value} {y : MethodName} {len W9 : Nat}
theorem vx_backW {ws : List Cond} {rm : Room} {Pc : Array Value → State → Prop} {Qc : Array Value → State → Outcome → State → Prop} {XC : String → State → State → Prop} {mc ms : Nat} {free : Addr → Prop} {bytes : ByteArray} {maxL : Nat} {ret : Option FieldType} {hh : List (Nat × Nat × Nat × Nat)}
    (hM : vx_Met l y ws rm Pc Qc XC mc ms free) (hblind : FrameBlind Pc) (hrc : rm.cells = mc) (hrs : rm.slots = ms)
    (hframes : rm.frames + 1 ≤ R.frames) (hlocals : W9 + (maxL + 11) + rm.locals ≤ R.locals)
    (hws : ∀ w ∈ ws, ∀ a' U, s.WarmedH U.vm → w.before a' U = true) (hcode : Cond.codeWith y bytes maxL ret hh ∈ ws) (hinit : ∀ a' U, s.WarmedH U.vm → (Cond.initialized y.cls).before a' U = true) :
    vx_Back l R p e below s sargs y len W9 (PreOf R mc ms Pc) (PostOf Qc mc ms free) (vx_Post XC mc ms free) := by
  intro m meth c A g ig mk a X hg hsize hdg hW hn hp
  have h1 : (headSpec ws rm).pre.before a A.U = true := atoms_intro fun w hw => hws w hw _ _ X.warmed
  have h2 : (Cond.codeWith y bytes maxL ret hh).before a A.U = true := hws _ hcode _ _ X.warmed
  have h3 : (Cond.initialized y.cls).before a A.U = true := hinit _ _ X.warmed
  have h4 : A.cells + (headSpec ws rm).room.cells ≤ R.cells := by rw [show (headSpec ws rm).room.cells = mc from hrc]; exact hp.1
  have h5 : A.slots + (headSpec ws rm).room.slots ≤ R.slots := by rw [show (headSpec ws rm).room.slots = ms from hrs]; exact hp.2.1
  have hPc : Pc a (A.U.calling g mk a) := hblind _ _ _ _ hp.2.2
  obtain ⟨U, Ls, c0, s0⟩ := A
  dsimp only [Pt.U, Pt.locs, Pt.cells, Pt.slots] at h1 h2 h3 h4 h5 X hn hPc ⊢
  obtain ⟨m9, methY, cY, hn9, hmY, hcY, -, hlY, -⟩ := Cond.codeWith_spec h2
  cases Option.some.inj (hn9.symm.trans hn)
  obtain ⟨kY, hkY, -⟩ := className_of_methodNamed hn
  have hinitY : kY.init = .initialized := Cond.initialized_spec (findClass_of_methodNamed hn) hkY h3
  have h : At U g.method c below := by rw [hg]; exact X.here
  have hlocals9 : W9 + (maxL + 11) + (headSpec ws rm).room.locals ≤ R.locals := hlocals
  have happ : (headSpec ws rm).appliesLoose y e.platform (U.calling g mk a) = true :=
    Spec.appliesLoose_calling (g := g) h hdg hn hkY hinitY
      (X.room_calling (g := g) (R' := (headSpec ws rm).room) hsize hmY hcY hframes (by rw [hlY]; omega) h4 h5) h1
  obtain ⟨mid, hmid⟩ := h.above
  have hfr : (U.setTop g).frames = (.java g :: mid) ++ below := by rw [State.frames_setTop' g h.top, hmid]; rfl
  obtain ⟨o, s₂, hsteps, -, hend, hq⟩ := Steps.callFree hM p X.admits X.cas X.clock (acts := []) hfr happ hPc trivial
  have hq' : vx_Q Qc XC mc ms free a (U.calling g mk a) o s₂ := hq
  rw [State.frames_setTop' g h.top] at hend
  obtain ⟨g₀, hg0⟩ := Option.isSome_iff_exists.mp h.top
  obtain ⟨r, hr⟩ := State.topJava?_eq_some.mp hg0
  have hr' : (({ U with heap := s₂.heap, slotsUsed := s₂.slotsUsed } : State).setVm s₂.vm).frames = .java g₀ :: r := hr
  rcases hq' with ⟨hqc, L, hfe, hL⟩ | ⟨q, rfl, E, ce, L, hx, hce, hcv, hcl, hW₂, hsm, hL⟩
  · obtain ⟨⟨v, rfl⟩, hW₂, e2, q2, q3, q4, q5, q6⟩ := id hfe
    have e3 : s₂ = ({ (U.calling g mk a).setFrames s₂.frames with heap := s₂.heap, slotsUsed := s₂.slotsUsed } : State).setVm s₂.vm := by
      have : s₂ = ({ s₂ with vm := (U.calling g mk a).vm } : State).setVm s₂.vm := rfl
      rw [e2] at this
      exact this
    obtain ⟨c₂, i₂, len₂, hc₂, hd₂, hf₂⟩ := hend
    have hW' : U.WarmedH s₂.vm := hW₂
    have hcc : c₂ = c := by
      have h1 : s₂.code? g.method = U.code? g.method := by
        rw [State.code?_eq, State.code?_eq, hW'.alike.method?]
      exact Option.some.inj (hc₂.symm.trans (h1.trans h.code))
    subst hcc
    have hlen : len₂ = len := by rw [hdg] at hd₂; cases hd₂; rfl
    subst hlen
    have hs₂ : s₂ = (({ U with heap := s₂.heap, slotsUsed := s₂.slotsUsed } : State).setVm s₂.vm).setTop { g with pc := g.pc + len₂, stack := v.toList ++ g.stack } := by
      refine e3.trans ?_
      rw [hf₂, State.calling_eq h.top, State.setFrames_setFrames, State.setTop_of_frames _ hr', hr]
      rfl
    have hsame : U.sameButNew ({ U with heap := s₂.heap, slotsUsed := s₂.slotsUsed } : State) L mc ms := by
      refine ⟨?_, q2, q3, q4, q5, q6⟩
      obtain ⟨t, ht, -⟩ := State.frames_cons hr
      show ({ U with heap := s₂.heap, slotsUsed := s₂.slotsUsed } : State) = { U.setFrames U.frames with heap := s₂.heap, slotsUsed := s₂.slotsUsed }
      rw [State.setFrames_self ht]
    subst hg
    refine Or.inl ⟨v, ⟨(({ U with heap := s₂.heap, slotsUsed := s₂.slotsUsed } : State).setVm s₂.vm), Ls ++ L, c0 + mc, s0 + ms⟩,
      ⟨X.admits, X.cas, X.clock, X.frames, X.room, X.hears, X.method, X.code, (X.here.setHeapUsed s₂.heap s₂.slotsUsed).setVm hW'.alike, X.tail, State.WarmedH.trans X.warmed hW', X.limits, X.bytes, X.same.trans (hsame.setVm s.vm)⟩,
      ⟨g, mk, s₂, L, rfl, rfl, hqc, rfl, hL, rfl, rfl⟩, ?_⟩
    show Steps p.tables e below _ ((({ U with heap := s₂.heap, slotsUsed := s₂.slotsUsed } : State).setVm s₂.vm).setTop { g with pc := g.pc + len₂, stack := v.toList ++ g.stack })
    rw [← hs₂]
    exact hsteps
  · obtain ⟨e2, q2, q3, q4, q5, q6⟩ := id hsm
    have e3 : s₂ = ({ (U.calling g mk a).setFrames s₂.frames with heap := s₂.heap, slotsUsed := s₂.slotsUsed } : State).setVm s₂.vm := by
      have : s₂ = ({ s₂ with vm := (U.calling g mk a).vm } : State).setVm s₂.vm := rfl
      rw [e2] at this
      exact this
    have hf₂ : s₂.frames = .throwing q :: .java g :: U.frames.tail := hend
    have hW' : U.WarmedH s₂.vm := hW₂
    have hs₂ : s₂ = ((({ U with heap := s₂.heap, slotsUsed := s₂.slotsUsed } : State).setVm s₂.vm).setTop g).pushFrame (.throwing q) := by
      refine e3.trans ?_
      rw [hf₂, State.calling_eq h.top, State.setFrames_setFrames, State.pushFrame, State.frames_setTop _ hr', State.setTop_of_frames _ hr', State.setFrames_setFrames, hr]
      rfl
    have hsame : U.sameButNew ({ U with heap := s₂.heap, slotsUsed := s₂.slotsUsed } : State) L mc ms := by
      refine ⟨?_, q2, q3, q4, q5, q6⟩
      obtain ⟨t, ht, -⟩ := State.frames_cons hr
      show ({ U with heap := s₂.heap, slotsUsed := s₂.slotsUsed } : State) = { U.setFrames U.frames with heap := s₂.heap, slotsUsed := s₂.slotsUsed }
      rw [State.setFrames_self ht]
    subst hg
    refine Or.inr ⟨q, ⟨(({ U with heap := s₂.heap, slotsUsed := s₂.slotsUsed } : State).setVm s₂.vm), Ls ++ L, c0 + mc, s0 + ms⟩,
      ⟨X.admits, X.cas, X.clock, X.frames, X.room, X.hears, X.method, X.code, (X.here.setHeapUsed s₂.heap s₂.slotsUsed).setVm hW'.alike, X.tail, State.WarmedH.trans X.warmed hW', X.limits, X.bytes, X.same.trans (hsame.setVm s.vm)⟩,
      ⟨g, mk, s₂, L, E, ce, rfl, rfl, hx, hce, hcv, hcl, rfl, hL, rfl, rfl⟩, ?_⟩
    show Steps p.tables e below _ (((({ U with heap := s₂.heap, slotsUsed := s₂.slotsUsed } : State).setVm s₂.vm).setTop g).pushFrame (.throwing q))
    rw [← hs₂]
    exact hsteps
end
variable {p : Program} {l : Launch} {e : Env} {R : Room} {s : State} {m : MethodId} {args : Array Value} {below : List Frame} {meth : Method} {c : Code} {T : State} {H : Heap} {locs : List Loc} {cells slots : Nat}
theorem vx_callVX (X : Stand p l e R s m args below meth c T locs cells slots) (hexec : p.tables.exec = Jvm.exec) {own C : String} {index : Nat} {y : MethodName} {bytes : ByteArray} {maxL : Nat} {ret : Option FieldType} {hh : List (Nat × Nat × Nat × Nat)}
    (hown : s.vm.findClass own = some m.cls) (hlink : (Cond.methodLink own index y).before args s = true) (hinst : (Cond.instanceMethod y).before args s = true) (hsel : (Cond.selects C y y).before args s = true)
    (hcode : (Cond.codeWith y bytes maxL ret hh).before args s = true) (hy : y.cls ≠ "java/lang/invoke/MethodHandle" ∧ y.cls ≠ "java/lang/invoke/VarHandle")
    {W9 : Nat} {Pre : Pt → Array Value → Prop} {Post : Pt → Array Value → Option Value → Pt → Prop} {PostX : Pt → Array Value → Addr → Pt → Prop} (hK : vx_Back l R p e below s args y 3 W9 Pre Post PostX)
    {b : Addr} {cellB : Cell} (hcell : T.heap[b]? = some cellB) (hobj : cellB.vm.isStatics = false) (hcls : s.vm.findClass C = some cellB.cls)
    {g : JFrame} (hg : g.method = m) (hsize : g.locals.size = c.maxLocals) {argsL rest : List Value} (hlen : ∀ sig, parseMethodDescriptor y.desc = some sig → argsL.length = sig.parameters.length)
    (hstack : g.stack = argsL.reverse ++ .ref b :: rest) (hW : 2 * g.monitorRoom + (rest.map fun v => v.category).sum ≤ W9) (hdg : decode c.code g.pc = .ok (.invokevirtual index, 3))
    (hpre : ∀ vm₁, s.WarmedH vm₁ → Pre ⟨T.setVm vm₁, locs, cells, slots⟩ (Value.ref b :: argsL).toArray) :
    (∃ (v : Option Value) (vm₁ : Vm) (B : Pt), s.WarmedH vm₁ ∧ Stand p l e R s m args below meth c B.U B.locs B.cells B.slots ∧ Post ⟨T.setVm vm₁, locs, cells, slots⟩ (Value.ref b :: argsL).toArray v B ∧
      ∀ target, Steps p.tables e below (B.U.setTop { g with pc := g.pc + 3, stack := v.toList ++ rest }) target → Steps p.tables e below (T.setTop g) target) ∨
    (∃ (q : Addr) (vm₁ : Vm) (B : Pt), s.WarmedH vm₁ ∧ Stand p l e R s m args below meth c B.U B.locs B.cells B.slots ∧ PostX ⟨T.setVm vm₁, locs, cells, slots⟩ (Value.ref b :: argsL).toArray q B ∧
      Steps p.tables e below (T.setTop g) ((B.U.setTop { g with stack := rest }).pushFrame (.throwing q))) := by
  obtain ⟨mk, methM, hnamed, hmethM, hstM, habM⟩ := Cond.instanceMethod_spec hinst
  obtain ⟨m8, methM', cM, hn8, hmethM', -, -, -, -, -, -, hsigM⟩ := Cond.codeWith_spec hcode
  cases Option.some.inj (hn8.symm.trans hnamed)
  cases hmethM.symm.trans hmethM'
  obtain ⟨c2, r2, m2, q1, q2, q3, q4, kP, hkP, hkPi⟩ := Cond.selects_spec hsel
  cases hcls.symm.trans q1
  cases (State.methodFound?_of_named hnamed hy).symm.trans q2
  cases hnamed.symm.trans q3
  have hselP : selectMethod e.platform s.vm cellB.cls mk = .method mk := by rw [Launch.admits_selectMethod X.admits]; exact q4
  obtain ⟨vm₁, X₁, hstep₁⟩ := X.invokevirtual hexec hown hlink hnamed hmethM hstM hkP hkPi hy (a := b) (cell := cellB) hcell
    (fun z h => by rw [h] at hobj; cases hobj) hselP hmethM habM hkP hkPi (g := g) hg (argsL := argsL) (rest := rest) (hlen _ hsigM) hstack hdg
  rcases hK m meth c ⟨T.setVm vm₁, locs, cells, slots⟩ { g with stack := rest } (.invokevirtual index) mk (Value.ref b :: argsL).toArray X₁ hg hsize hdg hW (X₁.named hnamed) (hpre vm₁ X₁.warmed) with ⟨v, B, X', hpost, hsteps⟩ | ⟨q, B, X', hpost, hsteps⟩
  · exact Or.inl ⟨v, vm₁, B, X₁.warmed, X', hpost, fun target h => hstep₁ _ fun acts => by rw [doInvoke_state]; exact hsteps.trans h⟩
  · exact Or.inr ⟨q, vm₁, B, X₁.warmed, X', hpost, hstep₁ _ fun acts => by rw [doInvoke_state]; exact hsteps⟩
theorem vx_callSX (X : Stand p l e R s m args below meth c T locs cells slots) (hexec : p.tables.exec = Jvm.exec) {own : String} {index : Nat} {y : MethodName} {bytes : ByteArray} {maxL : Nat} {ret : Option FieldType} {hh : List (Nat × Nat × Nat × Nat)}
    (hown : s.vm.findClass own = some m.cls) (hlink : (Cond.methodLink own index y).before args s = true) (hstat : (Cond.static y).before args s = true) (hinit : (Cond.initialized y.cls).before args s = true)
    (hcode : (Cond.codeWith y bytes maxL ret hh).before args s = true) (hy : y.cls ≠ "java/lang/invoke/MethodHandle" ∧ y.cls ≠ "java/lang/invoke/VarHandle")
    {W9 : Nat} {Pre : Pt → Array Value → Prop} {Post : Pt → Array Value → Option Value → Pt → Prop} {PostX : Pt → Array Value → Addr → Pt → Prop} (hK : vx_Back l R p e below s args y 3 W9 Pre Post PostX)
    {g : JFrame} (hg : g.method = m) (hsize : g.locals.size = c.maxLocals) {argsL rest : List Value} (hlen : ∀ sig, parseMethodDescriptor y.desc = some sig → argsL.length = sig.parameters.length)
    (hstack : g.stack = argsL.reverse ++ rest) (hW : 2 * g.monitorRoom + (rest.map fun v => v.category).sum ≤ W9) (hdg : decode c.code g.pc = .ok (.invokestatic index, 3))
    (hpre : ∀ vm₁, s.WarmedH vm₁ → Pre ⟨T.setVm vm₁, locs, cells, slots⟩ argsL.toArray) :
    (∃ (v : Option Value) (vm₁ : Vm) (B : Pt), s.WarmedH vm₁ ∧ Stand p l e R s m args below meth c B.U B.locs B.cells B.slots ∧ Post ⟨T.setVm vm₁, locs, cells, slots⟩ argsL.toArray v B ∧
      ∀ target, Steps p.tables e below (B.U.setTop { g with pc := g.pc + 3, stack := v.toList ++ rest }) target → Steps p.tables e below (T.setTop g) target) ∨
    (∃ (q : Addr) (vm₁ : Vm) (B : Pt), s.WarmedH vm₁ ∧ Stand p l e R s m args below meth c B.U B.locs B.cells B.slots ∧ PostX ⟨T.setVm vm₁, locs, cells, slots⟩ argsL.toArray q B ∧
      Steps p.tables e below (T.setTop g) ((B.U.setTop { g with stack := rest }).pushFrame (.throwing q))) := by
  obtain ⟨mk, methM, cM, hnamed, hmethM, -, -, -, -, -, -, hsigM⟩ := Cond.codeWith_spec hcode
  have hstatic : methM.isStatic = true := Cond.static_spec hnamed hmethM hstat
  obtain ⟨kP, hkP, -⟩ := className_of_methodNamed hnamed
  have hinitP : kP.init = .initialized := Cond.initialized_spec (findClass_of_methodNamed hnamed) hkP hinit
  obtain ⟨vm₁, X₁, hstep₁⟩ := X.invokestatic hexec hown hlink hnamed hmethM hstatic hkP hinitP hy (g := g) hg (argsL := argsL) (rest := rest) (hlen _ hsigM) hstack hdg
  rcases hK m meth c ⟨T.setVm vm₁, locs, cells, slots⟩ { g with stack := rest } (.invokestatic index) mk argsL.toArray X₁ hg hsize hdg hW (X₁.named hnamed) (hpre vm₁ X₁.warmed) with ⟨v, B, X', hpost, hsteps⟩ | ⟨q, B, X', hpost, hsteps⟩
  · exact Or.inl ⟨v, vm₁, B, X₁.warmed, X', hpost, fun target h => hstep₁ _ fun acts => by rw [doInvoke_state]; exact hsteps.trans h⟩
  · exact Or.inr ⟨q, vm₁, B, X₁.warmed, X', hpost, hstep₁ _ fun acts => by rw [doInvoke_state]; exact hsteps⟩
theorem vx_callVW (X : Stand p l e R s m args below meth c T locs cells slots) (hexec : p.tables.exec = Jvm.exec) {own C : String} {index : Nat} {y : MethodName} {bytes : ByteArray} {maxL : Nat} {ret : Option FieldType} {hh : List (Nat × Nat × Nat × Nat)}
    (hown : s.vm.findClass own = some m.cls) (hlink : (Cond.methodLink own index y).before args s = true) (hinst : (Cond.instanceMethod y).before args s = true) (hsel : (Cond.selects C y y).before args s = true)
    (hcode : (Cond.codeWith y bytes maxL ret hh).before args s = true) (hy : y.cls ≠ "java/lang/invoke/MethodHandle" ∧ y.cls ≠ "java/lang/invoke/VarHandle")
    {W9 : Nat} {Pre : Pt → Array Value → Prop} {Post : Pt → Array Value → Option Value → Pt → Prop} (hK : Back l R p e below s args y 3 W9 Pre Post)
    {b : Addr} {cellB : Cell} (hcell : T.heap[b]? = some cellB) (hobj : cellB.vm.isStatics = false) (hcls : s.vm.findClass C = some cellB.cls)
    {g : JFrame} (hg : g.method = m) (hsize : g.locals.size = c.maxLocals) {argsL rest : List Value} (hlen : ∀ sig, parseMethodDescriptor y.desc = some sig → argsL.length = sig.parameters.length)
    (hstack : g.stack = argsL.reverse ++ .ref b :: rest) (hW : 2 * g.monitorRoom + (rest.map fun v => v.category).sum ≤ W9) (hdg : decode c.code g.pc = .ok (.invokevirtual index, 3))
    (hpre : ∀ vm₁, s.WarmedH vm₁ → Pre ⟨T.setVm vm₁, locs, cells, slots⟩ (Value.ref b :: argsL).toArray) :
    ∃ (v : Option Value) (vm₁ : Vm) (B : Pt), s.WarmedH vm₁ ∧ Stand p l e R s m args below meth c B.U B.locs B.cells B.slots ∧ Post ⟨T.setVm vm₁, locs, cells, slots⟩ (Value.ref b :: argsL).toArray v B ∧
      ∀ target, Steps p.tables e below (B.U.setTop { g with pc := g.pc + 3, stack := v.toList ++ rest }) target → Steps p.tables e below (T.setTop g) target := by
  obtain ⟨mk, methM, hnamed, hmethM, hstM, habM⟩ := Cond.instanceMethod_spec hinst
  obtain ⟨m8, methM', cM, hn8, hmethM', -, -, -, -, -, -, hsigM⟩ := Cond.codeWith_spec hcode
  cases Option.some.inj (hn8.symm.trans hnamed)
  cases hmethM.symm.trans hmethM'
  obtain ⟨c2, r2, m2, q1, q2, q3, q4, kP, hkP, hkPi⟩ := Cond.selects_spec hsel
  cases hcls.symm.trans q1
  cases (State.methodFound?_of_named hnamed hy).symm.trans q2
  cases hnamed.symm.trans q3
  have hselP : selectMethod e.platform s.vm cellB.cls mk = .method mk := by rw [Launch.admits_selectMethod X.admits]; exact q4
  obtain ⟨vm₁, X₁, hstep₁⟩ := X.invokevirtual hexec hown hlink hnamed hmethM hstM hkP hkPi hy (a := b) (cell := cellB) hcell
    (fun z h => by rw [h] at hobj; cases hobj) hselP hmethM habM hkP hkPi (g := g) hg (argsL := argsL) (rest := rest) (hlen _ hsigM) hstack hdg
  obtain ⟨v, B, X', hpost, hsteps⟩ := hK m meth c ⟨T.setVm vm₁, locs, cells, slots⟩ { g with stack := rest } (.invokevirtual index) mk (Value.ref b :: argsL).toArray X₁ hg hsize hdg hW (X₁.named hnamed) (hpre vm₁ X₁.warmed)
  exact ⟨v, vm₁, B, X₁.warmed, X', hpost, fun target h => hstep₁ _ fun acts => by rw [doInvoke_state]; exact hsteps.trans h⟩
abbrev vx_CVW (R : Room) (s : State) (args : Array Value) (own C : String) (index : Nat) (y : MethodName) (bytes : ByteArray) (maxL : Nat) (ret : Option FieldType) (hh : List (Nat × Nat × Nat × Nat)) (ws : List Cond) (rm : Room) (mc ms n : Nat) : Prop :=
  (rm.cells = mc ∧ rm.slots = ms ∧ rm.frames + 1 ≤ R.frames ∧ 8 + (maxL + 11) + rm.locals ≤ R.locals ∧ (∀ w ∈ ws, ∀ (a' : Array Value) (U : State), s.WarmedH U.vm → w.before a' U = true) ∧ Cond.codeWith y bytes maxL ret hh ∈ ws) ∧
  (Cond.codeWith y bytes maxL ret hh).before args s = true ∧ (Cond.initialized y.cls).before args s = true ∧ (y.cls ≠ "java/lang/invoke/MethodHandle" ∧ y.cls ≠ "java/lang/invoke/VarHandle") ∧
  (∀ sig, parseMethodDescriptor y.desc = some sig → n = sig.parameters.length) ∧ (Cond.methodLink own index y).before args s = true ∧ (Cond.instanceMethod y).before args s = true ∧ (Cond.selects C y y).before args s = true
theorem vx_cwVW {own C : String} {index maxL mc ms : Nat} {y : MethodName} {bytes : ByteArray} {ret : Option FieldType} {hh : List (Nat × Nat × Nat × Nat)} {Ts ws ws' : List Cond} {rm : Room} (n : Nat) (ht : ∀ w ∈ Ts, w.before args s = true) (hT : GoodIn Ts (wsV own index C y ws)) (hw : ws = Cond.codeWith y bytes maxL ret hh :: ws') (hrc : rm.cells = mc) (hrs : rm.slots = ms)
    (hd : y.cls = C ∧ y.cls ≠ "java/lang/invoke/MethodHandle" ∧ y.cls ≠ "java/lang/invoke/VarHandle" ∧ (parseMethodDescriptor y.desc).map (fun d => d.parameters.length) = some n) (hR : rm.frames + 1 ≤ R.frames ∧ 8 + (maxL + 11) + rm.locals ≤ R.locals) :
    vx_CVW R s args own C index y bytes maxL ret hh ws rm mc ms n := by
  obtain ⟨hC, hd⟩ := hd
  subst hC
  have ok : ∀ w ∈ wsV own index y.cls y ws, w.before args s = true := fun w h => ht w (hT w h).1
  have hG : GoodIn Ts ws := fun w h => hT w (by unfold wsV; exact List.mem_append_right _ h)
  have hc : Cond.codeWith y bytes maxL ret hh ∈ ws := by rw [hw]; exact List.mem_cons_self
  refine ⟨⟨hrc, hrs, hR.1, hR.2, pay_in ht hG, hc⟩, ht _ (hG _ hc).1, ok _ (by simp [wsV]), ⟨hd.1, hd.2.1⟩, fun sig h => ?_, ok _ (by simp [wsV]), ok _ (by simp [wsV]), ok _ (by simp [wsV])⟩
  have h2 := hd.2.2
  rw [h] at h2
  exact (Option.some.inj h2).symm
theorem vx_runVW {y : MethodName} {bytes cc : ByteArray} {maxL nL mc ms n index : Nat} {ret : Option FieldType} {hh : List (Nat × Nat × Nat × Nat)} {ws : List Cond} {rm : Room} {Pc : Array Value → State → Prop} {Qc : Array Value → State → Outcome → State → Prop} {free : Addr → Prop} {Ts : List Cond} {own C : String} {b : Addr} {As rest : List Value} {g : JFrame}
    (S : CallFix p m c cc nL s args Ts own) (hM : Met l y ws rm Pc Qc mc ms free) (cw : vx_CVW R s args own C index y bytes maxL ret hh ws rm mc ms n) (hp : PreV s H C b Pc As)
    (hg : g.method = m) (hn : As.length = n) (hsize : g.locals.size = nL) (hstack : g.stack = As.reverse ++ .ref b :: rest) (hW : 2 * g.monitorRoom + (rest.map fun v => v.category).sum ≤ 8) (hdg : decode cc g.pc = .ok (.invokevirtual index, 3)) (hf : cells + mc ≤ R.cells ∧ slots + ms ≤ R.slots) :
    va_Run p l e R s m args below meth c H locs cells slots mc ms g rest (Qc (Value.ref b :: As).toArray) free := by
  obtain ⟨⟨hrc, hrs, hfr, hlo, hws, hcw⟩, hcode, hini, hy, hlen, hl, hin, hse⟩ := cw
  have hK : Back l R p e below s args y 3 8 (PreOf R mc ms Pc) (PostOf Qc mc ms free) := va_backW (hh := hh) (bytes := bytes) (maxL := maxL) (ret := ret) hM hp.1 hrc hrs hfr hlo hws hcw (fun a' U hW => word_at hW (Or.inl (by first | rfl | simp [Cond.onTables, Cond.keeps, Cond.steady])) hini)
  obtain ⟨hx, hb, hml, ho, -⟩ := S
  obtain ⟨-, ⟨cellB, hcB, hoB, hclB⟩, hPc⟩ := hp
  intro T hT X
  obtain ⟨v, vm₁, ⟨U', l2, c2, s2⟩, hW₁, X', ⟨g', mk, t, L, e1, e2, hq, h1, hL, h2, h3⟩, st⟩ := vx_callVW X hx (C := C) (hh := hh) (bytes := bytes) (maxL := maxL) (ret := ret) ho hl hin hse hcode hy hK (by rw [hT]; exact hcB) hoB hclB hg (hsize.trans hml.symm) (argsL := As) (rest := rest) (fun sig h => hn.trans (hlen sig h)) hstack hW (by rw [hb]; exact hdg)
    (fun vm₁ hW₁ => ⟨hf.1, hf.2, hPc (T.setVm vm₁) hT hW₁⟩)
  dsimp only [Pt.U, Pt.locs, Pt.cells, Pt.slots] at X' e1 e2 h1 h2 h3 st
  subst h1; subst h2; subst h3
  exact ⟨v, (T.setVm vm₁).calling g' mk (Value.ref b :: As).toArray, t, U', L, hT, X', hL, e1, e2, hq, st⟩
section
variable {y : MethodName} {bytes cc : ByteArray} {maxL nL mc ms n index : Nat} {ret : Option FieldType} {ws : List Cond} {rm : Room} {Pc : Array Value → State → Prop} {Qc : Array Value → State → Outcome → State → Prop} {XC : String → State → State → Prop} {free : Addr → Prop} {Ts : List Cond} {own C : String} {b : Addr} {As rest : List Value} {g : JFrame}
theorem vx_runVX {hh : List (Nat × Nat × Nat × Nat)} (S : CallFix p m c cc nL s args Ts own) (hM : vx_Met l y ws rm Pc Qc XC mc ms free) (cw : vx_CVW R s args own C index y bytes maxL ret hh ws rm mc ms n) (hp : PreV s H C b Pc As)
    (hg : g.method = m) (hn : As.length = n) (hsize : g.locals.size = nL) (hstack : g.stack = As.reverse ++ .ref b :: rest) (hW : 2 * g.monitorRoom + (rest.map fun v => v.category).sum ≤ 8) (hdg : decode cc g.pc = .ok (.invokevirtual index, 3)) (hf : cells + mc ≤ R.cells ∧ slots + ms ≤ R.slots) :
    vx_Run p l e R s m args below meth c H locs cells slots mc ms g rest (Qc (Value.ref b :: As).toArray) XC free := by
  obtain ⟨⟨hrc, hrs, hfr, hlo, hws, hcw⟩, hcode, hini, hy, hlen, hl, hin, hse⟩ := cw
  have hK : vx_Back l R p e below s args y 3 8 (PreOf R mc ms Pc) (PostOf Qc mc ms free) (vx_Post XC mc ms free) := vx_backW (hh := hh) (bytes := bytes) (maxL := maxL) (ret := ret) hM hp.1 hrc hrs hfr hlo hws hcw (fun a' U hW => word_at hW (Or.inl (by first | rfl | simp [Cond.onTables, Cond.keeps, Cond.steady])) hini)
  obtain ⟨hx, hb, hml, ho, -⟩ := S
  obtain ⟨-, ⟨cellB, hcB, hoB, hclB⟩, hPc⟩ := hp
  intro T hT X
  rcases vx_callVX X hx (C := C) (hh := hh) (bytes := bytes) (maxL := maxL) (ret := ret) ho hl hin hse hcode hy hK (by rw [hT]; exact hcB) hoB hclB hg (hsize.trans hml.symm) (argsL := As) (rest := rest) (fun sig h => hn.trans (hlen sig h)) hstack hW (by rw [hb]; exact hdg)
    (fun vm₁ hW₁ => ⟨hf.1, hf.2, hPc (T.setVm vm₁) hT hW₁⟩) with ⟨v, vm₁, ⟨U', l2, c2, s2⟩, hW₁, X', ⟨g', mk, t, L, e1, e2, hq, h1, hL, h2, h3⟩, st⟩ | ⟨q, vm₁, ⟨U', l2, c2, s2⟩, hW₁, X', ⟨g', mk, t, L, E, ce, e1, e2, hq, hce, hcv, hcl, h1, hL, h2, h3⟩, st⟩
  · dsimp only [Pt.U, Pt.locs, Pt.cells, Pt.slots] at X' e1 e2 h1 h2 h3 st
    subst h1; subst h2; subst h3
    exact Or.inl ⟨v, (T.setVm vm₁).calling g' mk (Value.ref b :: As).toArray, t, U', L, hT, X', hL, e1, e2, hq, st⟩
  · dsimp only [Pt.U, Pt.locs, Pt.cells, Pt.slots] at X' e1 e2 h1 h2 h3 st hcl
    subst h1; subst h2; subst h3
    exact Or.inr ⟨q, (T.setVm vm₁).calling g' mk (Value.ref b :: As).toArray, t, U', L, E, ce, hT, X', hL, e1, e2, hq, hce, hcv, vx_cls hW₁ hcl, st⟩
theorem vx_runSX {hh : List (Nat × Nat × Nat × Nat)} (S : CallFix p m c cc nL s args Ts own) (hM : vx_Met l y ws rm Pc Qc XC mc ms free) (cw : vx_CSW R s args own index y bytes maxL ret hh ws rm mc ms n) (hp : PreS s H Pc As)
    (hg : g.method = m) (hn : As.length = n) (hsize : g.locals.size = nL) (hstack : g.stack = As.reverse ++ rest) (hW : 2 * g.monitorRoom + (rest.map fun v => v.category).sum ≤ 8) (hdg : decode cc g.pc = .ok (.invokestatic index, 3)) (hf : cells + mc ≤ R.cells ∧ slots + ms ≤ R.slots) :
    vx_Run p l e R s m args below meth c H locs cells slots mc ms g rest (Qc As.toArray) XC free := by
  obtain ⟨⟨hrc, hrs, hfr, hlo, hws, hcw⟩, hcode, hini, hy, hlen, hl, hstt⟩ := cw
  have hK : vx_Back l R p e below s args y 3 8 (PreOf R mc ms Pc) (PostOf Qc mc ms free) (vx_Post XC mc ms free) := vx_backW (hh := hh) (bytes := bytes) (maxL := maxL) (ret := ret) hM hp.1 hrc hrs hfr hlo hws hcw (fun a' U hW => word_at hW (Or.inl (by first | rfl | simp [Cond.onTables, Cond.keeps, Cond.steady])) hini)
  obtain ⟨hx, hb, hml, ho, -⟩ := S
  intro T hT X
  rcases vx_callSX X hx (hh := hh) (bytes := bytes) (maxL := maxL) (ret := ret) ho hl hstt hini hcode hy hK hg (hsize.trans hml.symm) (argsL := As) (rest := rest) (fun sig h => hn.trans (hlen sig h)) hstack hW (by rw [hb]; exact hdg)
    (fun vm₁ hW₁ => ⟨hf.1, hf.2, hp.2 (T.setVm vm₁) hT hW₁⟩) with ⟨v, vm₁, ⟨U', l2, c2, s2⟩, hW₁, X', ⟨g', mk, t, L, e1, e2, hq, h1, hL, h2, h3⟩, st⟩ | ⟨q, vm₁, ⟨U', l2, c2, s2⟩, hW₁, X', ⟨g', mk, t, L, E, ce, e1, e2, hq, hce, hcv, hcl, h1, hL, h2, h3⟩, st⟩
  · dsimp only [Pt.U, Pt.locs, Pt.cells, Pt.slots] at X' e1 e2 h1 h2 h3 st
    subst h1; subst h2; subst h3
    exact Or.inl ⟨v, (T.setVm vm₁).calling g' mk As.toArray, t, U', L, hT, X', hL, e1, e2, hq, st⟩
  · dsimp only [Pt.U, Pt.locs, Pt.cells, Pt.slots] at X' e1 e2 h1 h2 h3 st hcl
    subst h1; subst h2; subst h3
    exact Or.inr ⟨q, (T.setVm vm₁).calling g' mk As.toArray, t, U', L, E, ce, hT, X', hL, e1, e2, hq, hce, hcv, vx_cls hW₁ hcl, st⟩
end
end VXH
theorem vx_ofWH {l : Launch} {y : MethodName} {ws ws' : List Cond} {rm : Room} {Pc : Array Value → State → Prop} {Qc : Array Value → State → Outcome → State → Prop} {XC : String → State → State → Prop} {mc ms : Nat} {free : Addr → Prop} {cc : ByteArray} {maxL : Nat} {ret : Option FieldType} {hh : List (Nat × Nat × Nat × Nat)}
    (hy : plainName y.cls = true) (hw : ws = Cond.codeWith y cc maxL ret hh :: ws')
    (body : ∀ p e s m args below meth c s₁, BodyLoose p l y (headSpec ws rm) cc maxL ret e s m args below meth c s₁ → c.maxLocals = maxL → Pc args s →
      W p l e (headSpec ws rm).room s m args below meth c s.heap [] 0 0 (vx_MQ below Qc XC args s mc ms free) (entryFrame m args maxL)) : vx_Met l y ws rm Pc Qc XC mc ms free := by
  refine MetFree.of_bodyS (code := cc) (maxLocals := maxL) (ret := ret) hy ?_ ?_
  · intro args s m h hn
    obtain ⟨m9, meth, c, hn9, h1, h2, h3, h4, -, h5, h6, -⟩ := Cond.codeWith_spec (atoms_spec (ws := ws) h _ (by rw [hw]; exact List.mem_cons_self))
    cases hn.symm.trans hn9
    exact ⟨meth, c, h1, h2, h3, h4, h5, h6⟩
  · intro p e s m args below meth c s₁ B hml hP _
    have hh0 : s₁.heap = s.heap := by rw [B.state]; rfl
    obtain ⟨t, a1, o, b1, b2, b3⟩ := body p e s m args below meth c s₁ B hml hP s₁ hh0 (Stand.of_body B)
    exact ⟨t, o, a1, b1, b2, b3⟩
/-! ===== END ===== -/
end
section
/-! ===== BEGIN printed: names, fields, word lists, decode rows ===== -/
def RX0 : String := "StarConsole$Comets"
def TX0 : u_T := fun k => match k with
  | 0 => ("StarConsole$Comets", "size", "I", false)
  | 1 => ("StarConsole$Comets", "angle", "[I", true)
  | 2 => ("StarConsole$Comets", "speed", "[I", true)
  | _ => ("StarConsole$Comets", "left", "[I", true)
def tyX0 : Nat → FieldType := fun k => match k with
  | 0 => .int
  | 1 => .array .int
  | 2 => .array .int
  | _ => .array .int
abbrev wsX00 : List Cond := u_ws RX0 TX0 4
theorem nmX0 : ∀ a, a < 4 → ∀ b, b < 4 → a ≠ b → (TX0 a).2.1 ≠ (TX0 b).2.1 := by decide +kernel
theorem tyX0_ok : ∀ k, k < 4 → parseFieldDescriptor (TX0 k).2.2.1 = some (tyX0 k) := by decide +kernel
abbrev cX0_init : ByteArray := prog_2_method_1_code
def yX0_init : MethodName := ⟨RX0, "<init>", "()V"⟩
abbrev cX0_has : ByteArray := prog_2_method_2_code
def yX0_has : MethodName := ⟨RX0, "has", "(I)Z"⟩
abbrev cX0_addIfRoom : ByteArray := prog_2_method_3_code
def yX0_addIfRoom : MethodName := ⟨RX0, "addIfRoom", "(II)V"⟩
abbrev cX0_goOn : ByteArray := prog_2_method_4_code
def yX0_goOn : MethodName := ⟨RX0, "goOn", "()V"⟩
abbrev cX0_become : ByteArray := prog_2_method_5_code
def yX0_become : MethodName := ⟨RX0, "become", "(LStarConsole$Comets;)V"⟩
def RX1 : String := "StarConsole$Cues"
def TX1 : u_T := fun k => match k with
  | 0 => ("StarConsole$Cues", "size", "I", false)
  | 1 => ("StarConsole$Cues", "time", "[I", true)
  | 2 => ("StarConsole$Cues", "kind", "[I", true)
  | 3 => ("StarConsole$Cues", "a", "[I", true)
  | _ => ("StarConsole$Cues", "b", "[I", true)
def tyX1 : Nat → FieldType := fun k => match k with
  | 0 => .int
  | 1 => .array .int
  | 2 => .array .int
  | 3 => .array .int
  | _ => .array .int
abbrev wsX10 : List Cond := u_ws RX1 TX1 5
theorem nmX1 : ∀ a, a < 5 → ∀ b, b < 5 → a ≠ b → (TX1 a).2.1 ≠ (TX1 b).2.1 := by decide +kernel
theorem tyX1_ok : ∀ k, k < 5 → parseFieldDescriptor (TX1 k).2.2.1 = some (tyX1 k) := by decide +kernel
abbrev cX1_init : ByteArray := prog_3_method_1_code
def yX1_init : MethodName := ⟨RX1, "<init>", "()V"⟩
abbrev cX1_has : ByteArray := prog_3_method_2_code
def yX1_has : MethodName := ⟨RX1, "has", "(I)Z"⟩
abbrev cX1_add : ByteArray := prog_3_method_3_code
def yX1_add : MethodName := ⟨RX1, "add", "(IIII)I"⟩
abbrev cX1_timeOf : ByteArray := prog_3_method_4_code
def yX1_timeOf : MethodName := ⟨RX1, "timeOf", "(I)I"⟩
abbrev cX1_firstFrom : ByteArray := prog_3_method_5_code
def yX1_firstFrom : MethodName := ⟨RX1, "firstFrom", "(I)I"⟩
abbrev cX1_holdWithin : ByteArray := prog_3_method_6_code
def yX1_holdWithin : MethodName := ⟨RX1, "holdWithin", "(II)Z"⟩
abbrev cX1_fact : ByteArray := prog_3_method_7_code
def yX1_fact : MethodName := ⟨RX1, "fact", "(II)I"⟩
def RX2 : String := "StarConsole$Dimmers"
def TX2 : u_T := fun k => match k with
  | 0 => ("StarConsole$Dimmers", "size", "I", false)
  | 1 => ("StarConsole$Dimmers", "part", "[I", true)
  | 2 => ("StarConsole$Dimmers", "level", "[I", true)
  | 3 => ("StarConsole$Dimmers", "aim", "[I", true)
  | 4 => ("StarConsole$Dimmers", "pace", "[I", true)
  | _ => ("StarConsole$Dimmers", "life", "[I", true)
def tyX2 : Nat → FieldType := fun k => match k with
  | 0 => .int
  | 1 => .array .int
  | 2 => .array .int
  | 3 => .array .int
  | 4 => .array .int
  | _ => .array .int
abbrev wsX20 : List Cond := u_ws RX2 TX2 6
theorem nmX2 : ∀ a, a < 6 → ∀ b, b < 6 → a ≠ b → (TX2 a).2.1 ≠ (TX2 b).2.1 := by decide +kernel
theorem tyX2_ok : ∀ k, k < 6 → parseFieldDescriptor (TX2 k).2.2.1 = some (tyX2 k) := by decide +kernel
abbrev cX2_init : ByteArray := prog_4_method_1_code
def yX2_init : MethodName := ⟨RX2, "<init>", "()V"⟩
abbrev cX2_has : ByteArray := prog_4_method_2_code
def yX2_has : MethodName := ⟨RX2, "has", "(I)Z"⟩
abbrev cX2_add : ByteArray := prog_4_method_3_code
def yX2_add : MethodName := ⟨RX2, "add", "(III)I"⟩
abbrev cX2_changeLamp : ByteArray := prog_4_method_4_code
def yX2_changeLamp : MethodName := ⟨RX2, "changeLamp", "(II)I"⟩
abbrev cX2_changeAim : ByteArray := prog_4_method_5_code
def yX2_changeAim : MethodName := ⟨RX2, "changeAim", "(II)I"⟩
abbrev cX2_hasLife : ByteArray := prog_4_method_6_code
def yX2_hasLife : MethodName := ⟨RX2, "hasLife", "(I)Z"⟩
abbrev cX2_goOn : ByteArray := prog_4_method_7_code
def yX2_goOn : MethodName := ⟨RX2, "goOn", "()V"⟩
abbrev cX2_darkenWithoutLife : ByteArray := prog_4_method_8_code
def yX2_darkenWithoutLife : MethodName := ⟨RX2, "darkenWithoutLife", "(I)V"⟩
abbrev cX2_approached : ByteArray := prog_4_method_9_code
def yX2_approached : MethodName := ⟨RX2, "approached", "(III)I"⟩
abbrev cX2_glareOn : ByteArray := prog_4_method_10_code
def yX2_glareOn : MethodName := ⟨RX2, "glareOn", "(I)I"⟩
abbrev cX2_fact : ByteArray := prog_4_method_11_code
def yX2_fact : MethodName := ⟨RX2, "fact", "(II)I"⟩
abbrev cX2_become : ByteArray := prog_4_method_12_code
def yX2_become : MethodName := ⟨RX2, "become", "(LStarConsole$Dimmers;)V"⟩
def RX3 : String := "StarConsole$Show"
def TX3 : u_T := fun k => match k with
  | 0 => ("StarConsole$Show", "tick", "I", false)
  | 1 => ("StarConsole$Show", "clock", "I", false)
  | 2 => ("StarConsole$Show", "clockRuns", "Z", false)
  | 3 => ("StarConsole$Show", "ballAngle", "I", false)
  | 4 => ("StarConsole$Show", "ballSpeed", "I", false)
  | 5 => ("StarConsole$Show", "line", "I", false)
  | 6 => ("StarConsole$Show", "speechLeft", "I", false)
  | 7 => ("StarConsole$Show", "dimmers", "LStarConsole$Dimmers;", true)
  | _ => ("StarConsole$Show", "comets", "LStarConsole$Comets;", true)
def tyX3 : Nat → FieldType := fun k => match k with
  | 0 => .int
  | 1 => .int
  | 2 => .boolean
  | 3 => .int
  | 4 => .int
  | 5 => .int
  | 6 => .int
  | 7 => .object "StarConsole$Dimmers"
  | _ => .object "StarConsole$Comets"
abbrev wsX30 : List Cond := u_ws RX3 TX3 9
theorem nmX3 : ∀ a, a < 9 → ∀ b, b < 9 → a ≠ b → (TX3 a).2.1 ≠ (TX3 b).2.1 := by decide +kernel
theorem tyX3_ok : ∀ k, k < 9 → parseFieldDescriptor (TX3 k).2.2.1 = some (tyX3 k) := by decide +kernel
abbrev cX3_init : ByteArray := prog_5_method_1_code
def yX3_init : MethodName := ⟨RX3, "<init>", "()V"⟩
abbrev cX3_become : ByteArray := prog_5_method_2_code
def yX3_become : MethodName := ⟨RX3, "become", "(LStarConsole$Show;)V"⟩
abbrev cX3_goOnFor : ByteArray := prog_5_method_3_code
def yX3_goOnFor : MethodName := ⟨RX3, "goOnFor", "(ILStarConsole$Cues;)I"⟩
abbrev cX3_goOn : ByteArray := prog_5_method_4_code
def yX3_goOn : MethodName := ⟨RX3, "goOn", "(LStarConsole$Cues;)I"⟩
abbrev cX3_runCues : ByteArray := prog_5_method_5_code
def yX3_runCues : MethodName := ⟨RX3, "runCues", "(LStarConsole$Cues;)I"⟩
abbrev cX3_obey : ByteArray := prog_5_method_6_code
def yX3_obey : MethodName := ⟨RX3, "obey", "(III)V"⟩
abbrev cX3_speakOn : ByteArray := prog_5_method_7_code
def yX3_speakOn : MethodName := ⟨RX3, "speakOn", "()V"⟩
abbrev cX3_fact : ByteArray := prog_5_method_8_code
def yX3_fact : MethodName := ⟨RX3, "fact", "(ILStarConsole$Stars;LStarConsole$Cues;)I"⟩
abbrev cX3_factOfStar : ByteArray := prog_5_method_9_code
def yX3_factOfStar : MethodName := ⟨RX3, "factOfStar", "(LStarConsole$Stars;II)I"⟩
abbrev cX3_factOfComet : ByteArray := prog_5_method_10_code
def yX3_factOfComet : MethodName := ⟨RX3, "factOfComet", "(II)I"⟩
abbrev cX3_starsSeen : ByteArray := prog_5_method_11_code
def yX3_starsSeen : MethodName := ⟨RX3, "starsSeen", "(LStarConsole$Stars;)I"⟩
abbrev cX3_cometsSeen : ByteArray := prog_5_method_12_code
def yX3_cometsSeen : MethodName := ⟨RX3, "cometsSeen", "()I"⟩
abbrev cX3_starSeen : ByteArray := prog_5_method_13_code
def yX3_starSeen : MethodName := ⟨RX3, "starSeen", "(LStarConsole$Stars;I)Z"⟩
abbrev cX3_cometSeen : ByteArray := prog_5_method_14_code
def yX3_cometSeen : MethodName := ⟨RX3, "cometSeen", "(I)Z"⟩
abbrev cX3_outshines : ByteArray := prog_5_method_15_code
def yX3_outshines : MethodName := ⟨RX3, "outshines", "(II)Z"⟩
def RX4 : String := "StarConsole$Stars"
def TX4 : u_T := fun k => match k with
  | 0 => ("StarConsole$Stars", "size", "I", false)
  | 1 => ("StarConsole$Stars", "degree", "[I", true)
  | _ => ("StarConsole$Stars", "light", "[I", true)
def tyX4 : Nat → FieldType := fun k => match k with
  | 0 => .int
  | 1 => .array .int
  | _ => .array .int
abbrev wsX40 : List Cond := u_ws RX4 TX4 3
theorem nmX4 : ∀ a, a < 3 → ∀ b, b < 3 → a ≠ b → (TX4 a).2.1 ≠ (TX4 b).2.1 := by decide +kernel
theorem tyX4_ok : ∀ k, k < 3 → parseFieldDescriptor (TX4 k).2.2.1 = some (tyX4 k) := by decide +kernel
abbrev cX4_init : ByteArray := prog_6_method_1_code
def yX4_init : MethodName := ⟨RX4, "<init>", "()V"⟩
abbrev cX4_has : ByteArray := prog_6_method_2_code
def yX4_has : MethodName := ⟨RX4, "has", "(I)Z"⟩
abbrev cX4_add : ByteArray := prog_6_method_3_code
def yX4_add : MethodName := ⟨RX4, "add", "(II)I"⟩
def RX5 : String := "StarConsole"
def TX5 : u_T := fun k => match k with
  | 0 => ("StarConsole", "stars", "LStarConsole$Stars;", true)
  | 1 => ("StarConsole", "cues", "LStarConsole$Cues;", true)
  | 2 => ("StarConsole", "show", "LStarConsole$Show;", true)
  | _ => ("StarConsole", "ahead", "LStarConsole$Show;", true)
def tyX5 : Nat → FieldType := fun k => match k with
  | 0 => .object "StarConsole$Stars"
  | 1 => .object "StarConsole$Cues"
  | 2 => .object "StarConsole$Show"
  | _ => .object "StarConsole$Show"
abbrev wsX50 : List Cond := u_ws RX5 TX5 4
theorem nmX5 : ∀ a, a < 4 → ∀ b, b < 4 → a ≠ b → (TX5 a).2.1 ≠ (TX5 b).2.1 := by decide +kernel
theorem tyX5_ok : ∀ k, k < 4 → parseFieldDescriptor (TX5 k).2.2.1 = some (tyX5 k) := by decide +kernel
abbrev cX5_init : ByteArray := prog_1_method_1_code
def yX5_init : MethodName := ⟨RX5, "<init>", "()V"⟩
abbrev cX5_dimmer : ByteArray := prog_1_method_2_code
def yX5_dimmer : MethodName := ⟨RX5, "dimmer", "(III)I"⟩
abbrev cX5_lamp : ByteArray := prog_1_method_3_code
def yX5_lamp : MethodName := ⟨RX5, "lamp", "(II)I"⟩
abbrev cX5_star : ByteArray := prog_1_method_4_code
def yX5_star : MethodName := ⟨RX5, "star", "(II)I"⟩
abbrev cX5_cue : ByteArray := prog_1_method_5_code
def yX5_cue : MethodName := ⟨RX5, "cue", "(IIII)I"⟩
abbrev cX5_run : ByteArray := prog_1_method_6_code
def yX5_run : MethodName := ⟨RX5, "run", "()Z"⟩
abbrev cX5_jump : ByteArray := prog_1_method_7_code
def yX5_jump : MethodName := ⟨RX5, "jump", "(I)I"⟩
abbrev cX5_fade : ByteArray := prog_1_method_8_code
def yX5_fade : MethodName := ⟨RX5, "fade", "(II)I"⟩
abbrev cX5_pass : ByteArray := prog_1_method_9_code
def yX5_pass : MethodName := ⟨RX5, "pass", "(I)I"⟩
abbrev cX5_told : ByteArray := prog_1_method_10_code
def yX5_told : MethodName := ⟨RX5, "told", "(II)I"⟩
abbrev cX5_glare : ByteArray := prog_1_method_11_code
def yX5_glare : MethodName := ⟨RX5, "glare", "(I)I"⟩
abbrev cX5_about : ByteArray := prog_1_method_12_code
def yX5_about : MethodName := ⟨RX5, "about", "(II)I"⟩
abbrev cX5_comet : ByteArray := prog_1_method_13_code
def yX5_comet : MethodName := ⟨RX5, "comet", "(II)I"⟩
abbrev cX5_count : ByteArray := prog_1_method_14_code
def yX5_count : MethodName := ⟨RX5, "count", "(I)I"⟩
abbrev cX5_next : ByteArray := prog_1_method_15_code
def yX5_next : MethodName := ⟨RX5, "next", "()I"⟩
abbrev cX5_when : ByteArray := prog_1_method_16_code
def yX5_when : MethodName := ⟨RX5, "when", "(I)I"⟩
abbrev cX5_lasts : ByteArray := prog_1_method_17_code
def yX5_lasts : MethodName := ⟨RX5, "lasts", "(I)I"⟩
abbrev cX5_foresee : ByteArray := prog_1_method_18_code
def yX5_foresee : MethodName := ⟨RX5, "foresee", "(II)I"⟩
abbrev cX5_darkest : ByteArray := prog_1_method_19_code
def yX5_darkest : MethodName := ⟨RX5, "darkest", "()I"⟩
abbrev cX5_mean : ByteArray := prog_1_method_20_code
def yX5_mean : MethodName := ⟨RX5, "mean", "()D"⟩
abbrev cX5_digest : ByteArray := prog_1_method_21_code
def yX5_digest : MethodName := ⟨RX5, "digest", "()J"⟩
abbrev cX5_joinedDimmers : ByteArray := prog_1_method_22_code
def yX5_joinedDimmers : MethodName := ⟨RX5, "joinedDimmers", "(J)J"⟩
abbrev cX5_joinedStars : ByteArray := prog_1_method_23_code
def yX5_joinedStars : MethodName := ⟨RX5, "joinedStars", "(J)J"⟩
abbrev cX5_joinedComets : ByteArray := prog_1_method_24_code
def yX5_joinedComets : MethodName := ⟨RX5, "joinedComets", "(J)J"⟩
abbrev cX5_joinedCues : ByteArray := prog_1_method_25_code
def yX5_joinedCues : MethodName := ⟨RX5, "joinedCues", "(J)J"⟩
abbrev cX5_joined : ByteArray := prog_1_method_26_code
def yX5_joined : MethodName := ⟨RX5, "joined", "(JI)J"⟩
abbrev cX5_suits : ByteArray := prog_1_method_27_code
def yX5_suits : MethodName := ⟨RX5, "suits", "(III)Z"⟩
abbrev cX5_foreseeable : ByteArray := prog_1_method_28_code
def yX5_foreseeable : MethodName := ⟨RX5, "foreseeable", "(I)Z"⟩
abbrev cX5_within : ByteArray := prog_1_method_29_code
def yX5_within : MethodName := ⟨RX5, "within", "(III)Z"⟩
abbrev cX5_turned : ByteArray := prog_1_method_30_code
def yX5_turned : MethodName := ⟨RX5, "turned", "(II)I"⟩
def RX6 : String := "StarConsoleModel"
def TX6 : u_T := fun k => match k with
  | 0 => ("StarConsoleModel", "thrown", "I", false)
  | 1 => ("StarConsoleModel", "dimmers", "I", false)
  | 2 => ("StarConsoleModel", "stars", "I", false)
  | 3 => ("StarConsoleModel", "cues", "I", false)
  | 4 => ("StarConsoleModel", "lamps", "[I", true)
  | 5 => ("StarConsoleModel", "sky", "[I", true)
  | 6 => ("StarConsoleModel", "tails", "[I", true)
  | 7 => ("StarConsoleModel", "show", "[I", true)
  | _ => ("StarConsoleModel", "numbers", "[I", true)
def tyX6 : Nat → FieldType := fun k => match k with
  | 0 => .int
  | 1 => .int
  | 2 => .int
  | 3 => .int
  | 4 => .array .int
  | 5 => .array .int
  | 6 => .array .int
  | 7 => .array .int
  | _ => .array .int
abbrev wsX60 : List Cond := u_ws RX6 TX6 9
theorem nmX6 : ∀ a, a < 9 → ∀ b, b < 9 → a ≠ b → (TX6 a).2.1 ≠ (TX6 b).2.1 := by decide +kernel
theorem tyX6_ok : ∀ k, k < 9 → parseFieldDescriptor (TX6 k).2.2.1 = some (tyX6 k) := by decide +kernel
abbrev cX6_init : ByteArray := prog_8_method_1_code
def yX6_init : MethodName := ⟨RX6, "<init>", "()V"⟩
abbrev cX6_thrown : ByteArray := prog_8_method_2_code
def yX6_thrown : MethodName := ⟨RX6, "thrown", "()I"⟩
abbrev cX6_fail : ByteArray := prog_8_method_3_code
def yX6_fail : MethodName := ⟨RX6, "fail", "(I)I"⟩
abbrev cX6_isIn : ByteArray := prog_8_method_4_code
def yX6_isIn : MethodName := ⟨RX6, "isIn", "(III)Z"⟩
abbrev cX6_isDimmer : ByteArray := prog_8_method_5_code
def yX6_isDimmer : MethodName := ⟨RX6, "isDimmer", "(I)Z"⟩
abbrev cX6_la : ByteArray := prog_8_method_6_code
def yX6_la : MethodName := ⟨RX6, "la", "(II)I"⟩
abbrev cX6_put : ByteArray := prog_8_method_7_code
def yX6_put : MethodName := ⟨RX6, "put", "(III)V"⟩
abbrev cX6_dimmer : ByteArray := prog_8_method_8_code
def yX6_dimmer : MethodName := ⟨RX6, "dimmer", "(III)I"⟩
abbrev cX6_lamp : ByteArray := prog_8_method_9_code
def yX6_lamp : MethodName := ⟨RX6, "lamp", "(II)I"⟩
abbrev cX6_star : ByteArray := prog_8_method_10_code
def yX6_star : MethodName := ⟨RX6, "star", "(II)I"⟩
abbrev cX6_isCue : ByteArray := prog_8_method_11_code
def yX6_isCue : MethodName := ⟨RX6, "isCue", "(III)Z"⟩
abbrev cX6_cue : ByteArray := prog_8_method_12_code
def yX6_cue : MethodName := ⟨RX6, "cue", "(IIII)I"⟩
abbrev cX6_run : ByteArray := prog_8_method_13_code
def yX6_run : MethodName := ⟨RX6, "run", "()Z"⟩
abbrev cX6_jump : ByteArray := prog_8_method_14_code
def yX6_jump : MethodName := ⟨RX6, "jump", "(I)I"⟩
abbrev cX6_fade : ByteArray := prog_8_method_15_code
def yX6_fade : MethodName := ⟨RX6, "fade", "(II)I"⟩
abbrev cX6_carryOut : ByteArray := prog_8_method_16_code
def yX6_carryOut : MethodName := ⟨RX6, "carryOut", "(I)V"⟩
abbrev cX6_round : ByteArray := prog_8_method_17_code
def yX6_round : MethodName := ⟨RX6, "round", "(I)I"⟩
abbrev cX6_glow : ByteArray := prog_8_method_18_code
def yX6_glow : MethodName := ⟨RX6, "glow", "(I)V"⟩
abbrev cX6_tickOn : ByteArray := prog_8_method_19_code
def yX6_tickOn : MethodName := ⟨RX6, "tickOn", "()I"⟩
abbrev cX6_ticksOn : ByteArray := prog_8_method_20_code
def yX6_ticksOn : MethodName := ⟨RX6, "ticksOn", "(I)I"⟩
abbrev cX6_pass : ByteArray := prog_8_method_21_code
def yX6_pass : MethodName := ⟨RX6, "pass", "(I)I"⟩
abbrev cX6_told : ByteArray := prog_8_method_22_code
def yX6_told : MethodName := ⟨RX6, "told", "(II)I"⟩
abbrev cX6_glareOf : ByteArray := prog_8_method_23_code
def yX6_glareOf : MethodName := ⟨RX6, "glareOf", "(I)I"⟩
abbrev cX6_glare : ByteArray := prog_8_method_24_code
def yX6_glare : MethodName := ⟨RX6, "glare", "(I)I"⟩
abbrev cX6_stands : ByteArray := prog_8_method_25_code
def yX6_stands : MethodName := ⟨RX6, "stands", "(I)I"⟩
abbrev cX6_isSeen : ByteArray := prog_8_method_26_code
def yX6_isSeen : MethodName := ⟨RX6, "isSeen", "(II)Z"⟩
abbrev cX6_starTold : ByteArray := prog_8_method_27_code
def yX6_starTold : MethodName := ⟨RX6, "starTold", "(II)I"⟩
abbrev cX6_about : ByteArray := prog_8_method_28_code
def yX6_about : MethodName := ⟨RX6, "about", "(II)I"⟩
abbrev cX6_cometTold : ByteArray := prog_8_method_29_code
def yX6_cometTold : MethodName := ⟨RX6, "cometTold", "(II)I"⟩
abbrev cX6_comet : ByteArray := prog_8_method_30_code
def yX6_comet : MethodName := ⟨RX6, "comet", "(II)I"⟩
abbrev cX6_counted : ByteArray := prog_8_method_31_code
def yX6_counted : MethodName := ⟨RX6, "counted", "(I)I"⟩
abbrev cX6_count : ByteArray := prog_8_method_32_code
def yX6_count : MethodName := ⟨RX6, "count", "(I)I"⟩
abbrev cX6_next : ByteArray := prog_8_method_33_code
def yX6_next : MethodName := ⟨RX6, "next", "()I"⟩
abbrev cX6_when : ByteArray := prog_8_method_34_code
def yX6_when : MethodName := ⟨RX6, "when", "(I)I"⟩
abbrev cX6_kept : ByteArray := prog_8_method_35_code
def yX6_kept : MethodName := ⟨RX6, "kept", "()[[I"⟩
abbrev cX6_bringBack : ByteArray := prog_8_method_36_code
def yX6_bringBack : MethodName := ⟨RX6, "bringBack", "([[I)V"⟩
abbrev cX6_lasts : ByteArray := prog_8_method_37_code
def yX6_lasts : MethodName := ⟨RX6, "lasts", "(I)I"⟩
abbrev cX6_foresee : ByteArray := prog_8_method_38_code
def yX6_foresee : MethodName := ⟨RX6, "foresee", "(II)I"⟩
abbrev cX6_darkest : ByteArray := prog_8_method_39_code
def yX6_darkest : MethodName := ⟨RX6, "darkest", "()I"⟩
abbrev cX6_mean : ByteArray := prog_8_method_40_code
def yX6_mean : MethodName := ⟨RX6, "mean", "()D"⟩
abbrev cX6_digest : ByteArray := prog_8_method_41_code
def yX6_digest : MethodName := ⟨RX6, "digest", "()J"⟩
def RJx8e188 : String := "java/lang/Cloneable"
def TJx8e188 : u_T := fun k => match k with
  | _ => ("", "", "", false)
def tyJx8e188 : Nat → FieldType := fun k => match k with
  | _ => .int
abbrev wsJx8e1880 : List Cond := u_ws RJx8e188 TJx8e188 0
theorem nmJx8e188 : ∀ a, a < 0 → ∀ b, b < 0 → a ≠ b → (TJx8e188 a).2.1 ≠ (TJx8e188 b).2.1 := by decide +kernel
theorem tyJx8e188_ok : ∀ k, k < 0 → parseFieldDescriptor (TJx8e188 k).2.2.1 = some (tyJx8e188 k) := by decide +kernel
def RJ9 : String := "java/lang/Math"
def TJ9 : u_T := fun k => match k with
  | _ => ("", "", "", false)
def tyJ9 : Nat → FieldType := fun k => match k with
  | _ => .int
abbrev wsJ90 : List Cond := u_ws RJ9 TJ9 0
theorem nmJ9 : ∀ a, a < 0 → ∀ b, b < 0 → a ≠ b → (TJ9 a).2.1 ≠ (TJ9 b).2.1 := by decide +kernel
theorem tyJ9_ok : ∀ k, k < 0 → parseFieldDescriptor (TJ9 k).2.2.1 = some (tyJ9 k) := by decide +kernel
abbrev cJ9_floorMod_7cf53 : ByteArray := prog_14_method_50_code
def yJ9_floorMod_7cf53 : MethodName := ⟨RJ9, "floorMod", "(II)I"⟩
abbrev cJ9_max_7cf53 : ByteArray := prog_14_method_65_code
def yJ9_max_7cf53 : MethodName := ⟨RJ9, "max", "(II)I"⟩
abbrev cJ9_min_7cf53 : ByteArray := prog_14_method_69_code
def yJ9_min_7cf53 : MethodName := ⟨RJ9, "min", "(II)I"⟩
def RJ0 : String := "java/lang/String"
def TJ0 : u_T := fun k => match k with
  | _ => ("", "", "", false)
def tyJ0 : Nat → FieldType := fun k => match k with
  | _ => .int
abbrev wsJ00 : List Cond := u_ws RJ0 TJ0 0
theorem nmJ0 : ∀ a, a < 0 → ∀ b, b < 0 → a ≠ b → (TJ0 a).2.1 ≠ (TJ0 b).2.1 := by decide +kernel
theorem tyJ0_ok : ∀ k, k < 0 → parseFieldDescriptor (TJ0 k).2.2.1 = some (tyJ0 k) := by decide +kernel
def RJ10 : String := "java/lang/System"
def TJ10 : u_T := fun k => match k with
  | _ => ("", "", "", false)
def tyJ10 : Nat → FieldType := fun k => match k with
  | _ => .int
abbrev wsJ100 : List Cond := u_ws RJ10 TJ10 0
theorem nmJ10 : ∀ a, a < 0 → ∀ b, b < 0 → a ≠ b → (TJ10 a).2.1 ≠ (TJ10 b).2.1 := by decide +kernel
theorem tyJ10_ok : ∀ k, k < 0 → parseFieldDescriptor (TJ10 k).2.2.1 = some (tyJ10 k) := by decide +kernel
def RL : String := "StarConsoleLaw"
abbrev cL_dimmer : ByteArray := method_3_code
def yL_dimmer : MethodName := ⟨RL, "dimmer", "(LStarConsole;III[J)I"⟩
abbrev cL_lamp : ByteArray := method_4_code
def yL_lamp : MethodName := ⟨RL, "lamp", "(LStarConsole;II[J)I"⟩
abbrev cL_star : ByteArray := method_5_code
def yL_star : MethodName := ⟨RL, "star", "(LStarConsole;II[J)I"⟩
abbrev cL_cue : ByteArray := method_6_code
def yL_cue : MethodName := ⟨RL, "cue", "(LStarConsole;IIII[J)I"⟩
abbrev cL_jump : ByteArray := method_7_code
def yL_jump : MethodName := ⟨RL, "jump", "(LStarConsole;I[J)I"⟩
abbrev cL_fade : ByteArray := method_8_code
def yL_fade : MethodName := ⟨RL, "fade", "(LStarConsole;II[J)I"⟩
abbrev cL_pass : ByteArray := method_9_code
def yL_pass : MethodName := ⟨RL, "pass", "(LStarConsole;I[J)I"⟩
abbrev cL_told : ByteArray := method_10_code
def yL_told : MethodName := ⟨RL, "told", "(LStarConsole;II[J)I"⟩
abbrev cL_glare : ByteArray := method_11_code
def yL_glare : MethodName := ⟨RL, "glare", "(LStarConsole;I[J)I"⟩
abbrev cL_about : ByteArray := method_12_code
def yL_about : MethodName := ⟨RL, "about", "(LStarConsole;II[J)I"⟩
abbrev cL_comet : ByteArray := method_13_code
def yL_comet : MethodName := ⟨RL, "comet", "(LStarConsole;II[J)I"⟩
abbrev cL_count : ByteArray := method_14_code
def yL_count : MethodName := ⟨RL, "count", "(LStarConsole;I[J)I"⟩
abbrev cL_when : ByteArray := method_15_code
def yL_when : MethodName := ⟨RL, "when", "(LStarConsole;I[J)I"⟩
abbrev cL_lasts : ByteArray := method_16_code
def yL_lasts : MethodName := ⟨RL, "lasts", "(LStarConsole;I[J)I"⟩
abbrev cL_foresee : ByteArray := method_17_code
def yL_foresee : MethodName := ⟨RL, "foresee", "(LStarConsole;II[J)I"⟩
abbrev cL_law : ByteArray := code
def yL_law : MethodName := ⟨RL, "law", "([I)Z"⟩
def wsX0_init : List Cond := .code yX0_init cX0_init 1 none :: ([.methodLink RX0 3 objectInit, .instanceMethod objectInit, .code objectInit ⟨#[0xb1]⟩ 1 none, .arrayClass .int, .fieldLink RX0 9 "StarConsole$Comets" "angle" "[I", .fieldLink RX0 15 "StarConsole$Comets" "speed" "[I", .fieldLink RX0 18 "StarConsole$Comets" "left" "[I"] ++ wsX00)
def wsX0_has : List Cond := .code yX0_has cX0_has 2 (some .boolean) :: ([.fieldLink RX0 21 "StarConsole$Comets" "size" "I"] ++ wsX00)
def wsX0_addIfRoom : List Cond := .code yX0_addIfRoom cX0_addIfRoom 4 none :: ([.fieldLink RX0 21 "StarConsole$Comets" "size" "I", .fieldLink RX0 9 "StarConsole$Comets" "angle" "[I", .fieldLink RX0 15 "StarConsole$Comets" "speed" "[I", .fieldLink RX0 18 "StarConsole$Comets" "left" "[I"] ++ wsX00)
def wsJ9_floorMod_7cf53 : List Cond := .code yJ9_floorMod_7cf53 cJ9_floorMod_7cf53 3 (some .int) :: ([])
def wsX5_turned : List Cond := .code yX5_turned cX5_turned 2 (some .int) :: ([.methodLink RX5 213 yJ9_floorMod_7cf53, .static yJ9_floorMod_7cf53, .initialized RJ9, .code yJ9_floorMod_7cf53 cJ9_floorMod_7cf53 3 (some .int)])
def wsX0_goOn : List Cond := .code yX0_goOn cX0_goOn 2 none :: ([.fieldLink RX0 21 "StarConsole$Comets" "size" "I", .fieldLink RX0 18 "StarConsole$Comets" "left" "[I", .fieldLink RX0 9 "StarConsole$Comets" "angle" "[I", .fieldLink RX0 15 "StarConsole$Comets" "speed" "[I", .static yX5_turned, .initialized RX5, .code yX5_turned cX5_turned 2 (some .int), .methodLink RX5 213 yJ9_floorMod_7cf53, .static yJ9_floorMod_7cf53, .initialized RJ9, .code yJ9_floorMod_7cf53 cJ9_floorMod_7cf53 3 (some .int)] ++ wsX00)
def wsX0_become : List Cond := .code yX0_become cX0_become 3 none :: ([.fieldLink RX0 9 "StarConsole$Comets" "angle" "[I", .fieldLink RX0 15 "StarConsole$Comets" "speed" "[I", .fieldLink RX0 18 "StarConsole$Comets" "left" "[I", .fieldLink RX0 21 "StarConsole$Comets" "size" "I"] ++ wsX00)
def wsX1_init : List Cond := .code yX1_init cX1_init 1 none :: ([.methodLink RX1 3 objectInit, .instanceMethod objectInit, .code objectInit ⟨#[0xb1]⟩ 1 none, .arrayClass .int, .fieldLink RX1 9 "StarConsole$Cues" "time" "[I", .fieldLink RX1 15 "StarConsole$Cues" "kind" "[I", .fieldLink RX1 18 "StarConsole$Cues" "a" "[I", .fieldLink RX1 21 "StarConsole$Cues" "b" "[I"] ++ wsX10)
def wsX1_has : List Cond := .code yX1_has cX1_has 2 (some .boolean) :: ([.fieldLink RX1 24 "StarConsole$Cues" "size" "I"] ++ wsX10)
def wsX1_add : List Cond := .code yX1_add cX1_add 6 (some .int) :: ([.fieldLink RX1 24 "StarConsole$Cues" "size" "I", .fieldLink RX1 9 "StarConsole$Cues" "time" "[I", .fieldLink RX1 15 "StarConsole$Cues" "kind" "[I", .fieldLink RX1 18 "StarConsole$Cues" "a" "[I", .fieldLink RX1 21 "StarConsole$Cues" "b" "[I"] ++ wsX10)
def wsX1_timeOf : List Cond := .code yX1_timeOf cX1_timeOf 2 (some .int) :: ([.fieldLink RX1 9 "StarConsole$Cues" "time" "[I", .methodLink RX1 28 yX1_has, .instanceMethod yX1_has, .selects RX1 yX1_has yX1_has, .initialized RX1, .code yX1_has cX1_has 2 (some .boolean), .fieldLink RX1 24 "StarConsole$Cues" "size" "I"] ++ wsX10)
def wsX1_firstFrom : List Cond := .code yX1_firstFrom cX1_firstFrom 4 (some .int) :: ([.fieldLink RX1 24 "StarConsole$Cues" "size" "I", .fieldLink RX1 9 "StarConsole$Cues" "time" "[I", .methodLink RX1 32 yX1_timeOf, .instanceMethod yX1_timeOf, .selects RX1 yX1_timeOf yX1_timeOf, .initialized RX1, .code yX1_timeOf cX1_timeOf 2 (some .int), .methodLink RX1 28 yX1_has, .instanceMethod yX1_has, .selects RX1 yX1_has yX1_has, .code yX1_has cX1_has 2 (some .boolean)] ++ wsX10)
def wsX1_holdWithin : List Cond := .code yX1_holdWithin cX1_holdWithin 4 (some .boolean) :: ([.fieldLink RX1 24 "StarConsole$Cues" "size" "I", .fieldLink RX1 15 "StarConsole$Cues" "kind" "[I", .fieldLink RX1 9 "StarConsole$Cues" "time" "[I"] ++ wsX10)
def wsX1_fact : List Cond := .code yX1_fact cX1_fact 3 (some .int) :: ([.fieldLink RX1 9 "StarConsole$Cues" "time" "[I", .fieldLink RX1 15 "StarConsole$Cues" "kind" "[I", .fieldLink RX1 18 "StarConsole$Cues" "a" "[I", .fieldLink RX1 21 "StarConsole$Cues" "b" "[I", .methodLink RX1 28 yX1_has, .instanceMethod yX1_has, .selects RX1 yX1_has yX1_has, .initialized RX1, .code yX1_has cX1_has 2 (some .boolean), .fieldLink RX1 24 "StarConsole$Cues" "size" "I"] ++ wsX10)
def wsX2_init : List Cond := .code yX2_init cX2_init 1 none :: ([.methodLink RX2 3 objectInit, .instanceMethod objectInit, .code objectInit ⟨#[0xb1]⟩ 1 none, .arrayClass .int, .fieldLink RX2 9 "StarConsole$Dimmers" "part" "[I", .fieldLink RX2 15 "StarConsole$Dimmers" "level" "[I", .fieldLink RX2 18 "StarConsole$Dimmers" "aim" "[I", .fieldLink RX2 21 "StarConsole$Dimmers" "pace" "[I", .fieldLink RX2 24 "StarConsole$Dimmers" "life" "[I"] ++ wsX20)
def wsX2_has : List Cond := .code yX2_has cX2_has 2 (some .boolean) :: ([.fieldLink RX2 27 "StarConsole$Dimmers" "size" "I"] ++ wsX20)
def wsX2_add : List Cond := .code yX2_add cX2_add 5 (some .int) :: ([.fieldLink RX2 27 "StarConsole$Dimmers" "size" "I", .fieldLink RX2 9 "StarConsole$Dimmers" "part" "[I", .fieldLink RX2 15 "StarConsole$Dimmers" "level" "[I", .fieldLink RX2 18 "StarConsole$Dimmers" "aim" "[I", .fieldLink RX2 21 "StarConsole$Dimmers" "pace" "[I", .fieldLink RX2 24 "StarConsole$Dimmers" "life" "[I"] ++ wsX20)
def wsX2_darkenWithoutLife : List Cond := .code yX2_darkenWithoutLife cX2_darkenWithoutLife 2 none :: ([.fieldLink RX2 24 "StarConsole$Dimmers" "life" "[I", .fieldLink RX2 15 "StarConsole$Dimmers" "level" "[I", .methodLink RX2 31 yX2_has, .instanceMethod yX2_has, .selects RX2 yX2_has yX2_has, .initialized RX2, .code yX2_has cX2_has 2 (some .boolean), .fieldLink RX2 27 "StarConsole$Dimmers" "size" "I"] ++ wsX20)
def wsX2_changeLamp : List Cond := .code yX2_changeLamp cX2_changeLamp 4 (some .int) :: ([.fieldLink RX2 24 "StarConsole$Dimmers" "life" "[I", .methodLink RX2 31 yX2_has, .instanceMethod yX2_has, .selects RX2 yX2_has yX2_has, .initialized RX2, .code yX2_has cX2_has 2 (some .boolean), .fieldLink RX2 27 "StarConsole$Dimmers" "size" "I", .methodLink RX2 35 yX2_darkenWithoutLife, .instanceMethod yX2_darkenWithoutLife, .selects RX2 yX2_darkenWithoutLife yX2_darkenWithoutLife, .code yX2_darkenWithoutLife cX2_darkenWithoutLife 2 none, .fieldLink RX2 15 "StarConsole$Dimmers" "level" "[I"] ++ wsX20)
def wsX2_changeAim : List Cond := .code yX2_changeAim cX2_changeAim 4 (some .int) :: ([.fieldLink RX2 18 "StarConsole$Dimmers" "aim" "[I", .methodLink RX2 31 yX2_has, .instanceMethod yX2_has, .selects RX2 yX2_has yX2_has, .initialized RX2, .code yX2_has cX2_has 2 (some .boolean), .fieldLink RX2 27 "StarConsole$Dimmers" "size" "I"] ++ wsX20)
def wsX2_hasLife : List Cond := .code yX2_hasLife cX2_hasLife 2 (some .boolean) :: ([.fieldLink RX2 24 "StarConsole$Dimmers" "life" "[I", .methodLink RX2 31 yX2_has, .instanceMethod yX2_has, .selects RX2 yX2_has yX2_has, .initialized RX2, .code yX2_has cX2_has 2 (some .boolean), .fieldLink RX2 27 "StarConsole$Dimmers" "size" "I"] ++ wsX20)
def wsX2_approached : List Cond := .code yX2_approached cX2_approached 3 (some .int) :: ([.methodLink RX2 49 Lib.Math.min.name, .static Lib.Math.min.name, .initialized "java/lang/Math", .code Lib.Math.min.name Lib.Math.min.code 2 (some .int), .methodLink RX2 43 Lib.Math.max.name, .static Lib.Math.max.name, .code Lib.Math.max.name Lib.Math.max.code 2 (some .int)])
def wsX2_goOn : List Cond := .code yX2_goOn cX2_goOn 2 none :: ([.fieldLink RX2 27 "StarConsole$Dimmers" "size" "I", .fieldLink RX2 15 "StarConsole$Dimmers" "level" "[I", .fieldLink RX2 18 "StarConsole$Dimmers" "aim" "[I", .fieldLink RX2 21 "StarConsole$Dimmers" "pace" "[I", .fieldLink RX2 24 "StarConsole$Dimmers" "life" "[I", .methodLink RX2 43 Lib.Math.max.name, .static Lib.Math.max.name, .initialized "java/lang/Math", .code Lib.Math.max.name Lib.Math.max.code 2 (some .int), .methodLink RX2 39 yX2_approached, .static yX2_approached, .initialized RX2, .code yX2_approached cX2_approached 3 (some .int), .methodLink RX2 49 Lib.Math.min.name, .static Lib.Math.min.name, .code Lib.Math.min.name Lib.Math.min.code 2 (some .int), .methodLink RX2 35 yX2_darkenWithoutLife, .instanceMethod yX2_darkenWithoutLife, .selects RX2 yX2_darkenWithoutLife yX2_darkenWithoutLife, .code yX2_darkenWithoutLife cX2_darkenWithoutLife 2 none, .methodLink RX2 31 yX2_has, .instanceMethod yX2_has, .selects RX2 yX2_has yX2_has, .code yX2_has cX2_has 2 (some .boolean)] ++ wsX20)
def wsX2_glareOn : List Cond := .code yX2_glareOn cX2_glareOn 5 (some .int) :: ([.fieldLink RX2 27 "StarConsole$Dimmers" "size" "I", .fieldLink RX2 9 "StarConsole$Dimmers" "part" "[I", .fieldLink RX2 15 "StarConsole$Dimmers" "level" "[I", .methodLink RX2 52 yJ9_floorMod_7cf53, .static yJ9_floorMod_7cf53, .initialized RJ9, .code yJ9_floorMod_7cf53 cJ9_floorMod_7cf53 3 (some .int)] ++ wsX20)
def wsX2_fact : List Cond := .code yX2_fact cX2_fact 3 (some .int) :: ([.fieldLink RX2 9 "StarConsole$Dimmers" "part" "[I", .fieldLink RX2 15 "StarConsole$Dimmers" "level" "[I", .fieldLink RX2 18 "StarConsole$Dimmers" "aim" "[I", .fieldLink RX2 21 "StarConsole$Dimmers" "pace" "[I", .fieldLink RX2 24 "StarConsole$Dimmers" "life" "[I", .methodLink RX2 31 yX2_has, .instanceMethod yX2_has, .selects RX2 yX2_has yX2_has, .initialized RX2, .code yX2_has cX2_has 2 (some .boolean), .fieldLink RX2 27 "StarConsole$Dimmers" "size" "I"] ++ wsX20)
def wsX2_become : List Cond := .code yX2_become cX2_become 3 none :: ([.fieldLink RX2 9 "StarConsole$Dimmers" "part" "[I", .fieldLink RX2 15 "StarConsole$Dimmers" "level" "[I", .fieldLink RX2 18 "StarConsole$Dimmers" "aim" "[I", .fieldLink RX2 21 "StarConsole$Dimmers" "pace" "[I", .fieldLink RX2 24 "StarConsole$Dimmers" "life" "[I", .fieldLink RX2 27 "StarConsole$Dimmers" "size" "I"] ++ wsX20)
def wsX3_init_r1 : List Cond := [Cond.methodLink RX3 3 objectInit, Cond.instanceMethod objectInit, Cond.code objectInit ⟨#[0xb1]⟩ 1 none, Cond.fieldLink RX3 9 "StarConsole$Show" "line" "I", Cond.classLink RX3 15 RX2, Cond.instantiable RX2 6, Cond.initialized RX2, Cond.fieldLink RX3 18 "StarConsole$Show" "dimmers" "LStarConsole$Dimmers;", Cond.classLink RX3 22 RX0, Cond.instantiable RX0 4, Cond.initialized RX0, Cond.fieldLink RX3 25 "StarConsole$Show" "comets" "LStarConsole$Comets;", Cond.instanceMethod yX2_init, Cond.code yX2_init cX2_init 1 none, Cond.methodLink RX2 3 objectInit, Cond.arrayClass .int, Cond.fieldLink RX2 9 "StarConsole$Dimmers" "part" "[I", Cond.fieldLink RX2 15 "StarConsole$Dimmers" "level" "[I", Cond.fieldLink RX2 18 "StarConsole$Dimmers" "aim" "[I", Cond.fieldLink RX2 21 "StarConsole$Dimmers" "pace" "[I", Cond.fieldLink RX2 24 "StarConsole$Dimmers" "life" "[I", Cond.instanceMethod yX0_init, Cond.code yX0_init cX0_init 1 none, Cond.methodLink RX0 3 objectInit]
def wsX3_init_r2 : List Cond := [Cond.fieldLink RX0 9 "StarConsole$Comets" "angle" "[I", Cond.fieldLink RX0 15 "StarConsole$Comets" "speed" "[I", Cond.fieldLink RX0 18 "StarConsole$Comets" "left" "[I"]
def wsX3_init : List Cond := .code yX3_init cX3_init 1 none :: ((wsX3_init_r1 ++ wsX3_init_r2) ++ wsX30 ++ wsX20 ++ wsX00)
def wsX3_become_r1 : List Cond := [Cond.fieldLink RX3 29 "StarConsole$Show" "tick" "I", Cond.fieldLink RX3 32 "StarConsole$Show" "clock" "I", Cond.fieldLink RX3 35 "StarConsole$Show" "clockRuns" "Z", Cond.fieldLink RX3 39 "StarConsole$Show" "ballAngle" "I", Cond.fieldLink RX3 42 "StarConsole$Show" "ballSpeed" "I", Cond.fieldLink RX3 9 "StarConsole$Show" "line" "I", Cond.fieldLink RX3 45 "StarConsole$Show" "speechLeft" "I", Cond.fieldLink RX3 18 "StarConsole$Show" "dimmers" "LStarConsole$Dimmers;", Cond.fieldLink RX3 25 "StarConsole$Show" "comets" "LStarConsole$Comets;", Cond.methodLink RX3 48 yX2_become, Cond.instanceMethod yX2_become, Cond.selects RX2 yX2_become yX2_become, Cond.initialized RX2, Cond.code yX2_become cX2_become 3 none, Cond.fieldLink RX2 9 "StarConsole$Dimmers" "part" "[I", Cond.fieldLink RX2 15 "StarConsole$Dimmers" "level" "[I", Cond.fieldLink RX2 18 "StarConsole$Dimmers" "aim" "[I", Cond.fieldLink RX2 21 "StarConsole$Dimmers" "pace" "[I", Cond.fieldLink RX2 24 "StarConsole$Dimmers" "life" "[I", Cond.fieldLink RX2 27 "StarConsole$Dimmers" "size" "I", Cond.methodLink RX3 52 yX0_become, Cond.instanceMethod yX0_become, Cond.selects RX0 yX0_become yX0_become, Cond.initialized RX0]
def wsX3_become_r2 : List Cond := [Cond.code yX0_become cX0_become 3 none, Cond.fieldLink RX0 9 "StarConsole$Comets" "angle" "[I", Cond.fieldLink RX0 15 "StarConsole$Comets" "speed" "[I", Cond.fieldLink RX0 18 "StarConsole$Comets" "left" "[I", Cond.fieldLink RX0 21 "StarConsole$Comets" "size" "I"]
def wsX3_become : List Cond := .code yX3_become cX3_become 2 none :: ((wsX3_become_r1 ++ wsX3_become_r2) ++ wsX30 ++ wsX20 ++ wsX00)
def wsX3_obey_r1 : List Cond := [Cond.fieldLink RX3 18 "StarConsole$Show" "dimmers" "LStarConsole$Dimmers;", Cond.fieldLink RX3 42 "StarConsole$Show" "ballSpeed" "I", Cond.fieldLink RX3 25 "StarConsole$Show" "comets" "LStarConsole$Comets;", Cond.fieldLink RX3 9 "StarConsole$Show" "line" "I", Cond.fieldLink RX3 45 "StarConsole$Show" "speechLeft" "I", Cond.fieldLink RX3 35 "StarConsole$Show" "clockRuns" "Z", Cond.methodLink RX3 94 yX2_changeAim, Cond.instanceMethod yX2_changeAim, Cond.selects RX2 yX2_changeAim yX2_changeAim, Cond.initialized RX2, Cond.code yX2_changeAim cX2_changeAim 4 (some .int), Cond.fieldLink RX2 18 "StarConsole$Dimmers" "aim" "[I", Cond.methodLink RX2 31 yX2_has, Cond.instanceMethod yX2_has, Cond.selects RX2 yX2_has yX2_has, Cond.code yX2_has cX2_has 2 (some .boolean), Cond.fieldLink RX2 27 "StarConsole$Dimmers" "size" "I", Cond.methodLink RX3 97 yX0_addIfRoom, Cond.instanceMethod yX0_addIfRoom, Cond.selects RX0 yX0_addIfRoom yX0_addIfRoom, Cond.initialized RX0, Cond.code yX0_addIfRoom cX0_addIfRoom 4 none, Cond.fieldLink RX0 21 "StarConsole$Comets" "size" "I", Cond.fieldLink RX0 9 "StarConsole$Comets" "angle" "[I"]
def wsX3_obey_r2 : List Cond := [Cond.fieldLink RX0 15 "StarConsole$Comets" "speed" "[I", Cond.fieldLink RX0 18 "StarConsole$Comets" "left" "[I"]
def wsX3_obey : List Cond := .code yX3_obey cX3_obey 4 none :: ((wsX3_obey_r1 ++ wsX3_obey_r2) ++ wsX30 ++ wsX20 ++ wsX00)
def wsX3_runCues_r1 : List Cond := [Cond.fieldLink RX3 72 "StarConsole$Cues" "size" "I", Cond.fieldLink RX3 77 "StarConsole$Cues" "time" "[I", Cond.fieldLink RX3 32 "StarConsole$Show" "clock" "I", Cond.fieldLink RX3 81 "StarConsole$Cues" "kind" "[I", Cond.fieldLink RX3 84 "StarConsole$Cues" "a" "[I", Cond.fieldLink RX3 87 "StarConsole$Cues" "b" "[I", Cond.methodLink RX3 90 yX3_obey, Cond.instanceMethod yX3_obey, Cond.selects RX3 yX3_obey yX3_obey, Cond.initialized RX3, Cond.code yX3_obey cX3_obey 4 none, Cond.fieldLink RX3 18 "StarConsole$Show" "dimmers" "LStarConsole$Dimmers;", Cond.fieldLink RX3 42 "StarConsole$Show" "ballSpeed" "I", Cond.fieldLink RX3 25 "StarConsole$Show" "comets" "LStarConsole$Comets;", Cond.fieldLink RX3 9 "StarConsole$Show" "line" "I", Cond.fieldLink RX3 45 "StarConsole$Show" "speechLeft" "I", Cond.fieldLink RX3 35 "StarConsole$Show" "clockRuns" "Z", Cond.methodLink RX3 94 yX2_changeAim, Cond.instanceMethod yX2_changeAim, Cond.selects RX2 yX2_changeAim yX2_changeAim, Cond.initialized RX2, Cond.code yX2_changeAim cX2_changeAim 4 (some .int), Cond.fieldLink RX2 18 "StarConsole$Dimmers" "aim" "[I", Cond.methodLink RX2 31 yX2_has]
def wsX3_runCues_r2 : List Cond := [Cond.instanceMethod yX2_has, Cond.selects RX2 yX2_has yX2_has, Cond.code yX2_has cX2_has 2 (some .boolean), Cond.fieldLink RX2 27 "StarConsole$Dimmers" "size" "I", Cond.methodLink RX3 97 yX0_addIfRoom, Cond.instanceMethod yX0_addIfRoom, Cond.selects RX0 yX0_addIfRoom yX0_addIfRoom, Cond.initialized RX0, Cond.code yX0_addIfRoom cX0_addIfRoom 4 none, Cond.fieldLink RX0 21 "StarConsole$Comets" "size" "I", Cond.fieldLink RX0 9 "StarConsole$Comets" "angle" "[I", Cond.fieldLink RX0 15 "StarConsole$Comets" "speed" "[I", Cond.fieldLink RX0 18 "StarConsole$Comets" "left" "[I"]
def wsX3_runCues : List Cond := .code yX3_runCues cX3_runCues 4 (some .int) :: ((wsX3_runCues_r1 ++ wsX3_runCues_r2) ++ wsX10 ++ wsX30 ++ wsX20 ++ wsX00)
def wsX3_speakOn : List Cond := .code yX3_speakOn cX3_speakOn 1 none :: ([.fieldLink RX3 45 "StarConsole$Show" "speechLeft" "I", .fieldLink RX3 9 "StarConsole$Show" "line" "I"] ++ wsX30)
def wsX3_goOn_r1 : List Cond := [Cond.fieldLink RX3 35 "StarConsole$Show" "clockRuns" "Z", Cond.fieldLink RX3 18 "StarConsole$Show" "dimmers" "LStarConsole$Dimmers;", Cond.fieldLink RX3 39 "StarConsole$Show" "ballAngle" "I", Cond.fieldLink RX3 42 "StarConsole$Show" "ballSpeed" "I", Cond.fieldLink RX3 25 "StarConsole$Show" "comets" "LStarConsole$Comets;", Cond.fieldLink RX3 29 "StarConsole$Show" "tick" "I", Cond.methodLink RX3 59 yX3_runCues, Cond.instanceMethod yX3_runCues, Cond.selects RX3 yX3_runCues yX3_runCues, Cond.initialized RX3, Cond.code yX3_runCues cX3_runCues 4 (some .int), Cond.fieldLink RX3 72 "StarConsole$Cues" "size" "I", Cond.fieldLink RX3 77 "StarConsole$Cues" "time" "[I", Cond.fieldLink RX3 32 "StarConsole$Show" "clock" "I", Cond.fieldLink RX3 81 "StarConsole$Cues" "kind" "[I", Cond.fieldLink RX3 84 "StarConsole$Cues" "a" "[I", Cond.fieldLink RX3 87 "StarConsole$Cues" "b" "[I", Cond.methodLink RX3 90 yX3_obey, Cond.instanceMethod yX3_obey, Cond.selects RX3 yX3_obey yX3_obey, Cond.code yX3_obey cX3_obey 4 none, Cond.fieldLink RX3 9 "StarConsole$Show" "line" "I", Cond.fieldLink RX3 45 "StarConsole$Show" "speechLeft" "I", Cond.methodLink RX3 94 yX2_changeAim]
def wsX3_goOn_r2 : List Cond := [Cond.instanceMethod yX2_changeAim, Cond.selects RX2 yX2_changeAim yX2_changeAim, Cond.initialized RX2, Cond.code yX2_changeAim cX2_changeAim 4 (some .int), Cond.fieldLink RX2 18 "StarConsole$Dimmers" "aim" "[I", Cond.methodLink RX2 31 yX2_has, Cond.instanceMethod yX2_has, Cond.selects RX2 yX2_has yX2_has, Cond.code yX2_has cX2_has 2 (some .boolean), Cond.fieldLink RX2 27 "StarConsole$Dimmers" "size" "I", Cond.methodLink RX3 97 yX0_addIfRoom, Cond.instanceMethod yX0_addIfRoom, Cond.selects RX0 yX0_addIfRoom yX0_addIfRoom, Cond.initialized RX0, Cond.code yX0_addIfRoom cX0_addIfRoom 4 none, Cond.fieldLink RX0 21 "StarConsole$Comets" "size" "I", Cond.fieldLink RX0 9 "StarConsole$Comets" "angle" "[I", Cond.fieldLink RX0 15 "StarConsole$Comets" "speed" "[I", Cond.fieldLink RX0 18 "StarConsole$Comets" "left" "[I", Cond.methodLink RX3 62 yX2_goOn, Cond.instanceMethod yX2_goOn, Cond.selects RX2 yX2_goOn yX2_goOn, Cond.code yX2_goOn cX2_goOn 2 none, Cond.fieldLink RX2 15 "StarConsole$Dimmers" "level" "[I"]
def wsX3_goOn_r3 : List Cond := [Cond.fieldLink RX2 21 "StarConsole$Dimmers" "pace" "[I", Cond.fieldLink RX2 24 "StarConsole$Dimmers" "life" "[I", Cond.methodLink RX2 43 Lib.Math.max.name, Cond.static Lib.Math.max.name, Cond.initialized "java/lang/Math", Cond.code Lib.Math.max.name Lib.Math.max.code 2 (some .int), Cond.methodLink RX2 39 yX2_approached, Cond.static yX2_approached, Cond.code yX2_approached cX2_approached 3 (some .int), Cond.methodLink RX2 49 Lib.Math.min.name, Cond.static Lib.Math.min.name, Cond.code Lib.Math.min.name Lib.Math.min.code 2 (some .int), Cond.methodLink RX2 35 yX2_darkenWithoutLife, Cond.instanceMethod yX2_darkenWithoutLife, Cond.selects RX2 yX2_darkenWithoutLife yX2_darkenWithoutLife, Cond.code yX2_darkenWithoutLife cX2_darkenWithoutLife 2 none, Cond.static yX5_turned, Cond.initialized RX5, Cond.code yX5_turned cX5_turned 2 (some .int), Cond.methodLink RX5 213 yJ9_floorMod_7cf53, Cond.static yJ9_floorMod_7cf53, Cond.initialized RJ9, Cond.code yJ9_floorMod_7cf53 cJ9_floorMod_7cf53 3 (some .int), Cond.methodLink RX3 68 yX0_goOn]
def wsX3_goOn_r4 : List Cond := [Cond.instanceMethod yX0_goOn, Cond.selects RX0 yX0_goOn yX0_goOn, Cond.code yX0_goOn cX0_goOn 2 none, Cond.methodLink RX3 69 yX3_speakOn, Cond.instanceMethod yX3_speakOn, Cond.selects RX3 yX3_speakOn yX3_speakOn, Cond.code yX3_speakOn cX3_speakOn 1 none]
def wsX3_goOn : List Cond := .code yX3_goOn cX3_goOn 3 (some .int) :: ((wsX3_goOn_r1 ++ (wsX3_goOn_r2 ++ (wsX3_goOn_r3 ++ wsX3_goOn_r4))) ++ wsX30 ++ wsX10 ++ wsX20 ++ wsX00)
def wsX3_goOnFor_r1 : List Cond := [Cond.methodLink RX3 55 yX3_goOn, Cond.instanceMethod yX3_goOn, Cond.selects RX3 yX3_goOn yX3_goOn, Cond.initialized RX3, Cond.code yX3_goOn cX3_goOn 3 (some .int), Cond.fieldLink RX3 35 "StarConsole$Show" "clockRuns" "Z", Cond.fieldLink RX3 18 "StarConsole$Show" "dimmers" "LStarConsole$Dimmers;", Cond.fieldLink RX3 39 "StarConsole$Show" "ballAngle" "I", Cond.fieldLink RX3 42 "StarConsole$Show" "ballSpeed" "I", Cond.fieldLink RX3 25 "StarConsole$Show" "comets" "LStarConsole$Comets;", Cond.fieldLink RX3 29 "StarConsole$Show" "tick" "I", Cond.methodLink RX3 59 yX3_runCues, Cond.instanceMethod yX3_runCues, Cond.selects RX3 yX3_runCues yX3_runCues, Cond.code yX3_runCues cX3_runCues 4 (some .int), Cond.fieldLink RX3 72 "StarConsole$Cues" "size" "I", Cond.fieldLink RX3 77 "StarConsole$Cues" "time" "[I", Cond.fieldLink RX3 32 "StarConsole$Show" "clock" "I", Cond.fieldLink RX3 81 "StarConsole$Cues" "kind" "[I", Cond.fieldLink RX3 84 "StarConsole$Cues" "a" "[I", Cond.fieldLink RX3 87 "StarConsole$Cues" "b" "[I", Cond.methodLink RX3 90 yX3_obey, Cond.instanceMethod yX3_obey, Cond.selects RX3 yX3_obey yX3_obey]
def wsX3_goOnFor_r2 : List Cond := [Cond.code yX3_obey cX3_obey 4 none, Cond.fieldLink RX3 9 "StarConsole$Show" "line" "I", Cond.fieldLink RX3 45 "StarConsole$Show" "speechLeft" "I", Cond.methodLink RX3 94 yX2_changeAim, Cond.instanceMethod yX2_changeAim, Cond.selects RX2 yX2_changeAim yX2_changeAim, Cond.initialized RX2, Cond.code yX2_changeAim cX2_changeAim 4 (some .int), Cond.fieldLink RX2 18 "StarConsole$Dimmers" "aim" "[I", Cond.methodLink RX2 31 yX2_has, Cond.instanceMethod yX2_has, Cond.selects RX2 yX2_has yX2_has, Cond.code yX2_has cX2_has 2 (some .boolean), Cond.fieldLink RX2 27 "StarConsole$Dimmers" "size" "I", Cond.methodLink RX3 97 yX0_addIfRoom, Cond.instanceMethod yX0_addIfRoom, Cond.selects RX0 yX0_addIfRoom yX0_addIfRoom, Cond.initialized RX0, Cond.code yX0_addIfRoom cX0_addIfRoom 4 none, Cond.fieldLink RX0 21 "StarConsole$Comets" "size" "I", Cond.fieldLink RX0 9 "StarConsole$Comets" "angle" "[I", Cond.fieldLink RX0 15 "StarConsole$Comets" "speed" "[I", Cond.fieldLink RX0 18 "StarConsole$Comets" "left" "[I", Cond.methodLink RX3 62 yX2_goOn]
def wsX3_goOnFor_r3 : List Cond := [Cond.instanceMethod yX2_goOn, Cond.selects RX2 yX2_goOn yX2_goOn, Cond.code yX2_goOn cX2_goOn 2 none, Cond.fieldLink RX2 15 "StarConsole$Dimmers" "level" "[I", Cond.fieldLink RX2 21 "StarConsole$Dimmers" "pace" "[I", Cond.fieldLink RX2 24 "StarConsole$Dimmers" "life" "[I", Cond.methodLink RX2 43 Lib.Math.max.name, Cond.static Lib.Math.max.name, Cond.initialized "java/lang/Math", Cond.code Lib.Math.max.name Lib.Math.max.code 2 (some .int), Cond.methodLink RX2 39 yX2_approached, Cond.static yX2_approached, Cond.code yX2_approached cX2_approached 3 (some .int), Cond.methodLink RX2 49 Lib.Math.min.name, Cond.static Lib.Math.min.name, Cond.code Lib.Math.min.name Lib.Math.min.code 2 (some .int), Cond.methodLink RX2 35 yX2_darkenWithoutLife, Cond.instanceMethod yX2_darkenWithoutLife, Cond.selects RX2 yX2_darkenWithoutLife yX2_darkenWithoutLife, Cond.code yX2_darkenWithoutLife cX2_darkenWithoutLife 2 none, Cond.static yX5_turned, Cond.initialized RX5, Cond.code yX5_turned cX5_turned 2 (some .int), Cond.methodLink RX5 213 yJ9_floorMod_7cf53]
def wsX3_goOnFor_r4 : List Cond := [Cond.static yJ9_floorMod_7cf53, Cond.initialized RJ9, Cond.code yJ9_floorMod_7cf53 cJ9_floorMod_7cf53 3 (some .int), Cond.methodLink RX3 68 yX0_goOn, Cond.instanceMethod yX0_goOn, Cond.selects RX0 yX0_goOn yX0_goOn, Cond.code yX0_goOn cX0_goOn 2 none, Cond.methodLink RX3 69 yX3_speakOn, Cond.instanceMethod yX3_speakOn, Cond.selects RX3 yX3_speakOn yX3_speakOn, Cond.code yX3_speakOn cX3_speakOn 1 none]
def wsX3_goOnFor : List Cond := .code yX3_goOnFor cX3_goOnFor 5 (some .int) :: ((wsX3_goOnFor_r1 ++ (wsX3_goOnFor_r2 ++ (wsX3_goOnFor_r3 ++ wsX3_goOnFor_r4))) ++ wsX30 ++ wsX10 ++ wsX20 ++ wsX00)
def wsX4_has : List Cond := .code yX4_has cX4_has 2 (some .boolean) :: ([.fieldLink RX4 18 "StarConsole$Stars" "size" "I"] ++ wsX40)
def wsX3_outshines : List Cond := .code yX3_outshines cX3_outshines 3 (some .boolean) :: ([.fieldLink RX3 18 "StarConsole$Show" "dimmers" "LStarConsole$Dimmers;", .methodLink RX3 145 yX2_glareOn, .instanceMethod yX2_glareOn, .selects RX2 yX2_glareOn yX2_glareOn, .initialized RX2, .code yX2_glareOn cX2_glareOn 5 (some .int), .fieldLink RX2 27 "StarConsole$Dimmers" "size" "I", .fieldLink RX2 9 "StarConsole$Dimmers" "part" "[I", .fieldLink RX2 15 "StarConsole$Dimmers" "level" "[I", .methodLink RX2 52 yJ9_floorMod_7cf53, .static yJ9_floorMod_7cf53, .initialized RJ9, .code yJ9_floorMod_7cf53 cJ9_floorMod_7cf53 3 (some .int)] ++ wsX30 ++ wsX20)
def wsX3_starSeen_r1 : List Cond := [Cond.fieldLink RX3 118 "StarConsole$Stars" "degree" "[I", Cond.fieldLink RX3 39 "StarConsole$Show" "ballAngle" "I", Cond.fieldLink RX3 121 "StarConsole$Stars" "light" "[I", Cond.methodLink RX3 114 yX4_has, Cond.instanceMethod yX4_has, Cond.selects RX4 yX4_has yX4_has, Cond.initialized RX4, Cond.code yX4_has cX4_has 2 (some .boolean), Cond.fieldLink RX4 18 "StarConsole$Stars" "size" "I", Cond.static yX5_turned, Cond.initialized RX5, Cond.code yX5_turned cX5_turned 2 (some .int), Cond.methodLink RX5 213 yJ9_floorMod_7cf53, Cond.static yJ9_floorMod_7cf53, Cond.initialized RJ9, Cond.code yJ9_floorMod_7cf53 cJ9_floorMod_7cf53 3 (some .int), Cond.methodLink RX3 141 yX3_outshines, Cond.instanceMethod yX3_outshines, Cond.selects RX3 yX3_outshines yX3_outshines, Cond.initialized RX3, Cond.code yX3_outshines cX3_outshines 3 (some .boolean), Cond.fieldLink RX3 18 "StarConsole$Show" "dimmers" "LStarConsole$Dimmers;", Cond.methodLink RX3 145 yX2_glareOn, Cond.instanceMethod yX2_glareOn]
def wsX3_starSeen_r2 : List Cond := [Cond.selects RX2 yX2_glareOn yX2_glareOn, Cond.initialized RX2, Cond.code yX2_glareOn cX2_glareOn 5 (some .int), Cond.fieldLink RX2 27 "StarConsole$Dimmers" "size" "I", Cond.fieldLink RX2 9 "StarConsole$Dimmers" "part" "[I", Cond.fieldLink RX2 15 "StarConsole$Dimmers" "level" "[I", Cond.methodLink RX2 52 yJ9_floorMod_7cf53]
def wsX3_starSeen : List Cond := .code yX3_starSeen cX3_starSeen 3 (some .boolean) :: ((wsX3_starSeen_r1 ++ wsX3_starSeen_r2) ++ wsX40 ++ wsX30 ++ wsX20)
def wsX3_starsSeen_r1 : List Cond := [Cond.fieldLink RX3 102 "StarConsole$Stars" "size" "I", Cond.methodLink RX3 124 yX3_starSeen, Cond.instanceMethod yX3_starSeen, Cond.selects RX3 yX3_starSeen yX3_starSeen, Cond.initialized RX3, Cond.code yX3_starSeen cX3_starSeen 3 (some .boolean), Cond.fieldLink RX3 118 "StarConsole$Stars" "degree" "[I", Cond.fieldLink RX3 39 "StarConsole$Show" "ballAngle" "I", Cond.fieldLink RX3 121 "StarConsole$Stars" "light" "[I", Cond.methodLink RX3 114 yX4_has, Cond.instanceMethod yX4_has, Cond.selects RX4 yX4_has yX4_has, Cond.initialized RX4, Cond.code yX4_has cX4_has 2 (some .boolean), Cond.fieldLink RX4 18 "StarConsole$Stars" "size" "I", Cond.static yX5_turned, Cond.initialized RX5, Cond.code yX5_turned cX5_turned 2 (some .int), Cond.methodLink RX5 213 yJ9_floorMod_7cf53, Cond.static yJ9_floorMod_7cf53, Cond.initialized RJ9, Cond.code yJ9_floorMod_7cf53 cJ9_floorMod_7cf53 3 (some .int), Cond.methodLink RX3 141 yX3_outshines, Cond.instanceMethod yX3_outshines]
def wsX3_starsSeen_r2 : List Cond := [Cond.selects RX3 yX3_outshines yX3_outshines, Cond.code yX3_outshines cX3_outshines 3 (some .boolean), Cond.fieldLink RX3 18 "StarConsole$Show" "dimmers" "LStarConsole$Dimmers;", Cond.methodLink RX3 145 yX2_glareOn, Cond.instanceMethod yX2_glareOn, Cond.selects RX2 yX2_glareOn yX2_glareOn, Cond.initialized RX2, Cond.code yX2_glareOn cX2_glareOn 5 (some .int), Cond.fieldLink RX2 27 "StarConsole$Dimmers" "size" "I", Cond.fieldLink RX2 9 "StarConsole$Dimmers" "part" "[I", Cond.fieldLink RX2 15 "StarConsole$Dimmers" "level" "[I", Cond.methodLink RX2 52 yJ9_floorMod_7cf53]
def wsX3_starsSeen : List Cond := .code yX3_starsSeen cX3_starsSeen 4 (some .int) :: ((wsX3_starsSeen_r1 ++ wsX3_starsSeen_r2) ++ wsX40 ++ wsX30 ++ wsX20)
def wsX3_cometSeen_r1 : List Cond := [Cond.fieldLink RX3 25 "StarConsole$Show" "comets" "LStarConsole$Comets;", Cond.fieldLink RX3 135 "StarConsole$Comets" "left" "[I", Cond.fieldLink RX3 129 "StarConsole$Comets" "angle" "[I", Cond.methodLink RX3 128 yX0_has, Cond.instanceMethod yX0_has, Cond.selects RX0 yX0_has yX0_has, Cond.initialized RX0, Cond.code yX0_has cX0_has 2 (some .boolean), Cond.fieldLink RX0 21 "StarConsole$Comets" "size" "I", Cond.methodLink RX3 141 yX3_outshines, Cond.instanceMethod yX3_outshines, Cond.selects RX3 yX3_outshines yX3_outshines, Cond.initialized RX3, Cond.code yX3_outshines cX3_outshines 3 (some .boolean), Cond.fieldLink RX3 18 "StarConsole$Show" "dimmers" "LStarConsole$Dimmers;", Cond.methodLink RX3 145 yX2_glareOn, Cond.instanceMethod yX2_glareOn, Cond.selects RX2 yX2_glareOn yX2_glareOn, Cond.initialized RX2, Cond.code yX2_glareOn cX2_glareOn 5 (some .int), Cond.fieldLink RX2 27 "StarConsole$Dimmers" "size" "I", Cond.fieldLink RX2 9 "StarConsole$Dimmers" "part" "[I", Cond.fieldLink RX2 15 "StarConsole$Dimmers" "level" "[I", Cond.methodLink RX2 52 yJ9_floorMod_7cf53]
def wsX3_cometSeen_r2 : List Cond := [Cond.static yJ9_floorMod_7cf53, Cond.initialized RJ9, Cond.code yJ9_floorMod_7cf53 cJ9_floorMod_7cf53 3 (some .int)]
def wsX3_cometSeen : List Cond := .code yX3_cometSeen cX3_cometSeen 2 (some .boolean) :: ((wsX3_cometSeen_r1 ++ wsX3_cometSeen_r2) ++ wsX30 ++ wsX00 ++ wsX20)
def wsX3_cometsSeen_r1 : List Cond := [Cond.fieldLink RX3 25 "StarConsole$Show" "comets" "LStarConsole$Comets;", Cond.fieldLink RX3 105 "StarConsole$Comets" "size" "I", Cond.methodLink RX3 138 yX3_cometSeen, Cond.instanceMethod yX3_cometSeen, Cond.selects RX3 yX3_cometSeen yX3_cometSeen, Cond.initialized RX3, Cond.code yX3_cometSeen cX3_cometSeen 2 (some .boolean), Cond.fieldLink RX3 135 "StarConsole$Comets" "left" "[I", Cond.fieldLink RX3 129 "StarConsole$Comets" "angle" "[I", Cond.methodLink RX3 128 yX0_has, Cond.instanceMethod yX0_has, Cond.selects RX0 yX0_has yX0_has, Cond.initialized RX0, Cond.code yX0_has cX0_has 2 (some .boolean), Cond.fieldLink RX0 21 "StarConsole$Comets" "size" "I", Cond.methodLink RX3 141 yX3_outshines, Cond.instanceMethod yX3_outshines, Cond.selects RX3 yX3_outshines yX3_outshines, Cond.code yX3_outshines cX3_outshines 3 (some .boolean), Cond.fieldLink RX3 18 "StarConsole$Show" "dimmers" "LStarConsole$Dimmers;", Cond.methodLink RX3 145 yX2_glareOn, Cond.instanceMethod yX2_glareOn, Cond.selects RX2 yX2_glareOn yX2_glareOn, Cond.initialized RX2]
def wsX3_cometsSeen_r2 : List Cond := [Cond.code yX2_glareOn cX2_glareOn 5 (some .int), Cond.fieldLink RX2 27 "StarConsole$Dimmers" "size" "I", Cond.fieldLink RX2 9 "StarConsole$Dimmers" "part" "[I", Cond.fieldLink RX2 15 "StarConsole$Dimmers" "level" "[I", Cond.methodLink RX2 52 yJ9_floorMod_7cf53, Cond.static yJ9_floorMod_7cf53, Cond.initialized RJ9, Cond.code yJ9_floorMod_7cf53 cJ9_floorMod_7cf53 3 (some .int)]
def wsX3_cometsSeen : List Cond := .code yX3_cometsSeen cX3_cometsSeen 3 (some .int) :: ((wsX3_cometsSeen_r1 ++ wsX3_cometsSeen_r2) ++ wsX30 ++ wsX00 ++ wsX20)
def wsX3_fact_r1 : List Cond := [Cond.fieldLink RX3 29 "StarConsole$Show" "tick" "I", Cond.fieldLink RX3 32 "StarConsole$Show" "clock" "I", Cond.fieldLink RX3 35 "StarConsole$Show" "clockRuns" "Z", Cond.fieldLink RX3 18 "StarConsole$Show" "dimmers" "LStarConsole$Dimmers;", Cond.fieldLink RX3 101 "StarConsole$Dimmers" "size" "I", Cond.fieldLink RX3 102 "StarConsole$Stars" "size" "I", Cond.fieldLink RX3 25 "StarConsole$Show" "comets" "LStarConsole$Comets;", Cond.fieldLink RX3 105 "StarConsole$Comets" "size" "I", Cond.fieldLink RX3 72 "StarConsole$Cues" "size" "I", Cond.fieldLink RX3 9 "StarConsole$Show" "line" "I", Cond.fieldLink RX3 45 "StarConsole$Show" "speechLeft" "I", Cond.fieldLink RX3 39 "StarConsole$Show" "ballAngle" "I", Cond.fieldLink RX3 42 "StarConsole$Show" "ballSpeed" "I", Cond.methodLink RX3 106 yX3_starsSeen, Cond.instanceMethod yX3_starsSeen, Cond.selects RX3 yX3_starsSeen yX3_starsSeen, Cond.initialized RX3, Cond.code yX3_starsSeen cX3_starsSeen 4 (some .int), Cond.methodLink RX3 124 yX3_starSeen, Cond.instanceMethod yX3_starSeen, Cond.selects RX3 yX3_starSeen yX3_starSeen, Cond.code yX3_starSeen cX3_starSeen 3 (some .boolean), Cond.fieldLink RX3 118 "StarConsole$Stars" "degree" "[I", Cond.fieldLink RX3 121 "StarConsole$Stars" "light" "[I"]
def wsX3_fact_r2 : List Cond := [Cond.methodLink RX3 114 yX4_has, Cond.instanceMethod yX4_has, Cond.selects RX4 yX4_has yX4_has, Cond.initialized RX4, Cond.code yX4_has cX4_has 2 (some .boolean), Cond.fieldLink RX4 18 "StarConsole$Stars" "size" "I", Cond.static yX5_turned, Cond.initialized RX5, Cond.code yX5_turned cX5_turned 2 (some .int), Cond.methodLink RX5 213 yJ9_floorMod_7cf53, Cond.static yJ9_floorMod_7cf53, Cond.initialized RJ9, Cond.code yJ9_floorMod_7cf53 cJ9_floorMod_7cf53 3 (some .int), Cond.methodLink RX3 141 yX3_outshines, Cond.instanceMethod yX3_outshines, Cond.selects RX3 yX3_outshines yX3_outshines, Cond.code yX3_outshines cX3_outshines 3 (some .boolean), Cond.methodLink RX3 145 yX2_glareOn, Cond.instanceMethod yX2_glareOn, Cond.selects RX2 yX2_glareOn yX2_glareOn, Cond.initialized RX2, Cond.code yX2_glareOn cX2_glareOn 5 (some .int), Cond.fieldLink RX2 27 "StarConsole$Dimmers" "size" "I", Cond.fieldLink RX2 9 "StarConsole$Dimmers" "part" "[I"]
def wsX3_fact_r3 : List Cond := [Cond.fieldLink RX2 15 "StarConsole$Dimmers" "level" "[I", Cond.methodLink RX2 52 yJ9_floorMod_7cf53, Cond.methodLink RX3 110 yX3_cometsSeen, Cond.instanceMethod yX3_cometsSeen, Cond.selects RX3 yX3_cometsSeen yX3_cometsSeen, Cond.code yX3_cometsSeen cX3_cometsSeen 3 (some .int), Cond.methodLink RX3 138 yX3_cometSeen, Cond.instanceMethod yX3_cometSeen, Cond.selects RX3 yX3_cometSeen yX3_cometSeen, Cond.code yX3_cometSeen cX3_cometSeen 2 (some .boolean), Cond.fieldLink RX3 135 "StarConsole$Comets" "left" "[I", Cond.fieldLink RX3 129 "StarConsole$Comets" "angle" "[I", Cond.methodLink RX3 128 yX0_has, Cond.instanceMethod yX0_has, Cond.selects RX0 yX0_has yX0_has, Cond.initialized RX0, Cond.code yX0_has cX0_has 2 (some .boolean), Cond.fieldLink RX0 21 "StarConsole$Comets" "size" "I"]
def wsX3_fact : List Cond := .code yX3_fact cX3_fact 4 (some .int) :: ((wsX3_fact_r1 ++ (wsX3_fact_r2 ++ wsX3_fact_r3)) ++ wsX30 ++ wsX20 ++ wsX40 ++ wsX00 ++ wsX10)
def wsX3_factOfStar_r1 : List Cond := [Cond.fieldLink RX3 118 "StarConsole$Stars" "degree" "[I", Cond.fieldLink RX3 121 "StarConsole$Stars" "light" "[I", Cond.fieldLink RX3 39 "StarConsole$Show" "ballAngle" "I", Cond.methodLink RX3 114 yX4_has, Cond.instanceMethod yX4_has, Cond.selects RX4 yX4_has yX4_has, Cond.initialized RX4, Cond.code yX4_has cX4_has 2 (some .boolean), Cond.fieldLink RX4 18 "StarConsole$Stars" "size" "I", Cond.static yX5_turned, Cond.initialized RX5, Cond.code yX5_turned cX5_turned 2 (some .int), Cond.methodLink RX5 213 yJ9_floorMod_7cf53, Cond.static yJ9_floorMod_7cf53, Cond.initialized RJ9, Cond.code yJ9_floorMod_7cf53 cJ9_floorMod_7cf53 3 (some .int), Cond.methodLink RX3 124 yX3_starSeen, Cond.instanceMethod yX3_starSeen, Cond.selects RX3 yX3_starSeen yX3_starSeen, Cond.initialized RX3, Cond.code yX3_starSeen cX3_starSeen 3 (some .boolean), Cond.methodLink RX3 141 yX3_outshines, Cond.instanceMethod yX3_outshines, Cond.selects RX3 yX3_outshines yX3_outshines]
def wsX3_factOfStar_r2 : List Cond := [Cond.code yX3_outshines cX3_outshines 3 (some .boolean), Cond.fieldLink RX3 18 "StarConsole$Show" "dimmers" "LStarConsole$Dimmers;", Cond.methodLink RX3 145 yX2_glareOn, Cond.instanceMethod yX2_glareOn, Cond.selects RX2 yX2_glareOn yX2_glareOn, Cond.initialized RX2, Cond.code yX2_glareOn cX2_glareOn 5 (some .int), Cond.fieldLink RX2 27 "StarConsole$Dimmers" "size" "I", Cond.fieldLink RX2 9 "StarConsole$Dimmers" "part" "[I", Cond.fieldLink RX2 15 "StarConsole$Dimmers" "level" "[I", Cond.methodLink RX2 52 yJ9_floorMod_7cf53]
def wsX3_factOfStar : List Cond := .code yX3_factOfStar cX3_factOfStar 4 (some .int) :: ((wsX3_factOfStar_r1 ++ wsX3_factOfStar_r2) ++ wsX40 ++ wsX30 ++ wsX20)
def wsX3_factOfComet_r1 : List Cond := [Cond.fieldLink RX3 25 "StarConsole$Show" "comets" "LStarConsole$Comets;", Cond.fieldLink RX3 129 "StarConsole$Comets" "angle" "[I", Cond.fieldLink RX3 132 "StarConsole$Comets" "speed" "[I", Cond.fieldLink RX3 135 "StarConsole$Comets" "left" "[I", Cond.methodLink RX3 128 yX0_has, Cond.instanceMethod yX0_has, Cond.selects RX0 yX0_has yX0_has, Cond.initialized RX0, Cond.code yX0_has cX0_has 2 (some .boolean), Cond.fieldLink RX0 21 "StarConsole$Comets" "size" "I", Cond.methodLink RX3 138 yX3_cometSeen, Cond.instanceMethod yX3_cometSeen, Cond.selects RX3 yX3_cometSeen yX3_cometSeen, Cond.initialized RX3, Cond.code yX3_cometSeen cX3_cometSeen 2 (some .boolean), Cond.methodLink RX3 141 yX3_outshines, Cond.instanceMethod yX3_outshines, Cond.selects RX3 yX3_outshines yX3_outshines, Cond.code yX3_outshines cX3_outshines 3 (some .boolean), Cond.fieldLink RX3 18 "StarConsole$Show" "dimmers" "LStarConsole$Dimmers;", Cond.methodLink RX3 145 yX2_glareOn, Cond.instanceMethod yX2_glareOn, Cond.selects RX2 yX2_glareOn yX2_glareOn, Cond.initialized RX2]
def wsX3_factOfComet_r2 : List Cond := [Cond.code yX2_glareOn cX2_glareOn 5 (some .int), Cond.fieldLink RX2 27 "StarConsole$Dimmers" "size" "I", Cond.fieldLink RX2 9 "StarConsole$Dimmers" "part" "[I", Cond.fieldLink RX2 15 "StarConsole$Dimmers" "level" "[I", Cond.methodLink RX2 52 yJ9_floorMod_7cf53, Cond.static yJ9_floorMod_7cf53, Cond.initialized RJ9, Cond.code yJ9_floorMod_7cf53 cJ9_floorMod_7cf53 3 (some .int)]
def wsX3_factOfComet : List Cond := .code yX3_factOfComet cX3_factOfComet 3 (some .int) :: ((wsX3_factOfComet_r1 ++ wsX3_factOfComet_r2) ++ wsX30 ++ wsX00 ++ wsX20)
def wsX4_init : List Cond := .code yX4_init cX4_init 1 none :: ([.methodLink RX4 3 objectInit, .instanceMethod objectInit, .code objectInit ⟨#[0xb1]⟩ 1 none, .arrayClass .int, .fieldLink RX4 9 "StarConsole$Stars" "degree" "[I", .fieldLink RX4 15 "StarConsole$Stars" "light" "[I"] ++ wsX40)
def wsX4_add : List Cond := .code yX4_add cX4_add 4 (some .int) :: ([.fieldLink RX4 18 "StarConsole$Stars" "size" "I", .fieldLink RX4 9 "StarConsole$Stars" "degree" "[I", .fieldLink RX4 15 "StarConsole$Stars" "light" "[I"] ++ wsX40)
def wsX5_init_r1 : List Cond := [Cond.methodLink RX5 1 objectInit, Cond.instanceMethod objectInit, Cond.code objectInit ⟨#[0xb1]⟩ 1 none, Cond.classLink RX5 7 RX4, Cond.instantiable RX4 3, Cond.initialized RX4, Cond.fieldLink RX5 10 "StarConsole" "stars" "LStarConsole$Stars;", Cond.classLink RX5 16 RX1, Cond.instantiable RX1 5, Cond.initialized RX1, Cond.fieldLink RX5 19 "StarConsole" "cues" "LStarConsole$Cues;", Cond.classLink RX5 23 RX3, Cond.instantiable RX3 9, Cond.initialized RX3, Cond.fieldLink RX5 26 "StarConsole" "show" "LStarConsole$Show;", Cond.fieldLink RX5 30 "StarConsole" "ahead" "LStarConsole$Show;", Cond.instanceMethod yX4_init, Cond.code yX4_init cX4_init 1 none, Cond.methodLink RX4 3 objectInit, Cond.arrayClass .int, Cond.fieldLink RX4 9 "StarConsole$Stars" "degree" "[I", Cond.fieldLink RX4 15 "StarConsole$Stars" "light" "[I", Cond.instanceMethod yX1_init, Cond.code yX1_init cX1_init 1 none]
def wsX5_init_r2 : List Cond := [Cond.methodLink RX1 3 objectInit, Cond.fieldLink RX1 9 "StarConsole$Cues" "time" "[I", Cond.fieldLink RX1 15 "StarConsole$Cues" "kind" "[I", Cond.fieldLink RX1 18 "StarConsole$Cues" "a" "[I", Cond.fieldLink RX1 21 "StarConsole$Cues" "b" "[I", Cond.instanceMethod yX3_init, Cond.code yX3_init cX3_init 1 none, Cond.methodLink RX3 3 objectInit, Cond.fieldLink RX3 9 "StarConsole$Show" "line" "I", Cond.classLink RX3 15 RX2, Cond.instantiable RX2 6, Cond.initialized RX2, Cond.fieldLink RX3 18 "StarConsole$Show" "dimmers" "LStarConsole$Dimmers;", Cond.classLink RX3 22 RX0, Cond.instantiable RX0 4, Cond.initialized RX0, Cond.fieldLink RX3 25 "StarConsole$Show" "comets" "LStarConsole$Comets;", Cond.instanceMethod yX2_init, Cond.code yX2_init cX2_init 1 none, Cond.methodLink RX2 3 objectInit, Cond.fieldLink RX2 9 "StarConsole$Dimmers" "part" "[I", Cond.fieldLink RX2 15 "StarConsole$Dimmers" "level" "[I", Cond.fieldLink RX2 18 "StarConsole$Dimmers" "aim" "[I", Cond.fieldLink RX2 21 "StarConsole$Dimmers" "pace" "[I"]
def wsX5_init_r3 : List Cond := [Cond.fieldLink RX2 24 "StarConsole$Dimmers" "life" "[I", Cond.instanceMethod yX0_init, Cond.code yX0_init cX0_init 1 none, Cond.methodLink RX0 3 objectInit, Cond.fieldLink RX0 9 "StarConsole$Comets" "angle" "[I", Cond.fieldLink RX0 15 "StarConsole$Comets" "speed" "[I", Cond.fieldLink RX0 18 "StarConsole$Comets" "left" "[I"]
def wsX5_init : List Cond := .code yX5_init cX5_init 1 none :: ((wsX5_init_r1 ++ (wsX5_init_r2 ++ wsX5_init_r3)) ++ wsX40 ++ wsX50 ++ wsX10 ++ wsX30 ++ wsX20 ++ wsX00)
def wsX5_within : List Cond := .code yX5_within cX5_within 3 (some .boolean) :: ([])
def wsX5_dimmer : List Cond := .code yX5_dimmer cX5_dimmer 4 (some .int) :: ([.classLink RX5 37 "java/lang/IllegalArgumentException", .initialized "java/lang/IllegalArgumentException", .classLink RX5 58 "java/lang/IllegalStateException", .initialized "java/lang/IllegalStateException", .fieldLink RX5 26 "StarConsole" "show" "LStarConsole$Show;", .fieldLink RX5 48 "StarConsole$Show" "dimmers" "LStarConsole$Dimmers;", .fieldLink RX5 52 "StarConsole$Dimmers" "size" "I", .methodLink RX5 33 yX5_within, .static yX5_within, .initialized RX5, .code yX5_within cX5_within 3 (some .boolean), .methodLink RX5 63 yX2_add, .instanceMethod yX2_add, .selects RX2 yX2_add yX2_add, .initialized RX2, .code yX2_add cX2_add 5 (some .int), .fieldLink RX2 27 "StarConsole$Dimmers" "size" "I", .fieldLink RX2 9 "StarConsole$Dimmers" "part" "[I", .fieldLink RX2 15 "StarConsole$Dimmers" "level" "[I", .fieldLink RX2 18 "StarConsole$Dimmers" "aim" "[I", .fieldLink RX2 21 "StarConsole$Dimmers" "pace" "[I", .fieldLink RX2 24 "StarConsole$Dimmers" "life" "[I"] ++ wsX50 ++ wsX30 ++ wsX20 ++ (vx_atS RX5 41 "java/lang/IllegalArgumentException" ["java/lang/RuntimeException", "java/lang/Exception"]).filter goodWord ++ (vx_atS RX5 62 "java/lang/IllegalStateException" ["java/lang/RuntimeException", "java/lang/Exception"]).filter goodWord)
def wsX5_lamp_r1 : List Cond := [Cond.classLink RX5 71 "java/lang/IndexOutOfBoundsException", Cond.initialized "java/lang/IndexOutOfBoundsException", Cond.classLink RX5 37 "java/lang/IllegalArgumentException", Cond.initialized "java/lang/IllegalArgumentException", Cond.fieldLink RX5 26 "StarConsole" "show" "LStarConsole$Show;", Cond.fieldLink RX5 48 "StarConsole$Show" "dimmers" "LStarConsole$Dimmers;", Cond.methodLink RX5 67 yX2_has, Cond.instanceMethod yX2_has, Cond.selects RX2 yX2_has yX2_has, Cond.initialized RX2, Cond.code yX2_has cX2_has 2 (some .boolean), Cond.fieldLink RX2 27 "StarConsole$Dimmers" "size" "I", Cond.methodLink RX5 33 yX5_within, Cond.static yX5_within, Cond.initialized RX5, Cond.code yX5_within cX5_within 3 (some .boolean), Cond.methodLink RX5 76 yX2_changeLamp, Cond.instanceMethod yX2_changeLamp, Cond.selects RX2 yX2_changeLamp yX2_changeLamp, Cond.code yX2_changeLamp cX2_changeLamp 4 (some .int), Cond.fieldLink RX2 24 "StarConsole$Dimmers" "life" "[I", Cond.methodLink RX2 31 yX2_has, Cond.methodLink RX2 35 yX2_darkenWithoutLife, Cond.instanceMethod yX2_darkenWithoutLife]
def wsX5_lamp_r2 : List Cond := [Cond.selects RX2 yX2_darkenWithoutLife yX2_darkenWithoutLife, Cond.code yX2_darkenWithoutLife cX2_darkenWithoutLife 2 none, Cond.fieldLink RX2 15 "StarConsole$Dimmers" "level" "[I"]
def wsX5_lamp : List Cond := .code yX5_lamp cX5_lamp 3 (some .int) :: ((wsX5_lamp_r1 ++ wsX5_lamp_r2) ++ wsX50 ++ wsX30 ++ wsX20 ++ (vx_atS RX5 75 "java/lang/IndexOutOfBoundsException" ["java/lang/RuntimeException", "java/lang/Exception"]).filter goodWord ++ (vx_atS RX5 41 "java/lang/IllegalArgumentException" ["java/lang/RuntimeException", "java/lang/Exception"]).filter goodWord)
def wsX5_star : List Cond := .code yX5_star cX5_star 3 (some .int) :: ([.classLink RX5 37 "java/lang/IllegalArgumentException", .initialized "java/lang/IllegalArgumentException", .classLink RX5 58 "java/lang/IllegalStateException", .initialized "java/lang/IllegalStateException", .fieldLink RX5 10 "StarConsole" "stars" "LStarConsole$Stars;", .fieldLink RX5 84 "StarConsole$Stars" "size" "I", .methodLink RX5 33 yX5_within, .static yX5_within, .initialized RX5, .code yX5_within cX5_within 3 (some .boolean), .methodLink RX5 87 yX4_add, .instanceMethod yX4_add, .selects RX4 yX4_add yX4_add, .initialized RX4, .code yX4_add cX4_add 4 (some .int), .fieldLink RX4 18 "StarConsole$Stars" "size" "I", .fieldLink RX4 9 "StarConsole$Stars" "degree" "[I", .fieldLink RX4 15 "StarConsole$Stars" "light" "[I"] ++ wsX50 ++ wsX40 ++ (vx_atS RX5 41 "java/lang/IllegalArgumentException" ["java/lang/RuntimeException", "java/lang/Exception"]).filter goodWord ++ (vx_atS RX5 62 "java/lang/IllegalStateException" ["java/lang/RuntimeException", "java/lang/Exception"]).filter goodWord)
def wsX5_suits : List Cond := .code yX5_suits cX5_suits 4 (some .boolean) :: ([.fieldLink RX5 26 "StarConsole" "show" "LStarConsole$Show;", .fieldLink RX5 48 "StarConsole$Show" "dimmers" "LStarConsole$Dimmers;", .methodLink RX5 67 yX2_has, .instanceMethod yX2_has, .selects RX2 yX2_has yX2_has, .initialized RX2, .code yX2_has cX2_has 2 (some .boolean), .fieldLink RX2 27 "StarConsole$Dimmers" "size" "I", .methodLink RX5 33 yX5_within, .static yX5_within, .initialized RX5, .code yX5_within cX5_within 3 (some .boolean)] ++ wsX50 ++ wsX30 ++ wsX20)
def wsX5_cue_r1 : List Cond := [Cond.classLink RX5 37 "java/lang/IllegalArgumentException", Cond.initialized "java/lang/IllegalArgumentException", Cond.classLink RX5 58 "java/lang/IllegalStateException", Cond.initialized "java/lang/IllegalStateException", Cond.fieldLink RX5 19 "StarConsole" "cues" "LStarConsole$Cues;", Cond.fieldLink RX5 98 "StarConsole$Cues" "size" "I", Cond.methodLink RX5 33 yX5_within, Cond.static yX5_within, Cond.initialized RX5, Cond.code yX5_within cX5_within 3 (some .boolean), Cond.methodLink RX5 93 yX5_suits, Cond.instanceMethod yX5_suits, Cond.selects RX5 yX5_suits yX5_suits, Cond.code yX5_suits cX5_suits 4 (some .boolean), Cond.fieldLink RX5 26 "StarConsole" "show" "LStarConsole$Show;", Cond.fieldLink RX5 48 "StarConsole$Show" "dimmers" "LStarConsole$Dimmers;", Cond.methodLink RX5 67 yX2_has, Cond.instanceMethod yX2_has, Cond.selects RX2 yX2_has yX2_has, Cond.initialized RX2, Cond.code yX2_has cX2_has 2 (some .boolean), Cond.fieldLink RX2 27 "StarConsole$Dimmers" "size" "I", Cond.methodLink RX5 101 yX1_add, Cond.instanceMethod yX1_add]
def wsX5_cue_r2 : List Cond := [Cond.selects RX1 yX1_add yX1_add, Cond.initialized RX1, Cond.code yX1_add cX1_add 6 (some .int), Cond.fieldLink RX1 24 "StarConsole$Cues" "size" "I", Cond.fieldLink RX1 9 "StarConsole$Cues" "time" "[I", Cond.fieldLink RX1 15 "StarConsole$Cues" "kind" "[I", Cond.fieldLink RX1 18 "StarConsole$Cues" "a" "[I", Cond.fieldLink RX1 21 "StarConsole$Cues" "b" "[I"]
def wsX5_cue : List Cond := .code yX5_cue cX5_cue 5 (some .int) :: ((wsX5_cue_r1 ++ wsX5_cue_r2) ++ wsX50 ++ wsX10 ++ wsX30 ++ wsX20 ++ (vx_atS RX5 41 "java/lang/IllegalArgumentException" ["java/lang/RuntimeException", "java/lang/Exception"]).filter goodWord ++ (vx_atS RX5 62 "java/lang/IllegalStateException" ["java/lang/RuntimeException", "java/lang/Exception"]).filter goodWord)
def wsX5_run : List Cond := .code yX5_run cX5_run 1 (some .boolean) :: ([.fieldLink RX5 26 "StarConsole" "show" "LStarConsole$Show;", .fieldLink RX5 104 "StarConsole$Show" "clockRuns" "Z"] ++ wsX50 ++ wsX30)
def wsX5_jump : List Cond := .code yX5_jump cX5_jump 3 (some .int) :: ([.classLink RX5 37 "java/lang/IllegalArgumentException", .initialized "java/lang/IllegalArgumentException", .fieldLink RX5 26 "StarConsole" "show" "LStarConsole$Show;", .fieldLink RX5 110 "StarConsole$Show" "clock" "I", .methodLink RX5 33 yX5_within, .static yX5_within, .initialized RX5, .code yX5_within cX5_within 3 (some .boolean)] ++ wsX50 ++ wsX30 ++ (vx_atS RX5 41 "java/lang/IllegalArgumentException" ["java/lang/RuntimeException", "java/lang/Exception"]).filter goodWord)
def wsX5_fade : List Cond := .code yX5_fade cX5_fade 3 (some .int) :: ([.classLink RX5 71 "java/lang/IndexOutOfBoundsException", .initialized "java/lang/IndexOutOfBoundsException", .classLink RX5 37 "java/lang/IllegalArgumentException", .initialized "java/lang/IllegalArgumentException", .fieldLink RX5 26 "StarConsole" "show" "LStarConsole$Show;", .fieldLink RX5 48 "StarConsole$Show" "dimmers" "LStarConsole$Dimmers;", .methodLink RX5 67 yX2_has, .instanceMethod yX2_has, .selects RX2 yX2_has yX2_has, .initialized RX2, .code yX2_has cX2_has 2 (some .boolean), .fieldLink RX2 27 "StarConsole$Dimmers" "size" "I", .methodLink RX5 33 yX5_within, .static yX5_within, .initialized RX5, .code yX5_within cX5_within 3 (some .boolean), .methodLink RX5 115 yX2_changeAim, .instanceMethod yX2_changeAim, .selects RX2 yX2_changeAim yX2_changeAim, .code yX2_changeAim cX2_changeAim 4 (some .int), .fieldLink RX2 18 "StarConsole$Dimmers" "aim" "[I", .methodLink RX2 31 yX2_has] ++ wsX50 ++ wsX30 ++ wsX20 ++ (vx_atS RX5 75 "java/lang/IndexOutOfBoundsException" ["java/lang/RuntimeException", "java/lang/Exception"]).filter goodWord ++ (vx_atS RX5 41 "java/lang/IllegalArgumentException" ["java/lang/RuntimeException", "java/lang/Exception"]).filter goodWord)
def wsX5_pass_r1 : List Cond := [Cond.classLink RX5 37 "java/lang/IllegalArgumentException", Cond.initialized "java/lang/IllegalArgumentException", Cond.fieldLink RX5 26 "StarConsole" "show" "LStarConsole$Show;", Cond.fieldLink RX5 19 "StarConsole" "cues" "LStarConsole$Cues;", Cond.methodLink RX5 33 yX5_within, Cond.static yX5_within, Cond.initialized RX5, Cond.code yX5_within cX5_within 3 (some .boolean), Cond.methodLink RX5 120 yX3_goOnFor, Cond.instanceMethod yX3_goOnFor, Cond.selects RX3 yX3_goOnFor yX3_goOnFor, Cond.initialized RX3, Cond.code yX3_goOnFor cX3_goOnFor 5 (some .int), Cond.methodLink RX3 55 yX3_goOn, Cond.instanceMethod yX3_goOn, Cond.selects RX3 yX3_goOn yX3_goOn, Cond.code yX3_goOn cX3_goOn 3 (some .int), Cond.fieldLink RX3 35 "StarConsole$Show" "clockRuns" "Z", Cond.fieldLink RX3 18 "StarConsole$Show" "dimmers" "LStarConsole$Dimmers;", Cond.fieldLink RX3 39 "StarConsole$Show" "ballAngle" "I", Cond.fieldLink RX3 42 "StarConsole$Show" "ballSpeed" "I", Cond.fieldLink RX3 25 "StarConsole$Show" "comets" "LStarConsole$Comets;", Cond.fieldLink RX3 29 "StarConsole$Show" "tick" "I", Cond.methodLink RX3 59 yX3_runCues]
def wsX5_pass_r2 : List Cond := [Cond.instanceMethod yX3_runCues, Cond.selects RX3 yX3_runCues yX3_runCues, Cond.code yX3_runCues cX3_runCues 4 (some .int), Cond.fieldLink RX3 72 "StarConsole$Cues" "size" "I", Cond.fieldLink RX3 77 "StarConsole$Cues" "time" "[I", Cond.fieldLink RX3 32 "StarConsole$Show" "clock" "I", Cond.fieldLink RX3 81 "StarConsole$Cues" "kind" "[I", Cond.fieldLink RX3 84 "StarConsole$Cues" "a" "[I", Cond.fieldLink RX3 87 "StarConsole$Cues" "b" "[I", Cond.methodLink RX3 90 yX3_obey, Cond.instanceMethod yX3_obey, Cond.selects RX3 yX3_obey yX3_obey, Cond.code yX3_obey cX3_obey 4 none, Cond.fieldLink RX3 9 "StarConsole$Show" "line" "I", Cond.fieldLink RX3 45 "StarConsole$Show" "speechLeft" "I", Cond.methodLink RX3 94 yX2_changeAim, Cond.instanceMethod yX2_changeAim, Cond.selects RX2 yX2_changeAim yX2_changeAim, Cond.initialized RX2, Cond.code yX2_changeAim cX2_changeAim 4 (some .int), Cond.fieldLink RX2 18 "StarConsole$Dimmers" "aim" "[I", Cond.methodLink RX2 31 yX2_has, Cond.instanceMethod yX2_has, Cond.selects RX2 yX2_has yX2_has]
def wsX5_pass_r3 : List Cond := [Cond.code yX2_has cX2_has 2 (some .boolean), Cond.fieldLink RX2 27 "StarConsole$Dimmers" "size" "I", Cond.methodLink RX3 97 yX0_addIfRoom, Cond.instanceMethod yX0_addIfRoom, Cond.selects RX0 yX0_addIfRoom yX0_addIfRoom, Cond.initialized RX0, Cond.code yX0_addIfRoom cX0_addIfRoom 4 none, Cond.fieldLink RX0 21 "StarConsole$Comets" "size" "I", Cond.fieldLink RX0 9 "StarConsole$Comets" "angle" "[I", Cond.fieldLink RX0 15 "StarConsole$Comets" "speed" "[I", Cond.fieldLink RX0 18 "StarConsole$Comets" "left" "[I", Cond.methodLink RX3 62 yX2_goOn, Cond.instanceMethod yX2_goOn, Cond.selects RX2 yX2_goOn yX2_goOn, Cond.code yX2_goOn cX2_goOn 2 none, Cond.fieldLink RX2 15 "StarConsole$Dimmers" "level" "[I", Cond.fieldLink RX2 21 "StarConsole$Dimmers" "pace" "[I", Cond.fieldLink RX2 24 "StarConsole$Dimmers" "life" "[I", Cond.methodLink RX2 43 Lib.Math.max.name, Cond.static Lib.Math.max.name, Cond.initialized "java/lang/Math", Cond.code Lib.Math.max.name Lib.Math.max.code 2 (some .int), Cond.methodLink RX2 39 yX2_approached, Cond.static yX2_approached]
def wsX5_pass_r4 : List Cond := [Cond.code yX2_approached cX2_approached 3 (some .int), Cond.methodLink RX2 49 Lib.Math.min.name, Cond.static Lib.Math.min.name, Cond.code Lib.Math.min.name Lib.Math.min.code 2 (some .int), Cond.methodLink RX2 35 yX2_darkenWithoutLife, Cond.instanceMethod yX2_darkenWithoutLife, Cond.selects RX2 yX2_darkenWithoutLife yX2_darkenWithoutLife, Cond.code yX2_darkenWithoutLife cX2_darkenWithoutLife 2 none, Cond.static yX5_turned, Cond.code yX5_turned cX5_turned 2 (some .int), Cond.methodLink RX5 213 yJ9_floorMod_7cf53, Cond.static yJ9_floorMod_7cf53, Cond.initialized RJ9, Cond.code yJ9_floorMod_7cf53 cJ9_floorMod_7cf53 3 (some .int), Cond.methodLink RX3 68 yX0_goOn, Cond.instanceMethod yX0_goOn, Cond.selects RX0 yX0_goOn yX0_goOn, Cond.code yX0_goOn cX0_goOn 2 none, Cond.methodLink RX3 69 yX3_speakOn, Cond.instanceMethod yX3_speakOn, Cond.selects RX3 yX3_speakOn yX3_speakOn, Cond.code yX3_speakOn cX3_speakOn 1 none]
def wsX5_pass : List Cond := .code yX5_pass cX5_pass 2 (some .int) :: ((wsX5_pass_r1 ++ (wsX5_pass_r2 ++ (wsX5_pass_r3 ++ wsX5_pass_r4))) ++ wsX50 ++ wsX30 ++ wsX10 ++ wsX20 ++ wsX00 ++ (vx_atS RX5 41 "java/lang/IllegalArgumentException" ["java/lang/RuntimeException", "java/lang/Exception"]).filter goodWord)
def wsX5_told : List Cond := .code yX5_told cX5_told 3 (some .int) :: ([.classLink RX5 71 "java/lang/IndexOutOfBoundsException", .initialized "java/lang/IndexOutOfBoundsException", .fieldLink RX5 26 "StarConsole" "show" "LStarConsole$Show;", .fieldLink RX5 48 "StarConsole$Show" "dimmers" "LStarConsole$Dimmers;", .methodLink RX5 67 yX2_has, .instanceMethod yX2_has, .selects RX2 yX2_has yX2_has, .initialized RX2, .code yX2_has cX2_has 2 (some .boolean), .fieldLink RX2 27 "StarConsole$Dimmers" "size" "I", .methodLink RX5 33 yX5_within, .static yX5_within, .initialized RX5, .code yX5_within cX5_within 3 (some .boolean), .methodLink RX5 126 yX2_fact, .instanceMethod yX2_fact, .selects RX2 yX2_fact yX2_fact, .code yX2_fact cX2_fact 3 (some .int), .fieldLink RX2 9 "StarConsole$Dimmers" "part" "[I", .fieldLink RX2 15 "StarConsole$Dimmers" "level" "[I", .fieldLink RX2 18 "StarConsole$Dimmers" "aim" "[I", .fieldLink RX2 21 "StarConsole$Dimmers" "pace" "[I", .fieldLink RX2 24 "StarConsole$Dimmers" "life" "[I", .methodLink RX2 31 yX2_has] ++ wsX50 ++ wsX30 ++ wsX20 ++ (vx_atS RX5 75 "java/lang/IndexOutOfBoundsException" ["java/lang/RuntimeException", "java/lang/Exception"]).filter goodWord)
def wsX5_glare : List Cond := .code yX5_glare cX5_glare 2 (some .int) :: ([.classLink RX5 71 "java/lang/IndexOutOfBoundsException", .initialized "java/lang/IndexOutOfBoundsException", .fieldLink RX5 26 "StarConsole" "show" "LStarConsole$Show;", .fieldLink RX5 48 "StarConsole$Show" "dimmers" "LStarConsole$Dimmers;", .methodLink RX5 33 yX5_within, .static yX5_within, .initialized RX5, .code yX5_within cX5_within 3 (some .boolean), .methodLink RX5 129 yX2_glareOn, .instanceMethod yX2_glareOn, .selects RX2 yX2_glareOn yX2_glareOn, .initialized RX2, .code yX2_glareOn cX2_glareOn 5 (some .int), .fieldLink RX2 27 "StarConsole$Dimmers" "size" "I", .fieldLink RX2 9 "StarConsole$Dimmers" "part" "[I", .fieldLink RX2 15 "StarConsole$Dimmers" "level" "[I", .methodLink RX2 52 yJ9_floorMod_7cf53, .static yJ9_floorMod_7cf53, .initialized RJ9, .code yJ9_floorMod_7cf53 cJ9_floorMod_7cf53 3 (some .int)] ++ wsX50 ++ wsX30 ++ wsX20 ++ (vx_atS RX5 75 "java/lang/IndexOutOfBoundsException" ["java/lang/RuntimeException", "java/lang/Exception"]).filter goodWord)
def wsX5_about_r1 : List Cond := [Cond.classLink RX5 71 "java/lang/IndexOutOfBoundsException", Cond.initialized "java/lang/IndexOutOfBoundsException", Cond.fieldLink RX5 10 "StarConsole" "stars" "LStarConsole$Stars;", Cond.fieldLink RX5 26 "StarConsole" "show" "LStarConsole$Show;", Cond.methodLink RX5 133 yX4_has, Cond.instanceMethod yX4_has, Cond.selects RX4 yX4_has yX4_has, Cond.initialized RX4, Cond.code yX4_has cX4_has 2 (some .boolean), Cond.fieldLink RX4 18 "StarConsole$Stars" "size" "I", Cond.methodLink RX5 33 yX5_within, Cond.static yX5_within, Cond.initialized RX5, Cond.code yX5_within cX5_within 3 (some .boolean), Cond.methodLink RX5 138 yX3_factOfStar, Cond.instanceMethod yX3_factOfStar, Cond.selects RX3 yX3_factOfStar yX3_factOfStar, Cond.initialized RX3, Cond.code yX3_factOfStar cX3_factOfStar 4 (some .int), Cond.fieldLink RX3 118 "StarConsole$Stars" "degree" "[I", Cond.fieldLink RX3 121 "StarConsole$Stars" "light" "[I", Cond.fieldLink RX3 39 "StarConsole$Show" "ballAngle" "I", Cond.methodLink RX3 114 yX4_has, Cond.static yX5_turned]
def wsX5_about_r2 : List Cond := [Cond.code yX5_turned cX5_turned 2 (some .int), Cond.methodLink RX5 213 yJ9_floorMod_7cf53, Cond.static yJ9_floorMod_7cf53, Cond.initialized RJ9, Cond.code yJ9_floorMod_7cf53 cJ9_floorMod_7cf53 3 (some .int), Cond.methodLink RX3 124 yX3_starSeen, Cond.instanceMethod yX3_starSeen, Cond.selects RX3 yX3_starSeen yX3_starSeen, Cond.code yX3_starSeen cX3_starSeen 3 (some .boolean), Cond.methodLink RX3 141 yX3_outshines, Cond.instanceMethod yX3_outshines, Cond.selects RX3 yX3_outshines yX3_outshines, Cond.code yX3_outshines cX3_outshines 3 (some .boolean), Cond.fieldLink RX3 18 "StarConsole$Show" "dimmers" "LStarConsole$Dimmers;", Cond.methodLink RX3 145 yX2_glareOn, Cond.instanceMethod yX2_glareOn, Cond.selects RX2 yX2_glareOn yX2_glareOn, Cond.initialized RX2, Cond.code yX2_glareOn cX2_glareOn 5 (some .int), Cond.fieldLink RX2 27 "StarConsole$Dimmers" "size" "I", Cond.fieldLink RX2 9 "StarConsole$Dimmers" "part" "[I", Cond.fieldLink RX2 15 "StarConsole$Dimmers" "level" "[I", Cond.methodLink RX2 52 yJ9_floorMod_7cf53]
def wsX5_about : List Cond := .code yX5_about cX5_about 3 (some .int) :: ((wsX5_about_r1 ++ wsX5_about_r2) ++ wsX50 ++ wsX40 ++ wsX30 ++ wsX20 ++ (vx_atS RX5 75 "java/lang/IndexOutOfBoundsException" ["java/lang/RuntimeException", "java/lang/Exception"]).filter goodWord)
def wsX5_comet_r1 : List Cond := [Cond.classLink RX5 71 "java/lang/IndexOutOfBoundsException", Cond.initialized "java/lang/IndexOutOfBoundsException", Cond.fieldLink RX5 26 "StarConsole" "show" "LStarConsole$Show;", Cond.fieldLink RX5 142 "StarConsole$Show" "comets" "LStarConsole$Comets;", Cond.methodLink RX5 146 yX0_has, Cond.instanceMethod yX0_has, Cond.selects RX0 yX0_has yX0_has, Cond.initialized RX0, Cond.code yX0_has cX0_has 2 (some .boolean), Cond.fieldLink RX0 21 "StarConsole$Comets" "size" "I", Cond.methodLink RX5 33 yX5_within, Cond.static yX5_within, Cond.initialized RX5, Cond.code yX5_within cX5_within 3 (some .boolean), Cond.methodLink RX5 151 yX3_factOfComet, Cond.instanceMethod yX3_factOfComet, Cond.selects RX3 yX3_factOfComet yX3_factOfComet, Cond.initialized RX3, Cond.code yX3_factOfComet cX3_factOfComet 3 (some .int), Cond.fieldLink RX3 25 "StarConsole$Show" "comets" "LStarConsole$Comets;", Cond.fieldLink RX3 129 "StarConsole$Comets" "angle" "[I", Cond.fieldLink RX3 132 "StarConsole$Comets" "speed" "[I", Cond.fieldLink RX3 135 "StarConsole$Comets" "left" "[I", Cond.methodLink RX3 128 yX0_has]
def wsX5_comet_r2 : List Cond := [Cond.methodLink RX3 138 yX3_cometSeen, Cond.instanceMethod yX3_cometSeen, Cond.selects RX3 yX3_cometSeen yX3_cometSeen, Cond.code yX3_cometSeen cX3_cometSeen 2 (some .boolean), Cond.methodLink RX3 141 yX3_outshines, Cond.instanceMethod yX3_outshines, Cond.selects RX3 yX3_outshines yX3_outshines, Cond.code yX3_outshines cX3_outshines 3 (some .boolean), Cond.fieldLink RX3 18 "StarConsole$Show" "dimmers" "LStarConsole$Dimmers;", Cond.methodLink RX3 145 yX2_glareOn, Cond.instanceMethod yX2_glareOn, Cond.selects RX2 yX2_glareOn yX2_glareOn, Cond.initialized RX2, Cond.code yX2_glareOn cX2_glareOn 5 (some .int), Cond.fieldLink RX2 27 "StarConsole$Dimmers" "size" "I", Cond.fieldLink RX2 9 "StarConsole$Dimmers" "part" "[I", Cond.fieldLink RX2 15 "StarConsole$Dimmers" "level" "[I", Cond.methodLink RX2 52 yJ9_floorMod_7cf53, Cond.static yJ9_floorMod_7cf53, Cond.initialized RJ9, Cond.code yJ9_floorMod_7cf53 cJ9_floorMod_7cf53 3 (some .int)]
def wsX5_comet : List Cond := .code yX5_comet cX5_comet 3 (some .int) :: ((wsX5_comet_r1 ++ wsX5_comet_r2) ++ wsX50 ++ wsX30 ++ wsX00 ++ wsX20 ++ (vx_atS RX5 75 "java/lang/IndexOutOfBoundsException" ["java/lang/RuntimeException", "java/lang/Exception"]).filter goodWord)
def wsX5_count_r1 : List Cond := [Cond.classLink RX5 71 "java/lang/IndexOutOfBoundsException", Cond.initialized "java/lang/IndexOutOfBoundsException", Cond.fieldLink RX5 26 "StarConsole" "show" "LStarConsole$Show;", Cond.fieldLink RX5 10 "StarConsole" "stars" "LStarConsole$Stars;", Cond.fieldLink RX5 19 "StarConsole" "cues" "LStarConsole$Cues;", Cond.methodLink RX5 33 yX5_within, Cond.static yX5_within, Cond.initialized RX5, Cond.code yX5_within cX5_within 3 (some .boolean), Cond.methodLink RX5 156 yX3_fact, Cond.instanceMethod yX3_fact, Cond.selects RX3 yX3_fact yX3_fact, Cond.initialized RX3, Cond.code yX3_fact cX3_fact 4 (some .int), Cond.fieldLink RX3 29 "StarConsole$Show" "tick" "I", Cond.fieldLink RX3 32 "StarConsole$Show" "clock" "I", Cond.fieldLink RX3 35 "StarConsole$Show" "clockRuns" "Z", Cond.fieldLink RX3 18 "StarConsole$Show" "dimmers" "LStarConsole$Dimmers;", Cond.fieldLink RX3 101 "StarConsole$Dimmers" "size" "I", Cond.fieldLink RX3 102 "StarConsole$Stars" "size" "I", Cond.fieldLink RX3 25 "StarConsole$Show" "comets" "LStarConsole$Comets;", Cond.fieldLink RX3 105 "StarConsole$Comets" "size" "I", Cond.fieldLink RX3 72 "StarConsole$Cues" "size" "I", Cond.fieldLink RX3 9 "StarConsole$Show" "line" "I"]
def wsX5_count_r2 : List Cond := [Cond.fieldLink RX3 45 "StarConsole$Show" "speechLeft" "I", Cond.fieldLink RX3 39 "StarConsole$Show" "ballAngle" "I", Cond.fieldLink RX3 42 "StarConsole$Show" "ballSpeed" "I", Cond.methodLink RX3 106 yX3_starsSeen, Cond.instanceMethod yX3_starsSeen, Cond.selects RX3 yX3_starsSeen yX3_starsSeen, Cond.code yX3_starsSeen cX3_starsSeen 4 (some .int), Cond.methodLink RX3 124 yX3_starSeen, Cond.instanceMethod yX3_starSeen, Cond.selects RX3 yX3_starSeen yX3_starSeen, Cond.code yX3_starSeen cX3_starSeen 3 (some .boolean), Cond.fieldLink RX3 118 "StarConsole$Stars" "degree" "[I", Cond.fieldLink RX3 121 "StarConsole$Stars" "light" "[I", Cond.methodLink RX3 114 yX4_has, Cond.instanceMethod yX4_has, Cond.selects RX4 yX4_has yX4_has, Cond.initialized RX4, Cond.code yX4_has cX4_has 2 (some .boolean), Cond.fieldLink RX4 18 "StarConsole$Stars" "size" "I", Cond.static yX5_turned, Cond.code yX5_turned cX5_turned 2 (some .int), Cond.methodLink RX5 213 yJ9_floorMod_7cf53, Cond.static yJ9_floorMod_7cf53, Cond.initialized RJ9]
def wsX5_count_r3 : List Cond := [Cond.code yJ9_floorMod_7cf53 cJ9_floorMod_7cf53 3 (some .int), Cond.methodLink RX3 141 yX3_outshines, Cond.instanceMethod yX3_outshines, Cond.selects RX3 yX3_outshines yX3_outshines, Cond.code yX3_outshines cX3_outshines 3 (some .boolean), Cond.methodLink RX3 145 yX2_glareOn, Cond.instanceMethod yX2_glareOn, Cond.selects RX2 yX2_glareOn yX2_glareOn, Cond.initialized RX2, Cond.code yX2_glareOn cX2_glareOn 5 (some .int), Cond.fieldLink RX2 27 "StarConsole$Dimmers" "size" "I", Cond.fieldLink RX2 9 "StarConsole$Dimmers" "part" "[I", Cond.fieldLink RX2 15 "StarConsole$Dimmers" "level" "[I", Cond.methodLink RX2 52 yJ9_floorMod_7cf53, Cond.methodLink RX3 110 yX3_cometsSeen, Cond.instanceMethod yX3_cometsSeen, Cond.selects RX3 yX3_cometsSeen yX3_cometsSeen, Cond.code yX3_cometsSeen cX3_cometsSeen 3 (some .int), Cond.methodLink RX3 138 yX3_cometSeen, Cond.instanceMethod yX3_cometSeen, Cond.selects RX3 yX3_cometSeen yX3_cometSeen, Cond.code yX3_cometSeen cX3_cometSeen 2 (some .boolean), Cond.fieldLink RX3 135 "StarConsole$Comets" "left" "[I", Cond.fieldLink RX3 129 "StarConsole$Comets" "angle" "[I"]
def wsX5_count_r4 : List Cond := [Cond.methodLink RX3 128 yX0_has, Cond.instanceMethod yX0_has, Cond.selects RX0 yX0_has yX0_has, Cond.initialized RX0, Cond.code yX0_has cX0_has 2 (some .boolean), Cond.fieldLink RX0 21 "StarConsole$Comets" "size" "I"]
def wsX5_count : List Cond := .code yX5_count cX5_count 2 (some .int) :: ((wsX5_count_r1 ++ (wsX5_count_r2 ++ (wsX5_count_r3 ++ wsX5_count_r4))) ++ wsX50 ++ wsX30 ++ wsX20 ++ wsX40 ++ wsX00 ++ wsX10 ++ (vx_atS RX5 75 "java/lang/IndexOutOfBoundsException" ["java/lang/RuntimeException", "java/lang/Exception"]).filter goodWord)
def wsX5_next : List Cond := .code yX5_next cX5_next 1 (some .int) :: ([.fieldLink RX5 19 "StarConsole" "cues" "LStarConsole$Cues;", .fieldLink RX5 26 "StarConsole" "show" "LStarConsole$Show;", .fieldLink RX5 110 "StarConsole$Show" "clock" "I", .methodLink RX5 159 yX1_firstFrom, .instanceMethod yX1_firstFrom, .selects RX1 yX1_firstFrom yX1_firstFrom, .initialized RX1, .code yX1_firstFrom cX1_firstFrom 4 (some .int), .fieldLink RX1 24 "StarConsole$Cues" "size" "I", .fieldLink RX1 9 "StarConsole$Cues" "time" "[I", .methodLink RX1 32 yX1_timeOf, .instanceMethod yX1_timeOf, .selects RX1 yX1_timeOf yX1_timeOf, .code yX1_timeOf cX1_timeOf 2 (some .int), .methodLink RX1 28 yX1_has, .instanceMethod yX1_has, .selects RX1 yX1_has yX1_has, .code yX1_has cX1_has 2 (some .boolean)] ++ wsX50 ++ wsX30 ++ wsX10)
def wsX5_when : List Cond := .code yX5_when cX5_when 3 (some .int) :: ([.classLink RX5 71 "java/lang/IndexOutOfBoundsException", .initialized "java/lang/IndexOutOfBoundsException", .fieldLink RX5 19 "StarConsole" "cues" "LStarConsole$Cues;", .fieldLink RX5 26 "StarConsole" "show" "LStarConsole$Show;", .fieldLink RX5 104 "StarConsole$Show" "clockRuns" "Z", .fieldLink RX5 110 "StarConsole$Show" "clock" "I", .methodLink RX5 162 yX1_has, .instanceMethod yX1_has, .selects RX1 yX1_has yX1_has, .initialized RX1, .code yX1_has cX1_has 2 (some .boolean), .fieldLink RX1 24 "StarConsole$Cues" "size" "I", .methodLink RX5 165 yX1_timeOf, .instanceMethod yX1_timeOf, .selects RX1 yX1_timeOf yX1_timeOf, .code yX1_timeOf cX1_timeOf 2 (some .int), .fieldLink RX1 9 "StarConsole$Cues" "time" "[I", .methodLink RX1 28 yX1_has, .methodLink RX5 168 yX1_holdWithin, .instanceMethod yX1_holdWithin, .selects RX1 yX1_holdWithin yX1_holdWithin, .code yX1_holdWithin cX1_holdWithin 4 (some .boolean), .fieldLink RX1 15 "StarConsole$Cues" "kind" "[I"] ++ wsX50 ++ wsX30 ++ wsX10 ++ (vx_atS RX5 75 "java/lang/IndexOutOfBoundsException" ["java/lang/RuntimeException", "java/lang/Exception"]).filter goodWord)
def wsX5_lasts_r1 : List Cond := [Cond.classLink RX5 71 "java/lang/IndexOutOfBoundsException", Cond.initialized "java/lang/IndexOutOfBoundsException", Cond.fieldLink RX5 26 "StarConsole" "show" "LStarConsole$Show;", Cond.fieldLink RX5 48 "StarConsole$Show" "dimmers" "LStarConsole$Dimmers;", Cond.fieldLink RX5 30 "StarConsole" "ahead" "LStarConsole$Show;", Cond.fieldLink RX5 19 "StarConsole" "cues" "LStarConsole$Cues;", Cond.methodLink RX5 67 yX2_has, Cond.instanceMethod yX2_has, Cond.selects RX2 yX2_has yX2_has, Cond.initialized RX2, Cond.code yX2_has cX2_has 2 (some .boolean), Cond.fieldLink RX2 27 "StarConsole$Dimmers" "size" "I", Cond.methodLink RX5 172 yX3_become, Cond.instanceMethod yX3_become, Cond.selects RX3 yX3_become yX3_become, Cond.initialized RX3, Cond.code yX3_become cX3_become 2 none, Cond.fieldLink RX3 29 "StarConsole$Show" "tick" "I", Cond.fieldLink RX3 32 "StarConsole$Show" "clock" "I", Cond.fieldLink RX3 35 "StarConsole$Show" "clockRuns" "Z", Cond.fieldLink RX3 39 "StarConsole$Show" "ballAngle" "I", Cond.fieldLink RX3 42 "StarConsole$Show" "ballSpeed" "I", Cond.fieldLink RX3 9 "StarConsole$Show" "line" "I", Cond.fieldLink RX3 45 "StarConsole$Show" "speechLeft" "I"]
def wsX5_lasts_r2 : List Cond := [Cond.fieldLink RX3 18 "StarConsole$Show" "dimmers" "LStarConsole$Dimmers;", Cond.fieldLink RX3 25 "StarConsole$Show" "comets" "LStarConsole$Comets;", Cond.methodLink RX3 48 yX2_become, Cond.instanceMethod yX2_become, Cond.selects RX2 yX2_become yX2_become, Cond.code yX2_become cX2_become 3 none, Cond.fieldLink RX2 9 "StarConsole$Dimmers" "part" "[I", Cond.fieldLink RX2 15 "StarConsole$Dimmers" "level" "[I", Cond.fieldLink RX2 18 "StarConsole$Dimmers" "aim" "[I", Cond.fieldLink RX2 21 "StarConsole$Dimmers" "pace" "[I", Cond.fieldLink RX2 24 "StarConsole$Dimmers" "life" "[I", Cond.methodLink RX3 52 yX0_become, Cond.instanceMethod yX0_become, Cond.selects RX0 yX0_become yX0_become, Cond.initialized RX0, Cond.code yX0_become cX0_become 3 none, Cond.fieldLink RX0 9 "StarConsole$Comets" "angle" "[I", Cond.fieldLink RX0 15 "StarConsole$Comets" "speed" "[I", Cond.fieldLink RX0 18 "StarConsole$Comets" "left" "[I", Cond.fieldLink RX0 21 "StarConsole$Comets" "size" "I", Cond.methodLink RX5 176 yX2_hasLife, Cond.instanceMethod yX2_hasLife, Cond.selects RX2 yX2_hasLife yX2_hasLife, Cond.code yX2_hasLife cX2_hasLife 2 (some .boolean)]
def wsX5_lasts_r3 : List Cond := [Cond.methodLink RX2 31 yX2_has, Cond.methodLink RX5 179 yX3_goOn, Cond.instanceMethod yX3_goOn, Cond.selects RX3 yX3_goOn yX3_goOn, Cond.code yX3_goOn cX3_goOn 3 (some .int), Cond.methodLink RX3 59 yX3_runCues, Cond.instanceMethod yX3_runCues, Cond.selects RX3 yX3_runCues yX3_runCues, Cond.code yX3_runCues cX3_runCues 4 (some .int), Cond.fieldLink RX3 72 "StarConsole$Cues" "size" "I", Cond.fieldLink RX3 77 "StarConsole$Cues" "time" "[I", Cond.fieldLink RX3 81 "StarConsole$Cues" "kind" "[I", Cond.fieldLink RX3 84 "StarConsole$Cues" "a" "[I", Cond.fieldLink RX3 87 "StarConsole$Cues" "b" "[I", Cond.methodLink RX3 90 yX3_obey, Cond.instanceMethod yX3_obey, Cond.selects RX3 yX3_obey yX3_obey, Cond.code yX3_obey cX3_obey 4 none, Cond.methodLink RX3 94 yX2_changeAim, Cond.instanceMethod yX2_changeAim, Cond.selects RX2 yX2_changeAim yX2_changeAim, Cond.code yX2_changeAim cX2_changeAim 4 (some .int), Cond.methodLink RX3 97 yX0_addIfRoom, Cond.instanceMethod yX0_addIfRoom]
def wsX5_lasts_r4 : List Cond := [Cond.selects RX0 yX0_addIfRoom yX0_addIfRoom, Cond.code yX0_addIfRoom cX0_addIfRoom 4 none, Cond.methodLink RX3 62 yX2_goOn, Cond.instanceMethod yX2_goOn, Cond.selects RX2 yX2_goOn yX2_goOn, Cond.code yX2_goOn cX2_goOn 2 none, Cond.methodLink RX2 43 Lib.Math.max.name, Cond.static Lib.Math.max.name, Cond.initialized "java/lang/Math", Cond.code Lib.Math.max.name Lib.Math.max.code 2 (some .int), Cond.methodLink RX2 39 yX2_approached, Cond.static yX2_approached, Cond.code yX2_approached cX2_approached 3 (some .int), Cond.methodLink RX2 49 Lib.Math.min.name, Cond.static Lib.Math.min.name, Cond.code Lib.Math.min.name Lib.Math.min.code 2 (some .int), Cond.methodLink RX2 35 yX2_darkenWithoutLife, Cond.instanceMethod yX2_darkenWithoutLife, Cond.selects RX2 yX2_darkenWithoutLife yX2_darkenWithoutLife, Cond.code yX2_darkenWithoutLife cX2_darkenWithoutLife 2 none, Cond.static yX5_turned, Cond.initialized RX5, Cond.code yX5_turned cX5_turned 2 (some .int), Cond.methodLink RX5 213 yJ9_floorMod_7cf53]
def wsX5_lasts_r5 : List Cond := [Cond.static yJ9_floorMod_7cf53, Cond.initialized RJ9, Cond.code yJ9_floorMod_7cf53 cJ9_floorMod_7cf53 3 (some .int), Cond.methodLink RX3 68 yX0_goOn, Cond.instanceMethod yX0_goOn, Cond.selects RX0 yX0_goOn yX0_goOn, Cond.code yX0_goOn cX0_goOn 2 none, Cond.methodLink RX3 69 yX3_speakOn, Cond.instanceMethod yX3_speakOn, Cond.selects RX3 yX3_speakOn yX3_speakOn, Cond.code yX3_speakOn cX3_speakOn 1 none]
def wsX5_lasts : List Cond := .code yX5_lasts cX5_lasts 3 (some .int) :: ((wsX5_lasts_r1 ++ (wsX5_lasts_r2 ++ (wsX5_lasts_r3 ++ (wsX5_lasts_r4 ++ wsX5_lasts_r5)))) ++ wsX50 ++ wsX30 ++ wsX20 ++ wsX00 ++ wsX10 ++ (vx_atS RX5 75 "java/lang/IndexOutOfBoundsException" ["java/lang/RuntimeException", "java/lang/Exception"]).filter goodWord)
def wsX5_foreseeable : List Cond := .code yX5_foreseeable cX5_foreseeable 1 (some .boolean) :: ([])
def wsX5_foresee_r1 : List Cond := [Cond.classLink RX5 37 "java/lang/IllegalArgumentException", Cond.initialized "java/lang/IllegalArgumentException", Cond.classLink RX5 71 "java/lang/IndexOutOfBoundsException", Cond.initialized "java/lang/IndexOutOfBoundsException", Cond.fieldLink RX5 30 "StarConsole" "ahead" "LStarConsole$Show;", Cond.fieldLink RX5 26 "StarConsole" "show" "LStarConsole$Show;", Cond.fieldLink RX5 19 "StarConsole" "cues" "LStarConsole$Cues;", Cond.fieldLink RX5 10 "StarConsole" "stars" "LStarConsole$Stars;", Cond.methodLink RX5 33 yX5_within, Cond.static yX5_within, Cond.initialized RX5, Cond.code yX5_within cX5_within 3 (some .boolean), Cond.methodLink RX5 183 yX5_foreseeable, Cond.static yX5_foreseeable, Cond.code yX5_foreseeable cX5_foreseeable 1 (some .boolean), Cond.methodLink RX5 172 yX3_become, Cond.instanceMethod yX3_become, Cond.selects RX3 yX3_become yX3_become, Cond.initialized RX3, Cond.code yX3_become cX3_become 2 none, Cond.fieldLink RX3 29 "StarConsole$Show" "tick" "I", Cond.fieldLink RX3 32 "StarConsole$Show" "clock" "I", Cond.fieldLink RX3 35 "StarConsole$Show" "clockRuns" "Z", Cond.fieldLink RX3 39 "StarConsole$Show" "ballAngle" "I"]
def wsX5_foresee_r2 : List Cond := [Cond.fieldLink RX3 42 "StarConsole$Show" "ballSpeed" "I", Cond.fieldLink RX3 9 "StarConsole$Show" "line" "I", Cond.fieldLink RX3 45 "StarConsole$Show" "speechLeft" "I", Cond.fieldLink RX3 18 "StarConsole$Show" "dimmers" "LStarConsole$Dimmers;", Cond.fieldLink RX3 25 "StarConsole$Show" "comets" "LStarConsole$Comets;", Cond.methodLink RX3 48 yX2_become, Cond.instanceMethod yX2_become, Cond.selects RX2 yX2_become yX2_become, Cond.initialized RX2, Cond.code yX2_become cX2_become 3 none, Cond.fieldLink RX2 9 "StarConsole$Dimmers" "part" "[I", Cond.fieldLink RX2 15 "StarConsole$Dimmers" "level" "[I", Cond.fieldLink RX2 18 "StarConsole$Dimmers" "aim" "[I", Cond.fieldLink RX2 21 "StarConsole$Dimmers" "pace" "[I", Cond.fieldLink RX2 24 "StarConsole$Dimmers" "life" "[I", Cond.fieldLink RX2 27 "StarConsole$Dimmers" "size" "I", Cond.methodLink RX3 52 yX0_become, Cond.instanceMethod yX0_become, Cond.selects RX0 yX0_become yX0_become, Cond.initialized RX0, Cond.code yX0_become cX0_become 3 none, Cond.fieldLink RX0 9 "StarConsole$Comets" "angle" "[I", Cond.fieldLink RX0 15 "StarConsole$Comets" "speed" "[I", Cond.fieldLink RX0 18 "StarConsole$Comets" "left" "[I"]
def wsX5_foresee_r3 : List Cond := [Cond.fieldLink RX0 21 "StarConsole$Comets" "size" "I", Cond.methodLink RX5 120 yX3_goOnFor, Cond.instanceMethod yX3_goOnFor, Cond.selects RX3 yX3_goOnFor yX3_goOnFor, Cond.code yX3_goOnFor cX3_goOnFor 5 (some .int), Cond.methodLink RX3 55 yX3_goOn, Cond.instanceMethod yX3_goOn, Cond.selects RX3 yX3_goOn yX3_goOn, Cond.code yX3_goOn cX3_goOn 3 (some .int), Cond.methodLink RX3 59 yX3_runCues, Cond.instanceMethod yX3_runCues, Cond.selects RX3 yX3_runCues yX3_runCues, Cond.code yX3_runCues cX3_runCues 4 (some .int), Cond.fieldLink RX3 72 "StarConsole$Cues" "size" "I", Cond.fieldLink RX3 77 "StarConsole$Cues" "time" "[I", Cond.fieldLink RX3 81 "StarConsole$Cues" "kind" "[I", Cond.fieldLink RX3 84 "StarConsole$Cues" "a" "[I", Cond.fieldLink RX3 87 "StarConsole$Cues" "b" "[I", Cond.methodLink RX3 90 yX3_obey, Cond.instanceMethod yX3_obey, Cond.selects RX3 yX3_obey yX3_obey, Cond.code yX3_obey cX3_obey 4 none, Cond.methodLink RX3 94 yX2_changeAim, Cond.instanceMethod yX2_changeAim]
def wsX5_foresee_r4 : List Cond := [Cond.selects RX2 yX2_changeAim yX2_changeAim, Cond.code yX2_changeAim cX2_changeAim 4 (some .int), Cond.methodLink RX2 31 yX2_has, Cond.instanceMethod yX2_has, Cond.selects RX2 yX2_has yX2_has, Cond.code yX2_has cX2_has 2 (some .boolean), Cond.methodLink RX3 97 yX0_addIfRoom, Cond.instanceMethod yX0_addIfRoom, Cond.selects RX0 yX0_addIfRoom yX0_addIfRoom, Cond.code yX0_addIfRoom cX0_addIfRoom 4 none, Cond.methodLink RX3 62 yX2_goOn, Cond.instanceMethod yX2_goOn, Cond.selects RX2 yX2_goOn yX2_goOn, Cond.code yX2_goOn cX2_goOn 2 none, Cond.methodLink RX2 43 Lib.Math.max.name, Cond.static Lib.Math.max.name, Cond.initialized "java/lang/Math", Cond.code Lib.Math.max.name Lib.Math.max.code 2 (some .int), Cond.methodLink RX2 39 yX2_approached, Cond.static yX2_approached, Cond.code yX2_approached cX2_approached 3 (some .int), Cond.methodLink RX2 49 Lib.Math.min.name, Cond.static Lib.Math.min.name, Cond.code Lib.Math.min.name Lib.Math.min.code 2 (some .int)]
def wsX5_foresee_r5 : List Cond := [Cond.methodLink RX2 35 yX2_darkenWithoutLife, Cond.instanceMethod yX2_darkenWithoutLife, Cond.selects RX2 yX2_darkenWithoutLife yX2_darkenWithoutLife, Cond.code yX2_darkenWithoutLife cX2_darkenWithoutLife 2 none, Cond.static yX5_turned, Cond.code yX5_turned cX5_turned 2 (some .int), Cond.methodLink RX5 213 yJ9_floorMod_7cf53, Cond.static yJ9_floorMod_7cf53, Cond.initialized RJ9, Cond.code yJ9_floorMod_7cf53 cJ9_floorMod_7cf53 3 (some .int), Cond.methodLink RX3 68 yX0_goOn, Cond.instanceMethod yX0_goOn, Cond.selects RX0 yX0_goOn yX0_goOn, Cond.code yX0_goOn cX0_goOn 2 none, Cond.methodLink RX3 69 yX3_speakOn, Cond.instanceMethod yX3_speakOn, Cond.selects RX3 yX3_speakOn yX3_speakOn, Cond.code yX3_speakOn cX3_speakOn 1 none, Cond.methodLink RX5 156 yX3_fact, Cond.instanceMethod yX3_fact, Cond.selects RX3 yX3_fact yX3_fact, Cond.code yX3_fact cX3_fact 4 (some .int), Cond.fieldLink RX3 101 "StarConsole$Dimmers" "size" "I", Cond.fieldLink RX3 102 "StarConsole$Stars" "size" "I"]
def wsX5_foresee_r6 : List Cond := [Cond.fieldLink RX3 105 "StarConsole$Comets" "size" "I", Cond.methodLink RX3 106 yX3_starsSeen, Cond.instanceMethod yX3_starsSeen, Cond.selects RX3 yX3_starsSeen yX3_starsSeen, Cond.code yX3_starsSeen cX3_starsSeen 4 (some .int), Cond.methodLink RX3 124 yX3_starSeen, Cond.instanceMethod yX3_starSeen, Cond.selects RX3 yX3_starSeen yX3_starSeen, Cond.code yX3_starSeen cX3_starSeen 3 (some .boolean), Cond.fieldLink RX3 118 "StarConsole$Stars" "degree" "[I", Cond.fieldLink RX3 121 "StarConsole$Stars" "light" "[I", Cond.methodLink RX3 114 yX4_has, Cond.instanceMethod yX4_has, Cond.selects RX4 yX4_has yX4_has, Cond.initialized RX4, Cond.code yX4_has cX4_has 2 (some .boolean), Cond.fieldLink RX4 18 "StarConsole$Stars" "size" "I", Cond.methodLink RX3 141 yX3_outshines, Cond.instanceMethod yX3_outshines, Cond.selects RX3 yX3_outshines yX3_outshines, Cond.code yX3_outshines cX3_outshines 3 (some .boolean), Cond.methodLink RX3 145 yX2_glareOn, Cond.instanceMethod yX2_glareOn, Cond.selects RX2 yX2_glareOn yX2_glareOn]
def wsX5_foresee_r7 : List Cond := [Cond.code yX2_glareOn cX2_glareOn 5 (some .int), Cond.methodLink RX2 52 yJ9_floorMod_7cf53, Cond.methodLink RX3 110 yX3_cometsSeen, Cond.instanceMethod yX3_cometsSeen, Cond.selects RX3 yX3_cometsSeen yX3_cometsSeen, Cond.code yX3_cometsSeen cX3_cometsSeen 3 (some .int), Cond.methodLink RX3 138 yX3_cometSeen, Cond.instanceMethod yX3_cometSeen, Cond.selects RX3 yX3_cometSeen yX3_cometSeen, Cond.code yX3_cometSeen cX3_cometSeen 2 (some .boolean), Cond.fieldLink RX3 135 "StarConsole$Comets" "left" "[I", Cond.fieldLink RX3 129 "StarConsole$Comets" "angle" "[I", Cond.methodLink RX3 128 yX0_has, Cond.instanceMethod yX0_has, Cond.selects RX0 yX0_has yX0_has, Cond.code yX0_has cX0_has 2 (some .boolean)]
def wsX5_foresee : List Cond := .code yX5_foresee cX5_foresee 3 (some .int) :: ((wsX5_foresee_r1 ++ (wsX5_foresee_r2 ++ (wsX5_foresee_r3 ++ (wsX5_foresee_r4 ++ (wsX5_foresee_r5 ++ (wsX5_foresee_r6 ++ wsX5_foresee_r7)))))) ++ wsX50 ++ wsX30 ++ wsX20 ++ wsX00 ++ wsX10 ++ wsX40 ++ (vx_atS RX5 41 "java/lang/IllegalArgumentException" ["java/lang/RuntimeException", "java/lang/Exception"]).filter goodWord ++ (vx_atS RX5 75 "java/lang/IndexOutOfBoundsException" ["java/lang/RuntimeException", "java/lang/Exception"]).filter goodWord)
def wsX5_darkest : List Cond := .code yX5_darkest cX5_darkest 3 (some .int) :: ([.fieldLink RX5 26 "StarConsole" "show" "LStarConsole$Show;", .fieldLink RX5 48 "StarConsole$Show" "dimmers" "LStarConsole$Dimmers;", .methodLink RX5 129 yX2_glareOn, .instanceMethod yX2_glareOn, .selects RX2 yX2_glareOn yX2_glareOn, .initialized RX2, .code yX2_glareOn cX2_glareOn 5 (some .int), .fieldLink RX2 27 "StarConsole$Dimmers" "size" "I", .fieldLink RX2 9 "StarConsole$Dimmers" "part" "[I", .fieldLink RX2 15 "StarConsole$Dimmers" "level" "[I", .methodLink RX2 52 yJ9_floorMod_7cf53, .static yJ9_floorMod_7cf53, .initialized RJ9, .code yJ9_floorMod_7cf53 cJ9_floorMod_7cf53 3 (some .int)] ++ wsX50 ++ wsX30 ++ wsX20)
def wsX5_mean : List Cond := .code yX5_mean cX5_mean 3 (some .double) :: ([.fieldLink RX5 26 "StarConsole" "show" "LStarConsole$Show;", .fieldLink RX5 48 "StarConsole$Show" "dimmers" "LStarConsole$Dimmers;", .constantDouble RX5 188 (4622945017495814144), .methodLink RX5 129 yX2_glareOn, .instanceMethod yX2_glareOn, .selects RX2 yX2_glareOn yX2_glareOn, .initialized RX2, .code yX2_glareOn cX2_glareOn 5 (some .int), .fieldLink RX2 27 "StarConsole$Dimmers" "size" "I", .fieldLink RX2 9 "StarConsole$Dimmers" "part" "[I", .fieldLink RX2 15 "StarConsole$Dimmers" "level" "[I", .methodLink RX2 52 yJ9_floorMod_7cf53, .static yJ9_floorMod_7cf53, .initialized RJ9, .code yJ9_floorMod_7cf53 cJ9_floorMod_7cf53 3 (some .int)] ++ wsX50 ++ wsX30 ++ wsX20)
def wsX5_joined : List Cond := .code yX5_joined cX5_joined 3 (some .long) :: ([.constantLong RX5 211 (31)])
def wsX5_joinedDimmers : List Cond := .code yX5_joinedDimmers cX5_joinedDimmers 7 (some .long) :: ([.fieldLink RX5 26 "StarConsole" "show" "LStarConsole$Show;", .fieldLink RX5 48 "StarConsole$Show" "dimmers" "LStarConsole$Dimmers;", .fieldLink RX5 52 "StarConsole$Dimmers" "size" "I", .methodLink RX5 126 yX2_fact, .instanceMethod yX2_fact, .selects RX2 yX2_fact yX2_fact, .initialized RX2, .code yX2_fact cX2_fact 3 (some .int), .fieldLink RX2 9 "StarConsole$Dimmers" "part" "[I", .fieldLink RX2 15 "StarConsole$Dimmers" "level" "[I", .fieldLink RX2 18 "StarConsole$Dimmers" "aim" "[I", .fieldLink RX2 21 "StarConsole$Dimmers" "pace" "[I", .fieldLink RX2 24 "StarConsole$Dimmers" "life" "[I", .methodLink RX2 31 yX2_has, .instanceMethod yX2_has, .selects RX2 yX2_has yX2_has, .code yX2_has cX2_has 2 (some .boolean), .fieldLink RX2 27 "StarConsole$Dimmers" "size" "I", .methodLink RX5 192 yX5_joined, .static yX5_joined, .initialized RX5, .code yX5_joined cX5_joined 3 (some .long), .constantLong RX5 211 (31)] ++ wsX50 ++ wsX30 ++ wsX20)
def wsX5_joinedStars_r1 : List Cond := [Cond.fieldLink RX5 10 "StarConsole" "stars" "LStarConsole$Stars;", Cond.fieldLink RX5 84 "StarConsole$Stars" "size" "I", Cond.fieldLink RX5 26 "StarConsole" "show" "LStarConsole$Show;", Cond.methodLink RX5 138 yX3_factOfStar, Cond.instanceMethod yX3_factOfStar, Cond.selects RX3 yX3_factOfStar yX3_factOfStar, Cond.initialized RX3, Cond.code yX3_factOfStar cX3_factOfStar 4 (some .int), Cond.fieldLink RX3 118 "StarConsole$Stars" "degree" "[I", Cond.fieldLink RX3 121 "StarConsole$Stars" "light" "[I", Cond.fieldLink RX3 39 "StarConsole$Show" "ballAngle" "I", Cond.methodLink RX3 114 yX4_has, Cond.instanceMethod yX4_has, Cond.selects RX4 yX4_has yX4_has, Cond.initialized RX4, Cond.code yX4_has cX4_has 2 (some .boolean), Cond.fieldLink RX4 18 "StarConsole$Stars" "size" "I", Cond.static yX5_turned, Cond.initialized RX5, Cond.code yX5_turned cX5_turned 2 (some .int), Cond.methodLink RX5 213 yJ9_floorMod_7cf53, Cond.static yJ9_floorMod_7cf53, Cond.initialized RJ9, Cond.code yJ9_floorMod_7cf53 cJ9_floorMod_7cf53 3 (some .int)]
def wsX5_joinedStars_r2 : List Cond := [Cond.methodLink RX3 124 yX3_starSeen, Cond.instanceMethod yX3_starSeen, Cond.selects RX3 yX3_starSeen yX3_starSeen, Cond.code yX3_starSeen cX3_starSeen 3 (some .boolean), Cond.methodLink RX3 141 yX3_outshines, Cond.instanceMethod yX3_outshines, Cond.selects RX3 yX3_outshines yX3_outshines, Cond.code yX3_outshines cX3_outshines 3 (some .boolean), Cond.fieldLink RX3 18 "StarConsole$Show" "dimmers" "LStarConsole$Dimmers;", Cond.methodLink RX3 145 yX2_glareOn, Cond.instanceMethod yX2_glareOn, Cond.selects RX2 yX2_glareOn yX2_glareOn, Cond.initialized RX2, Cond.code yX2_glareOn cX2_glareOn 5 (some .int), Cond.fieldLink RX2 27 "StarConsole$Dimmers" "size" "I", Cond.fieldLink RX2 9 "StarConsole$Dimmers" "part" "[I", Cond.fieldLink RX2 15 "StarConsole$Dimmers" "level" "[I", Cond.methodLink RX2 52 yJ9_floorMod_7cf53, Cond.methodLink RX5 192 yX5_joined, Cond.static yX5_joined, Cond.code yX5_joined cX5_joined 3 (some .long), Cond.constantLong RX5 211 (31)]
def wsX5_joinedStars : List Cond := .code yX5_joinedStars cX5_joinedStars 7 (some .long) :: ((wsX5_joinedStars_r1 ++ wsX5_joinedStars_r2) ++ wsX50 ++ wsX40 ++ wsX30 ++ wsX20)
def wsX5_joinedComets_r1 : List Cond := [Cond.fieldLink RX5 26 "StarConsole" "show" "LStarConsole$Show;", Cond.fieldLink RX5 142 "StarConsole$Show" "comets" "LStarConsole$Comets;", Cond.fieldLink RX5 209 "StarConsole$Comets" "size" "I", Cond.methodLink RX5 151 yX3_factOfComet, Cond.instanceMethod yX3_factOfComet, Cond.selects RX3 yX3_factOfComet yX3_factOfComet, Cond.initialized RX3, Cond.code yX3_factOfComet cX3_factOfComet 3 (some .int), Cond.fieldLink RX3 25 "StarConsole$Show" "comets" "LStarConsole$Comets;", Cond.fieldLink RX3 129 "StarConsole$Comets" "angle" "[I", Cond.fieldLink RX3 132 "StarConsole$Comets" "speed" "[I", Cond.fieldLink RX3 135 "StarConsole$Comets" "left" "[I", Cond.methodLink RX3 128 yX0_has, Cond.instanceMethod yX0_has, Cond.selects RX0 yX0_has yX0_has, Cond.initialized RX0, Cond.code yX0_has cX0_has 2 (some .boolean), Cond.fieldLink RX0 21 "StarConsole$Comets" "size" "I", Cond.methodLink RX3 138 yX3_cometSeen, Cond.instanceMethod yX3_cometSeen, Cond.selects RX3 yX3_cometSeen yX3_cometSeen, Cond.code yX3_cometSeen cX3_cometSeen 2 (some .boolean), Cond.methodLink RX3 141 yX3_outshines, Cond.instanceMethod yX3_outshines]
def wsX5_joinedComets_r2 : List Cond := [Cond.selects RX3 yX3_outshines yX3_outshines, Cond.code yX3_outshines cX3_outshines 3 (some .boolean), Cond.fieldLink RX3 18 "StarConsole$Show" "dimmers" "LStarConsole$Dimmers;", Cond.methodLink RX3 145 yX2_glareOn, Cond.instanceMethod yX2_glareOn, Cond.selects RX2 yX2_glareOn yX2_glareOn, Cond.initialized RX2, Cond.code yX2_glareOn cX2_glareOn 5 (some .int), Cond.fieldLink RX2 27 "StarConsole$Dimmers" "size" "I", Cond.fieldLink RX2 9 "StarConsole$Dimmers" "part" "[I", Cond.fieldLink RX2 15 "StarConsole$Dimmers" "level" "[I", Cond.methodLink RX2 52 yJ9_floorMod_7cf53, Cond.static yJ9_floorMod_7cf53, Cond.initialized RJ9, Cond.code yJ9_floorMod_7cf53 cJ9_floorMod_7cf53 3 (some .int), Cond.methodLink RX5 192 yX5_joined, Cond.static yX5_joined, Cond.initialized RX5, Cond.code yX5_joined cX5_joined 3 (some .long), Cond.constantLong RX5 211 (31)]
def wsX5_joinedComets : List Cond := .code yX5_joinedComets cX5_joinedComets 7 (some .long) :: ((wsX5_joinedComets_r1 ++ wsX5_joinedComets_r2) ++ wsX50 ++ wsX30 ++ wsX00 ++ wsX20)
def wsX5_joinedCues : List Cond := .code yX5_joinedCues cX5_joinedCues 7 (some .long) :: ([.fieldLink RX5 19 "StarConsole" "cues" "LStarConsole$Cues;", .fieldLink RX5 98 "StarConsole$Cues" "size" "I", .methodLink RX5 210 yX1_fact, .instanceMethod yX1_fact, .selects RX1 yX1_fact yX1_fact, .initialized RX1, .code yX1_fact cX1_fact 3 (some .int), .fieldLink RX1 9 "StarConsole$Cues" "time" "[I", .fieldLink RX1 15 "StarConsole$Cues" "kind" "[I", .fieldLink RX1 18 "StarConsole$Cues" "a" "[I", .fieldLink RX1 21 "StarConsole$Cues" "b" "[I", .methodLink RX1 28 yX1_has, .instanceMethod yX1_has, .selects RX1 yX1_has yX1_has, .code yX1_has cX1_has 2 (some .boolean), .fieldLink RX1 24 "StarConsole$Cues" "size" "I", .methodLink RX5 192 yX5_joined, .static yX5_joined, .initialized RX5, .code yX5_joined cX5_joined 3 (some .long), .constantLong RX5 211 (31)] ++ wsX50 ++ wsX10)
def wsX5_digest_r1 : List Cond := [Cond.constantLong RX5 190 (1109), Cond.fieldLink RX5 26 "StarConsole" "show" "LStarConsole$Show;", Cond.fieldLink RX5 10 "StarConsole" "stars" "LStarConsole$Stars;", Cond.fieldLink RX5 19 "StarConsole" "cues" "LStarConsole$Cues;", Cond.fieldLink RX5 48 "StarConsole$Show" "dimmers" "LStarConsole$Dimmers;", Cond.methodLink RX5 156 yX3_fact, Cond.instanceMethod yX3_fact, Cond.selects RX3 yX3_fact yX3_fact, Cond.initialized RX3, Cond.code yX3_fact cX3_fact 4 (some .int), Cond.fieldLink RX3 29 "StarConsole$Show" "tick" "I", Cond.fieldLink RX3 32 "StarConsole$Show" "clock" "I", Cond.fieldLink RX3 35 "StarConsole$Show" "clockRuns" "Z", Cond.fieldLink RX3 18 "StarConsole$Show" "dimmers" "LStarConsole$Dimmers;", Cond.fieldLink RX3 101 "StarConsole$Dimmers" "size" "I", Cond.fieldLink RX3 102 "StarConsole$Stars" "size" "I", Cond.fieldLink RX3 25 "StarConsole$Show" "comets" "LStarConsole$Comets;", Cond.fieldLink RX3 105 "StarConsole$Comets" "size" "I", Cond.fieldLink RX3 72 "StarConsole$Cues" "size" "I", Cond.fieldLink RX3 9 "StarConsole$Show" "line" "I", Cond.fieldLink RX3 45 "StarConsole$Show" "speechLeft" "I", Cond.fieldLink RX3 39 "StarConsole$Show" "ballAngle" "I", Cond.fieldLink RX3 42 "StarConsole$Show" "ballSpeed" "I", Cond.methodLink RX3 106 yX3_starsSeen]
def wsX5_digest_r2 : List Cond := [Cond.instanceMethod yX3_starsSeen, Cond.selects RX3 yX3_starsSeen yX3_starsSeen, Cond.code yX3_starsSeen cX3_starsSeen 4 (some .int), Cond.methodLink RX3 124 yX3_starSeen, Cond.instanceMethod yX3_starSeen, Cond.selects RX3 yX3_starSeen yX3_starSeen, Cond.code yX3_starSeen cX3_starSeen 3 (some .boolean), Cond.fieldLink RX3 118 "StarConsole$Stars" "degree" "[I", Cond.fieldLink RX3 121 "StarConsole$Stars" "light" "[I", Cond.methodLink RX3 114 yX4_has, Cond.instanceMethod yX4_has, Cond.selects RX4 yX4_has yX4_has, Cond.initialized RX4, Cond.code yX4_has cX4_has 2 (some .boolean), Cond.fieldLink RX4 18 "StarConsole$Stars" "size" "I", Cond.static yX5_turned, Cond.initialized RX5, Cond.code yX5_turned cX5_turned 2 (some .int), Cond.methodLink RX5 213 yJ9_floorMod_7cf53, Cond.static yJ9_floorMod_7cf53, Cond.initialized RJ9, Cond.code yJ9_floorMod_7cf53 cJ9_floorMod_7cf53 3 (some .int), Cond.methodLink RX3 141 yX3_outshines, Cond.instanceMethod yX3_outshines]
def wsX5_digest_r3 : List Cond := [Cond.selects RX3 yX3_outshines yX3_outshines, Cond.code yX3_outshines cX3_outshines 3 (some .boolean), Cond.methodLink RX3 145 yX2_glareOn, Cond.instanceMethod yX2_glareOn, Cond.selects RX2 yX2_glareOn yX2_glareOn, Cond.initialized RX2, Cond.code yX2_glareOn cX2_glareOn 5 (some .int), Cond.fieldLink RX2 27 "StarConsole$Dimmers" "size" "I", Cond.fieldLink RX2 9 "StarConsole$Dimmers" "part" "[I", Cond.fieldLink RX2 15 "StarConsole$Dimmers" "level" "[I", Cond.methodLink RX2 52 yJ9_floorMod_7cf53, Cond.methodLink RX3 110 yX3_cometsSeen, Cond.instanceMethod yX3_cometsSeen, Cond.selects RX3 yX3_cometsSeen yX3_cometsSeen, Cond.code yX3_cometsSeen cX3_cometsSeen 3 (some .int), Cond.methodLink RX3 138 yX3_cometSeen, Cond.instanceMethod yX3_cometSeen, Cond.selects RX3 yX3_cometSeen yX3_cometSeen, Cond.code yX3_cometSeen cX3_cometSeen 2 (some .boolean), Cond.fieldLink RX3 135 "StarConsole$Comets" "left" "[I", Cond.fieldLink RX3 129 "StarConsole$Comets" "angle" "[I", Cond.methodLink RX3 128 yX0_has, Cond.instanceMethod yX0_has, Cond.selects RX0 yX0_has yX0_has]
def wsX5_digest_r4 : List Cond := [Cond.initialized RX0, Cond.code yX0_has cX0_has 2 (some .boolean), Cond.fieldLink RX0 21 "StarConsole$Comets" "size" "I", Cond.methodLink RX5 192 yX5_joined, Cond.static yX5_joined, Cond.code yX5_joined cX5_joined 3 (some .long), Cond.constantLong RX5 211 (31), Cond.methodLink RX5 129 yX2_glareOn, Cond.methodLink RX5 196 yX5_joinedDimmers, Cond.instanceMethod yX5_joinedDimmers, Cond.selects RX5 yX5_joinedDimmers yX5_joinedDimmers, Cond.code yX5_joinedDimmers cX5_joinedDimmers 7 (some .long), Cond.fieldLink RX5 52 "StarConsole$Dimmers" "size" "I", Cond.methodLink RX5 126 yX2_fact, Cond.instanceMethod yX2_fact, Cond.selects RX2 yX2_fact yX2_fact, Cond.code yX2_fact cX2_fact 3 (some .int), Cond.fieldLink RX2 18 "StarConsole$Dimmers" "aim" "[I", Cond.fieldLink RX2 21 "StarConsole$Dimmers" "pace" "[I", Cond.fieldLink RX2 24 "StarConsole$Dimmers" "life" "[I", Cond.methodLink RX2 31 yX2_has, Cond.instanceMethod yX2_has, Cond.selects RX2 yX2_has yX2_has, Cond.code yX2_has cX2_has 2 (some .boolean)]
def wsX5_digest_r5 : List Cond := [Cond.methodLink RX5 200 yX5_joinedStars, Cond.instanceMethod yX5_joinedStars, Cond.selects RX5 yX5_joinedStars yX5_joinedStars, Cond.code yX5_joinedStars cX5_joinedStars 7 (some .long), Cond.fieldLink RX5 84 "StarConsole$Stars" "size" "I", Cond.methodLink RX5 138 yX3_factOfStar, Cond.instanceMethod yX3_factOfStar, Cond.selects RX3 yX3_factOfStar yX3_factOfStar, Cond.code yX3_factOfStar cX3_factOfStar 4 (some .int), Cond.methodLink RX5 203 yX5_joinedComets, Cond.instanceMethod yX5_joinedComets, Cond.selects RX5 yX5_joinedComets yX5_joinedComets, Cond.code yX5_joinedComets cX5_joinedComets 7 (some .long), Cond.fieldLink RX5 142 "StarConsole$Show" "comets" "LStarConsole$Comets;", Cond.fieldLink RX5 209 "StarConsole$Comets" "size" "I", Cond.methodLink RX5 151 yX3_factOfComet, Cond.instanceMethod yX3_factOfComet, Cond.selects RX3 yX3_factOfComet yX3_factOfComet, Cond.code yX3_factOfComet cX3_factOfComet 3 (some .int), Cond.fieldLink RX3 132 "StarConsole$Comets" "speed" "[I", Cond.methodLink RX5 206 yX5_joinedCues, Cond.instanceMethod yX5_joinedCues, Cond.selects RX5 yX5_joinedCues yX5_joinedCues, Cond.code yX5_joinedCues cX5_joinedCues 7 (some .long)]
def wsX5_digest_r6 : List Cond := [Cond.fieldLink RX5 98 "StarConsole$Cues" "size" "I", Cond.methodLink RX5 210 yX1_fact, Cond.instanceMethod yX1_fact, Cond.selects RX1 yX1_fact yX1_fact, Cond.initialized RX1, Cond.code yX1_fact cX1_fact 3 (some .int), Cond.fieldLink RX1 9 "StarConsole$Cues" "time" "[I", Cond.fieldLink RX1 15 "StarConsole$Cues" "kind" "[I", Cond.fieldLink RX1 18 "StarConsole$Cues" "a" "[I", Cond.fieldLink RX1 21 "StarConsole$Cues" "b" "[I", Cond.methodLink RX1 28 yX1_has, Cond.instanceMethod yX1_has, Cond.selects RX1 yX1_has yX1_has, Cond.code yX1_has cX1_has 2 (some .boolean), Cond.fieldLink RX1 24 "StarConsole$Cues" "size" "I"]
def wsX5_digest : List Cond := .code yX5_digest cX5_digest 4 (some .long) :: ((wsX5_digest_r1 ++ (wsX5_digest_r2 ++ (wsX5_digest_r3 ++ (wsX5_digest_r4 ++ (wsX5_digest_r5 ++ wsX5_digest_r6))))) ++ wsX50 ++ wsX30 ++ wsX20 ++ wsX40 ++ wsX00 ++ wsX10)
def wsX6_init : List Cond := .code yX6_init cX6_init 1 none :: ([.methodLink RX6 1 objectInit, .instanceMethod objectInit, .code objectInit ⟨#[0xb1]⟩ 1 none, .arrayClass .int, .fieldLink RX6 9 "StarConsoleModel" "lamps" "[I", .fieldLink RX6 13 "StarConsoleModel" "sky" "[I", .fieldLink RX6 16 "StarConsoleModel" "tails" "[I", .fieldLink RX6 19 "StarConsoleModel" "show" "[I", .fieldLink RX6 22 "StarConsoleModel" "numbers" "[I"] ++ wsX60)
def wsX6_thrown : List Cond := .code yX6_thrown cX6_thrown 1 (some .int) :: ([.fieldLink RX6 25 "StarConsoleModel" "thrown" "I"] ++ wsX60)
def wsX6_fail : List Cond := .code yX6_fail cX6_fail 2 (some .int) :: ([.fieldLink RX6 25 "StarConsoleModel" "thrown" "I"] ++ wsX60)
def wsX6_isIn : List Cond := .code yX6_isIn cX6_isIn 3 (some .boolean) :: ([])
def wsX6_isDimmer : List Cond := .code yX6_isDimmer cX6_isDimmer 2 (some .boolean) :: ([.fieldLink RX6 29 "StarConsoleModel" "dimmers" "I", .methodLink RX6 32 yX6_isIn, .static yX6_isIn, .initialized RX6, .code yX6_isIn cX6_isIn 3 (some .boolean)] ++ wsX60)
def wsX6_la : List Cond := .code yX6_la cX6_la 3 (some .int) :: ([.fieldLink RX6 9 "StarConsoleModel" "lamps" "[I"] ++ wsX60)
def wsX6_put : List Cond := .code yX6_put cX6_put 4 none :: ([.fieldLink RX6 9 "StarConsoleModel" "lamps" "[I"] ++ wsX60)
def wsX6_dimmer : List Cond := .code yX6_dimmer cX6_dimmer 5 (some .int) :: ([.fieldLink RX6 25 "StarConsoleModel" "thrown" "I", .fieldLink RX6 29 "StarConsoleModel" "dimmers" "I", .arrayClass .int, .fieldLink RX6 9 "StarConsoleModel" "lamps" "[I", .methodLink RX6 40 arraycopyName, .native arraycopyName, .static arraycopyName, .initialized "java/lang/System", .methodLink RX6 32 yX6_isIn, .static yX6_isIn, .initialized RX6, .code yX6_isIn cX6_isIn 3 (some .boolean), .methodLink RX6 36 yX6_fail, .instanceMethod yX6_fail, .selects RX6 yX6_fail yX6_fail, .code yX6_fail cX6_fail 2 (some .int)] ++ wsX60)
def wsX6_lamp : List Cond := .code yX6_lamp cX6_lamp 4 (some .int) :: ([.fieldLink RX6 25 "StarConsoleModel" "thrown" "I", .methodLink RX6 46 yX6_isDimmer, .instanceMethod yX6_isDimmer, .selects RX6 yX6_isDimmer yX6_isDimmer, .initialized RX6, .code yX6_isDimmer cX6_isDimmer 2 (some .boolean), .fieldLink RX6 29 "StarConsoleModel" "dimmers" "I", .methodLink RX6 32 yX6_isIn, .static yX6_isIn, .code yX6_isIn cX6_isIn 3 (some .boolean), .methodLink RX6 36 yX6_fail, .instanceMethod yX6_fail, .selects RX6 yX6_fail yX6_fail, .code yX6_fail cX6_fail 2 (some .int), .methodLink RX6 50 yX6_la, .instanceMethod yX6_la, .selects RX6 yX6_la yX6_la, .code yX6_la cX6_la 3 (some .int), .fieldLink RX6 9 "StarConsoleModel" "lamps" "[I", .methodLink RX6 54 yX6_put, .instanceMethod yX6_put, .selects RX6 yX6_put yX6_put, .code yX6_put cX6_put 4 none] ++ wsX60)
def wsX6_star : List Cond := .code yX6_star cX6_star 3 (some .int) :: ([.fieldLink RX6 25 "StarConsoleModel" "thrown" "I", .fieldLink RX6 58 "StarConsoleModel" "stars" "I", .fieldLink RX6 13 "StarConsoleModel" "sky" "[I", .methodLink RX6 32 yX6_isIn, .static yX6_isIn, .initialized RX6, .code yX6_isIn cX6_isIn 3 (some .boolean), .methodLink RX6 36 yX6_fail, .instanceMethod yX6_fail, .selects RX6 yX6_fail yX6_fail, .code yX6_fail cX6_fail 2 (some .int)] ++ wsX60)
def wsX6_isCue : List Cond := .code yX6_isCue cX6_isCue 4 (some .boolean) :: ([.methodLink RX6 46 yX6_isDimmer, .instanceMethod yX6_isDimmer, .selects RX6 yX6_isDimmer yX6_isDimmer, .initialized RX6, .code yX6_isDimmer cX6_isDimmer 2 (some .boolean), .fieldLink RX6 29 "StarConsoleModel" "dimmers" "I", .methodLink RX6 32 yX6_isIn, .static yX6_isIn, .code yX6_isIn cX6_isIn 3 (some .boolean)] ++ wsX60)
def wsX6_cue_r1 : List Cond := [Cond.fieldLink RX6 25 "StarConsoleModel" "thrown" "I", Cond.fieldLink RX6 64 "StarConsoleModel" "cues" "I", Cond.arrayClass .int, Cond.fieldLink RX6 19 "StarConsoleModel" "show" "[I", Cond.methodLink RX6 40 arraycopyName, Cond.native arraycopyName, Cond.static arraycopyName, Cond.initialized "java/lang/System", Cond.methodLink RX6 32 yX6_isIn, Cond.static yX6_isIn, Cond.initialized RX6, Cond.code yX6_isIn cX6_isIn 3 (some .boolean), Cond.methodLink RX6 61 yX6_isCue, Cond.instanceMethod yX6_isCue, Cond.selects RX6 yX6_isCue yX6_isCue, Cond.code yX6_isCue cX6_isCue 4 (some .boolean), Cond.methodLink RX6 46 yX6_isDimmer, Cond.instanceMethod yX6_isDimmer, Cond.selects RX6 yX6_isDimmer yX6_isDimmer, Cond.code yX6_isDimmer cX6_isDimmer 2 (some .boolean), Cond.fieldLink RX6 29 "StarConsoleModel" "dimmers" "I", Cond.methodLink RX6 36 yX6_fail, Cond.instanceMethod yX6_fail, Cond.selects RX6 yX6_fail yX6_fail]
def wsX6_cue_r2 : List Cond := [Cond.code yX6_fail cX6_fail 2 (some .int)]
def wsX6_cue : List Cond := .code yX6_cue cX6_cue 6 (some .int) :: ((wsX6_cue_r1 ++ wsX6_cue_r2) ++ wsX60)
def wsX6_run : List Cond := .code yX6_run cX6_run 1 (some .boolean) :: ([.fieldLink RX6 25 "StarConsoleModel" "thrown" "I", .fieldLink RX6 22 "StarConsoleModel" "numbers" "[I"] ++ wsX60)
def wsX6_jump : List Cond := .code yX6_jump cX6_jump 3 (some .int) :: ([.fieldLink RX6 25 "StarConsoleModel" "thrown" "I", .fieldLink RX6 22 "StarConsoleModel" "numbers" "[I", .methodLink RX6 32 yX6_isIn, .static yX6_isIn, .initialized RX6, .code yX6_isIn cX6_isIn 3 (some .boolean), .methodLink RX6 36 yX6_fail, .instanceMethod yX6_fail, .selects RX6 yX6_fail yX6_fail, .code yX6_fail cX6_fail 2 (some .int)] ++ wsX60)
def wsX6_fade : List Cond := .code yX6_fade cX6_fade 4 (some .int) :: ([.fieldLink RX6 25 "StarConsoleModel" "thrown" "I", .methodLink RX6 46 yX6_isDimmer, .instanceMethod yX6_isDimmer, .selects RX6 yX6_isDimmer yX6_isDimmer, .initialized RX6, .code yX6_isDimmer cX6_isDimmer 2 (some .boolean), .fieldLink RX6 29 "StarConsoleModel" "dimmers" "I", .methodLink RX6 32 yX6_isIn, .static yX6_isIn, .code yX6_isIn cX6_isIn 3 (some .boolean), .methodLink RX6 36 yX6_fail, .instanceMethod yX6_fail, .selects RX6 yX6_fail yX6_fail, .code yX6_fail cX6_fail 2 (some .int), .methodLink RX6 50 yX6_la, .instanceMethod yX6_la, .selects RX6 yX6_la yX6_la, .code yX6_la cX6_la 3 (some .int), .fieldLink RX6 9 "StarConsoleModel" "lamps" "[I", .methodLink RX6 54 yX6_put, .instanceMethod yX6_put, .selects RX6 yX6_put yX6_put, .code yX6_put cX6_put 4 none] ++ wsX60)
def wsX6_carryOut : List Cond := .code yX6_carryOut cX6_carryOut 4 none :: ([.fieldLink RX6 19 "StarConsoleModel" "show" "[I", .fieldLink RX6 22 "StarConsoleModel" "numbers" "[I", .fieldLink RX6 16 "StarConsoleModel" "tails" "[I", .methodLink RX6 54 yX6_put, .instanceMethod yX6_put, .selects RX6 yX6_put yX6_put, .initialized RX6, .code yX6_put cX6_put 4 none, .fieldLink RX6 9 "StarConsoleModel" "lamps" "[I"] ++ wsX60)
def wsX6_round : List Cond := .code yX6_round cX6_round 1 (some .int) :: ([])
def wsX6_glow : List Cond := .code yX6_glow cX6_glow 5 none :: ([.methodLink RX6 67 Lib.Math.min.name, .static Lib.Math.min.name, .initialized "java/lang/Math", .code Lib.Math.min.name Lib.Math.min.code 2 (some .int), .methodLink RX6 72 Lib.Math.max.name, .static Lib.Math.max.name, .code Lib.Math.max.name Lib.Math.max.code 2 (some .int), .methodLink RX6 50 yX6_la, .instanceMethod yX6_la, .selects RX6 yX6_la yX6_la, .initialized RX6, .code yX6_la cX6_la 3 (some .int), .fieldLink RX6 9 "StarConsoleModel" "lamps" "[I", .methodLink RX6 54 yX6_put, .instanceMethod yX6_put, .selects RX6 yX6_put yX6_put, .code yX6_put cX6_put 4 none] ++ wsX60)
def wsX6_tickOn_r1 : List Cond := [Cond.fieldLink RX6 22 "StarConsoleModel" "numbers" "[I", Cond.fieldLink RX6 64 "StarConsoleModel" "cues" "I", Cond.fieldLink RX6 19 "StarConsoleModel" "show" "[I", Cond.fieldLink RX6 29 "StarConsoleModel" "dimmers" "I", Cond.fieldLink RX6 16 "StarConsoleModel" "tails" "[I", Cond.methodLink RX6 75 yX6_carryOut, Cond.instanceMethod yX6_carryOut, Cond.selects RX6 yX6_carryOut yX6_carryOut, Cond.initialized RX6, Cond.code yX6_carryOut cX6_carryOut 4 none, Cond.methodLink RX6 54 yX6_put, Cond.instanceMethod yX6_put, Cond.selects RX6 yX6_put yX6_put, Cond.code yX6_put cX6_put 4 none, Cond.fieldLink RX6 9 "StarConsoleModel" "lamps" "[I", Cond.methodLink RX6 79 yX6_glow, Cond.instanceMethod yX6_glow, Cond.selects RX6 yX6_glow yX6_glow, Cond.code yX6_glow cX6_glow 5 none, Cond.methodLink RX6 67 Lib.Math.min.name, Cond.static Lib.Math.min.name, Cond.initialized "java/lang/Math", Cond.code Lib.Math.min.name Lib.Math.min.code 2 (some .int), Cond.methodLink RX6 72 Lib.Math.max.name]
def wsX6_tickOn_r2 : List Cond := [Cond.static Lib.Math.max.name, Cond.code Lib.Math.max.name Lib.Math.max.code 2 (some .int), Cond.methodLink RX6 50 yX6_la, Cond.instanceMethod yX6_la, Cond.selects RX6 yX6_la yX6_la, Cond.code yX6_la cX6_la 3 (some .int), Cond.methodLink RX6 82 yX6_round, Cond.static yX6_round, Cond.code yX6_round cX6_round 1 (some .int)]
def wsX6_tickOn : List Cond := .code yX6_tickOn cX6_tickOn 4 (some .int) :: ((wsX6_tickOn_r1 ++ wsX6_tickOn_r2) ++ wsX60)
def wsX6_ticksOn_r1 : List Cond := [Cond.methodLink RX6 85 yX6_tickOn, Cond.instanceMethod yX6_tickOn, Cond.selects RX6 yX6_tickOn yX6_tickOn, Cond.initialized RX6, Cond.code yX6_tickOn cX6_tickOn 4 (some .int), Cond.fieldLink RX6 22 "StarConsoleModel" "numbers" "[I", Cond.fieldLink RX6 64 "StarConsoleModel" "cues" "I", Cond.fieldLink RX6 19 "StarConsoleModel" "show" "[I", Cond.fieldLink RX6 29 "StarConsoleModel" "dimmers" "I", Cond.fieldLink RX6 16 "StarConsoleModel" "tails" "[I", Cond.methodLink RX6 75 yX6_carryOut, Cond.instanceMethod yX6_carryOut, Cond.selects RX6 yX6_carryOut yX6_carryOut, Cond.code yX6_carryOut cX6_carryOut 4 none, Cond.methodLink RX6 54 yX6_put, Cond.instanceMethod yX6_put, Cond.selects RX6 yX6_put yX6_put, Cond.code yX6_put cX6_put 4 none, Cond.fieldLink RX6 9 "StarConsoleModel" "lamps" "[I", Cond.methodLink RX6 79 yX6_glow, Cond.instanceMethod yX6_glow, Cond.selects RX6 yX6_glow yX6_glow, Cond.code yX6_glow cX6_glow 5 none, Cond.methodLink RX6 67 Lib.Math.min.name]
def wsX6_ticksOn_r2 : List Cond := [Cond.static Lib.Math.min.name, Cond.initialized "java/lang/Math", Cond.code Lib.Math.min.name Lib.Math.min.code 2 (some .int), Cond.methodLink RX6 72 Lib.Math.max.name, Cond.static Lib.Math.max.name, Cond.code Lib.Math.max.name Lib.Math.max.code 2 (some .int), Cond.methodLink RX6 50 yX6_la, Cond.instanceMethod yX6_la, Cond.selects RX6 yX6_la yX6_la, Cond.code yX6_la cX6_la 3 (some .int), Cond.methodLink RX6 82 yX6_round, Cond.static yX6_round, Cond.code yX6_round cX6_round 1 (some .int)]
def wsX6_ticksOn : List Cond := .code yX6_ticksOn cX6_ticksOn 4 (some .int) :: ((wsX6_ticksOn_r1 ++ wsX6_ticksOn_r2) ++ wsX60)
def wsX6_pass_r1 : List Cond := [Cond.fieldLink RX6 25 "StarConsoleModel" "thrown" "I", Cond.methodLink RX6 32 yX6_isIn, Cond.static yX6_isIn, Cond.initialized RX6, Cond.code yX6_isIn cX6_isIn 3 (some .boolean), Cond.methodLink RX6 89 yX6_ticksOn, Cond.instanceMethod yX6_ticksOn, Cond.selects RX6 yX6_ticksOn yX6_ticksOn, Cond.code yX6_ticksOn cX6_ticksOn 4 (some .int), Cond.methodLink RX6 85 yX6_tickOn, Cond.instanceMethod yX6_tickOn, Cond.selects RX6 yX6_tickOn yX6_tickOn, Cond.code yX6_tickOn cX6_tickOn 4 (some .int), Cond.fieldLink RX6 22 "StarConsoleModel" "numbers" "[I", Cond.fieldLink RX6 64 "StarConsoleModel" "cues" "I", Cond.fieldLink RX6 19 "StarConsoleModel" "show" "[I", Cond.fieldLink RX6 29 "StarConsoleModel" "dimmers" "I", Cond.fieldLink RX6 16 "StarConsoleModel" "tails" "[I", Cond.methodLink RX6 75 yX6_carryOut, Cond.instanceMethod yX6_carryOut, Cond.selects RX6 yX6_carryOut yX6_carryOut, Cond.code yX6_carryOut cX6_carryOut 4 none, Cond.methodLink RX6 54 yX6_put, Cond.instanceMethod yX6_put]
def wsX6_pass_r2 : List Cond := [Cond.selects RX6 yX6_put yX6_put, Cond.code yX6_put cX6_put 4 none, Cond.fieldLink RX6 9 "StarConsoleModel" "lamps" "[I", Cond.methodLink RX6 79 yX6_glow, Cond.instanceMethod yX6_glow, Cond.selects RX6 yX6_glow yX6_glow, Cond.code yX6_glow cX6_glow 5 none, Cond.methodLink RX6 67 Lib.Math.min.name, Cond.static Lib.Math.min.name, Cond.initialized "java/lang/Math", Cond.code Lib.Math.min.name Lib.Math.min.code 2 (some .int), Cond.methodLink RX6 72 Lib.Math.max.name, Cond.static Lib.Math.max.name, Cond.code Lib.Math.max.name Lib.Math.max.code 2 (some .int), Cond.methodLink RX6 50 yX6_la, Cond.instanceMethod yX6_la, Cond.selects RX6 yX6_la yX6_la, Cond.code yX6_la cX6_la 3 (some .int), Cond.methodLink RX6 82 yX6_round, Cond.static yX6_round, Cond.code yX6_round cX6_round 1 (some .int), Cond.methodLink RX6 36 yX6_fail, Cond.instanceMethod yX6_fail, Cond.selects RX6 yX6_fail yX6_fail]
def wsX6_pass_r3 : List Cond := [Cond.code yX6_fail cX6_fail 2 (some .int)]
def wsX6_pass : List Cond := .code yX6_pass cX6_pass 2 (some .int) :: ((wsX6_pass_r1 ++ (wsX6_pass_r2 ++ wsX6_pass_r3)) ++ wsX60)
def wsX6_told : List Cond := .code yX6_told cX6_told 3 (some .int) :: ([.fieldLink RX6 25 "StarConsoleModel" "thrown" "I", .methodLink RX6 46 yX6_isDimmer, .instanceMethod yX6_isDimmer, .selects RX6 yX6_isDimmer yX6_isDimmer, .initialized RX6, .code yX6_isDimmer cX6_isDimmer 2 (some .boolean), .fieldLink RX6 29 "StarConsoleModel" "dimmers" "I", .methodLink RX6 32 yX6_isIn, .static yX6_isIn, .code yX6_isIn cX6_isIn 3 (some .boolean), .methodLink RX6 50 yX6_la, .instanceMethod yX6_la, .selects RX6 yX6_la yX6_la, .code yX6_la cX6_la 3 (some .int), .fieldLink RX6 9 "StarConsoleModel" "lamps" "[I", .methodLink RX6 36 yX6_fail, .instanceMethod yX6_fail, .selects RX6 yX6_fail yX6_fail, .code yX6_fail cX6_fail 2 (some .int)] ++ wsX60)
def wsX6_glareOf : List Cond := .code yX6_glareOf cX6_glareOf 5 (some .int) :: ([.fieldLink RX6 29 "StarConsoleModel" "dimmers" "I", .methodLink RX6 50 yX6_la, .instanceMethod yX6_la, .selects RX6 yX6_la yX6_la, .initialized RX6, .code yX6_la cX6_la 3 (some .int), .fieldLink RX6 9 "StarConsoleModel" "lamps" "[I"] ++ wsX60)
def wsX6_glare : List Cond := .code yX6_glare cX6_glare 2 (some .int) :: ([.fieldLink RX6 25 "StarConsoleModel" "thrown" "I", .methodLink RX6 32 yX6_isIn, .static yX6_isIn, .initialized RX6, .code yX6_isIn cX6_isIn 3 (some .boolean), .methodLink RX6 92 yX6_glareOf, .instanceMethod yX6_glareOf, .selects RX6 yX6_glareOf yX6_glareOf, .code yX6_glareOf cX6_glareOf 5 (some .int), .fieldLink RX6 29 "StarConsoleModel" "dimmers" "I", .methodLink RX6 50 yX6_la, .instanceMethod yX6_la, .selects RX6 yX6_la yX6_la, .code yX6_la cX6_la 3 (some .int), .fieldLink RX6 9 "StarConsoleModel" "lamps" "[I", .methodLink RX6 36 yX6_fail, .instanceMethod yX6_fail, .selects RX6 yX6_fail yX6_fail, .code yX6_fail cX6_fail 2 (some .int)] ++ wsX60)
def wsX6_stands : List Cond := .code yX6_stands cX6_stands 2 (some .int) :: ([.fieldLink RX6 13 "StarConsoleModel" "sky" "[I", .fieldLink RX6 22 "StarConsoleModel" "numbers" "[I"] ++ wsX60)
def wsX6_isSeen : List Cond := .code yX6_isSeen cX6_isSeen 3 (some .boolean) :: ([.methodLink RX6 92 yX6_glareOf, .instanceMethod yX6_glareOf, .selects RX6 yX6_glareOf yX6_glareOf, .initialized RX6, .code yX6_glareOf cX6_glareOf 5 (some .int), .fieldLink RX6 29 "StarConsoleModel" "dimmers" "I", .methodLink RX6 50 yX6_la, .instanceMethod yX6_la, .selects RX6 yX6_la yX6_la, .code yX6_la cX6_la 3 (some .int), .fieldLink RX6 9 "StarConsoleModel" "lamps" "[I"] ++ wsX60)
def wsX6_starTold : List Cond := .code yX6_starTold cX6_starTold 3 (some .int) :: ([.fieldLink RX6 13 "StarConsoleModel" "sky" "[I", .methodLink RX6 95 yX6_stands, .instanceMethod yX6_stands, .selects RX6 yX6_stands yX6_stands, .initialized RX6, .code yX6_stands cX6_stands 2 (some .int), .fieldLink RX6 22 "StarConsoleModel" "numbers" "[I", .methodLink RX6 98 yX6_isSeen, .instanceMethod yX6_isSeen, .selects RX6 yX6_isSeen yX6_isSeen, .code yX6_isSeen cX6_isSeen 3 (some .boolean), .methodLink RX6 92 yX6_glareOf, .instanceMethod yX6_glareOf, .selects RX6 yX6_glareOf yX6_glareOf, .code yX6_glareOf cX6_glareOf 5 (some .int), .fieldLink RX6 29 "StarConsoleModel" "dimmers" "I", .methodLink RX6 50 yX6_la, .instanceMethod yX6_la, .selects RX6 yX6_la yX6_la, .code yX6_la cX6_la 3 (some .int), .fieldLink RX6 9 "StarConsoleModel" "lamps" "[I"] ++ wsX60)
def wsX6_about_r1 : List Cond := [Cond.fieldLink RX6 25 "StarConsoleModel" "thrown" "I", Cond.fieldLink RX6 58 "StarConsoleModel" "stars" "I", Cond.methodLink RX6 32 yX6_isIn, Cond.static yX6_isIn, Cond.initialized RX6, Cond.code yX6_isIn cX6_isIn 3 (some .boolean), Cond.methodLink RX6 102 yX6_starTold, Cond.instanceMethod yX6_starTold, Cond.selects RX6 yX6_starTold yX6_starTold, Cond.code yX6_starTold cX6_starTold 3 (some .int), Cond.fieldLink RX6 13 "StarConsoleModel" "sky" "[I", Cond.methodLink RX6 95 yX6_stands, Cond.instanceMethod yX6_stands, Cond.selects RX6 yX6_stands yX6_stands, Cond.code yX6_stands cX6_stands 2 (some .int), Cond.fieldLink RX6 22 "StarConsoleModel" "numbers" "[I", Cond.methodLink RX6 98 yX6_isSeen, Cond.instanceMethod yX6_isSeen, Cond.selects RX6 yX6_isSeen yX6_isSeen, Cond.code yX6_isSeen cX6_isSeen 3 (some .boolean), Cond.methodLink RX6 92 yX6_glareOf, Cond.instanceMethod yX6_glareOf, Cond.selects RX6 yX6_glareOf yX6_glareOf, Cond.code yX6_glareOf cX6_glareOf 5 (some .int)]
def wsX6_about_r2 : List Cond := [Cond.fieldLink RX6 29 "StarConsoleModel" "dimmers" "I", Cond.methodLink RX6 50 yX6_la, Cond.instanceMethod yX6_la, Cond.selects RX6 yX6_la yX6_la, Cond.code yX6_la cX6_la 3 (some .int), Cond.fieldLink RX6 9 "StarConsoleModel" "lamps" "[I", Cond.methodLink RX6 36 yX6_fail, Cond.instanceMethod yX6_fail, Cond.selects RX6 yX6_fail yX6_fail, Cond.code yX6_fail cX6_fail 2 (some .int)]
def wsX6_about : List Cond := .code yX6_about cX6_about 3 (some .int) :: ((wsX6_about_r1 ++ wsX6_about_r2) ++ wsX60)
def wsX6_cometTold : List Cond := .code yX6_cometTold cX6_cometTold 3 (some .int) :: ([.fieldLink RX6 16 "StarConsoleModel" "tails" "[I", .methodLink RX6 98 yX6_isSeen, .instanceMethod yX6_isSeen, .selects RX6 yX6_isSeen yX6_isSeen, .initialized RX6, .code yX6_isSeen cX6_isSeen 3 (some .boolean), .methodLink RX6 92 yX6_glareOf, .instanceMethod yX6_glareOf, .selects RX6 yX6_glareOf yX6_glareOf, .code yX6_glareOf cX6_glareOf 5 (some .int), .fieldLink RX6 29 "StarConsoleModel" "dimmers" "I", .methodLink RX6 50 yX6_la, .instanceMethod yX6_la, .selects RX6 yX6_la yX6_la, .code yX6_la cX6_la 3 (some .int), .fieldLink RX6 9 "StarConsoleModel" "lamps" "[I"] ++ wsX60)
def wsX6_comet_r1 : List Cond := [Cond.fieldLink RX6 25 "StarConsoleModel" "thrown" "I", Cond.fieldLink RX6 22 "StarConsoleModel" "numbers" "[I", Cond.methodLink RX6 32 yX6_isIn, Cond.static yX6_isIn, Cond.initialized RX6, Cond.code yX6_isIn cX6_isIn 3 (some .boolean), Cond.methodLink RX6 105 yX6_cometTold, Cond.instanceMethod yX6_cometTold, Cond.selects RX6 yX6_cometTold yX6_cometTold, Cond.code yX6_cometTold cX6_cometTold 3 (some .int), Cond.fieldLink RX6 16 "StarConsoleModel" "tails" "[I", Cond.methodLink RX6 98 yX6_isSeen, Cond.instanceMethod yX6_isSeen, Cond.selects RX6 yX6_isSeen yX6_isSeen, Cond.code yX6_isSeen cX6_isSeen 3 (some .boolean), Cond.methodLink RX6 92 yX6_glareOf, Cond.instanceMethod yX6_glareOf, Cond.selects RX6 yX6_glareOf yX6_glareOf, Cond.code yX6_glareOf cX6_glareOf 5 (some .int), Cond.fieldLink RX6 29 "StarConsoleModel" "dimmers" "I", Cond.methodLink RX6 50 yX6_la, Cond.instanceMethod yX6_la, Cond.selects RX6 yX6_la yX6_la, Cond.code yX6_la cX6_la 3 (some .int)]
def wsX6_comet_r2 : List Cond := [Cond.fieldLink RX6 9 "StarConsoleModel" "lamps" "[I", Cond.methodLink RX6 36 yX6_fail, Cond.instanceMethod yX6_fail, Cond.selects RX6 yX6_fail yX6_fail, Cond.code yX6_fail cX6_fail 2 (some .int)]
def wsX6_comet : List Cond := .code yX6_comet cX6_comet 3 (some .int) :: ((wsX6_comet_r1 ++ wsX6_comet_r2) ++ wsX60)
def wsX6_counted_r1 : List Cond := [Cond.fieldLink RX6 22 "StarConsoleModel" "numbers" "[I", Cond.fieldLink RX6 29 "StarConsoleModel" "dimmers" "I", Cond.fieldLink RX6 58 "StarConsoleModel" "stars" "I", Cond.fieldLink RX6 64 "StarConsoleModel" "cues" "I", Cond.methodLink RX6 102 yX6_starTold, Cond.instanceMethod yX6_starTold, Cond.selects RX6 yX6_starTold yX6_starTold, Cond.initialized RX6, Cond.code yX6_starTold cX6_starTold 3 (some .int), Cond.fieldLink RX6 13 "StarConsoleModel" "sky" "[I", Cond.methodLink RX6 95 yX6_stands, Cond.instanceMethod yX6_stands, Cond.selects RX6 yX6_stands yX6_stands, Cond.code yX6_stands cX6_stands 2 (some .int), Cond.methodLink RX6 98 yX6_isSeen, Cond.instanceMethod yX6_isSeen, Cond.selects RX6 yX6_isSeen yX6_isSeen, Cond.code yX6_isSeen cX6_isSeen 3 (some .boolean), Cond.methodLink RX6 92 yX6_glareOf, Cond.instanceMethod yX6_glareOf, Cond.selects RX6 yX6_glareOf yX6_glareOf, Cond.code yX6_glareOf cX6_glareOf 5 (some .int), Cond.methodLink RX6 50 yX6_la, Cond.instanceMethod yX6_la]
def wsX6_counted_r2 : List Cond := [Cond.selects RX6 yX6_la yX6_la, Cond.code yX6_la cX6_la 3 (some .int), Cond.fieldLink RX6 9 "StarConsoleModel" "lamps" "[I", Cond.methodLink RX6 105 yX6_cometTold, Cond.instanceMethod yX6_cometTold, Cond.selects RX6 yX6_cometTold yX6_cometTold, Cond.code yX6_cometTold cX6_cometTold 3 (some .int), Cond.fieldLink RX6 16 "StarConsoleModel" "tails" "[I"]
def wsX6_counted : List Cond := .code yX6_counted cX6_counted 4 (some .int) :: ((wsX6_counted_r1 ++ wsX6_counted_r2) ++ wsX60)
def wsX6_count_r1 : List Cond := [Cond.fieldLink RX6 25 "StarConsoleModel" "thrown" "I", Cond.methodLink RX6 32 yX6_isIn, Cond.static yX6_isIn, Cond.initialized RX6, Cond.code yX6_isIn cX6_isIn 3 (some .boolean), Cond.methodLink RX6 108 yX6_counted, Cond.instanceMethod yX6_counted, Cond.selects RX6 yX6_counted yX6_counted, Cond.code yX6_counted cX6_counted 4 (some .int), Cond.fieldLink RX6 22 "StarConsoleModel" "numbers" "[I", Cond.fieldLink RX6 29 "StarConsoleModel" "dimmers" "I", Cond.fieldLink RX6 58 "StarConsoleModel" "stars" "I", Cond.fieldLink RX6 64 "StarConsoleModel" "cues" "I", Cond.methodLink RX6 102 yX6_starTold, Cond.instanceMethod yX6_starTold, Cond.selects RX6 yX6_starTold yX6_starTold, Cond.code yX6_starTold cX6_starTold 3 (some .int), Cond.fieldLink RX6 13 "StarConsoleModel" "sky" "[I", Cond.methodLink RX6 95 yX6_stands, Cond.instanceMethod yX6_stands, Cond.selects RX6 yX6_stands yX6_stands, Cond.code yX6_stands cX6_stands 2 (some .int), Cond.methodLink RX6 98 yX6_isSeen, Cond.instanceMethod yX6_isSeen]
def wsX6_count_r2 : List Cond := [Cond.selects RX6 yX6_isSeen yX6_isSeen, Cond.code yX6_isSeen cX6_isSeen 3 (some .boolean), Cond.methodLink RX6 92 yX6_glareOf, Cond.instanceMethod yX6_glareOf, Cond.selects RX6 yX6_glareOf yX6_glareOf, Cond.code yX6_glareOf cX6_glareOf 5 (some .int), Cond.methodLink RX6 50 yX6_la, Cond.instanceMethod yX6_la, Cond.selects RX6 yX6_la yX6_la, Cond.code yX6_la cX6_la 3 (some .int), Cond.fieldLink RX6 9 "StarConsoleModel" "lamps" "[I", Cond.methodLink RX6 105 yX6_cometTold, Cond.instanceMethod yX6_cometTold, Cond.selects RX6 yX6_cometTold yX6_cometTold, Cond.code yX6_cometTold cX6_cometTold 3 (some .int), Cond.fieldLink RX6 16 "StarConsoleModel" "tails" "[I", Cond.methodLink RX6 36 yX6_fail, Cond.instanceMethod yX6_fail, Cond.selects RX6 yX6_fail yX6_fail, Cond.code yX6_fail cX6_fail 2 (some .int)]
def wsX6_count : List Cond := .code yX6_count cX6_count 2 (some .int) :: ((wsX6_count_r1 ++ wsX6_count_r2) ++ wsX60)
def wsX6_next : List Cond := .code yX6_next cX6_next 3 (some .int) :: ([.fieldLink RX6 25 "StarConsoleModel" "thrown" "I", .fieldLink RX6 64 "StarConsoleModel" "cues" "I", .fieldLink RX6 19 "StarConsoleModel" "show" "[I", .fieldLink RX6 22 "StarConsoleModel" "numbers" "[I"] ++ wsX60)
def wsX6_when : List Cond := .code yX6_when cX6_when 4 (some .int) :: ([.fieldLink RX6 25 "StarConsoleModel" "thrown" "I", .fieldLink RX6 64 "StarConsoleModel" "cues" "I", .fieldLink RX6 19 "StarConsoleModel" "show" "[I", .fieldLink RX6 22 "StarConsoleModel" "numbers" "[I", .methodLink RX6 32 yX6_isIn, .static yX6_isIn, .initialized RX6, .code yX6_isIn cX6_isIn 3 (some .boolean), .methodLink RX6 36 yX6_fail, .instanceMethod yX6_fail, .selects RX6 yX6_fail yX6_fail, .code yX6_fail cX6_fail 2 (some .int)] ++ wsX60)
def wsX6_kept : List Cond := .code yX6_kept cX6_kept 1 (some (.array (.array .int))) :: ([.classLink RX6 111 "[I", .fieldLink RX6 9 "StarConsoleModel" "lamps" "[I", .methodLink RX6 112 ⟨"[I", "clone", "()Ljava/lang/Object;"⟩, .sameMethod "[I" "java/lang/Object" "clone" "()Ljava/lang/Object;", .native ⟨"java/lang/Object", "clone", "()Ljava/lang/Object;"⟩, .instanceMethod ⟨"java/lang/Object", "clone", "()Ljava/lang/Object;"⟩, .selects "[I" ⟨"[I", "clone", "()Ljava/lang/Object;"⟩ ⟨"java/lang/Object", "clone", "()Ljava/lang/Object;"⟩, .fieldLink RX6 16 "StarConsoleModel" "tails" "[I", .fieldLink RX6 22 "StarConsoleModel" "numbers" "[I"] ++ wsX60)
def wsX6_bringBack : List Cond := .code yX6_bringBack cX6_bringBack 2 none :: ([.fieldLink RX6 9 "StarConsoleModel" "lamps" "[I", .methodLink RX6 40 arraycopyName, .native arraycopyName, .static arraycopyName, .initialized "java/lang/System", .fieldLink RX6 16 "StarConsoleModel" "tails" "[I", .fieldLink RX6 22 "StarConsoleModel" "numbers" "[I"] ++ wsX60)
def wsX6_lasts_r1 : List Cond := [Cond.fieldLink RX6 25 "StarConsoleModel" "thrown" "I", Cond.methodLink RX6 46 yX6_isDimmer, Cond.instanceMethod yX6_isDimmer, Cond.selects RX6 yX6_isDimmer yX6_isDimmer, Cond.initialized RX6, Cond.code yX6_isDimmer cX6_isDimmer 2 (some .boolean), Cond.fieldLink RX6 29 "StarConsoleModel" "dimmers" "I", Cond.methodLink RX6 32 yX6_isIn, Cond.static yX6_isIn, Cond.code yX6_isIn cX6_isIn 3 (some .boolean), Cond.methodLink RX6 36 yX6_fail, Cond.instanceMethod yX6_fail, Cond.selects RX6 yX6_fail yX6_fail, Cond.code yX6_fail cX6_fail 2 (some .int), Cond.methodLink RX6 116 yX6_kept, Cond.instanceMethod yX6_kept, Cond.selects RX6 yX6_kept yX6_kept, Cond.code yX6_kept cX6_kept 1 (some (.array (.array .int))), Cond.classLink RX6 111 "[I", Cond.fieldLink RX6 9 "StarConsoleModel" "lamps" "[I", Cond.methodLink RX6 112 ⟨"[I", "clone", "()Ljava/lang/Object;"⟩, Cond.sameMethod "[I" "java/lang/Object" "clone" "()Ljava/lang/Object;", Cond.native ⟨"java/lang/Object", "clone", "()Ljava/lang/Object;"⟩, Cond.instanceMethod ⟨"java/lang/Object", "clone", "()Ljava/lang/Object;"⟩]
def wsX6_lasts_r2 : List Cond := [Cond.selects "[I" ⟨"[I", "clone", "()Ljava/lang/Object;"⟩ ⟨"java/lang/Object", "clone", "()Ljava/lang/Object;"⟩, Cond.fieldLink RX6 16 "StarConsoleModel" "tails" "[I", Cond.fieldLink RX6 22 "StarConsoleModel" "numbers" "[I", Cond.methodLink RX6 50 yX6_la, Cond.instanceMethod yX6_la, Cond.selects RX6 yX6_la yX6_la, Cond.code yX6_la cX6_la 3 (some .int), Cond.methodLink RX6 85 yX6_tickOn, Cond.instanceMethod yX6_tickOn, Cond.selects RX6 yX6_tickOn yX6_tickOn, Cond.code yX6_tickOn cX6_tickOn 4 (some .int), Cond.fieldLink RX6 64 "StarConsoleModel" "cues" "I", Cond.fieldLink RX6 19 "StarConsoleModel" "show" "[I", Cond.methodLink RX6 75 yX6_carryOut, Cond.instanceMethod yX6_carryOut, Cond.selects RX6 yX6_carryOut yX6_carryOut, Cond.code yX6_carryOut cX6_carryOut 4 none, Cond.methodLink RX6 54 yX6_put, Cond.instanceMethod yX6_put, Cond.selects RX6 yX6_put yX6_put, Cond.code yX6_put cX6_put 4 none, Cond.methodLink RX6 79 yX6_glow, Cond.instanceMethod yX6_glow, Cond.selects RX6 yX6_glow yX6_glow]
def wsX6_lasts_r3 : List Cond := [Cond.code yX6_glow cX6_glow 5 none, Cond.methodLink RX6 67 Lib.Math.min.name, Cond.static Lib.Math.min.name, Cond.initialized "java/lang/Math", Cond.code Lib.Math.min.name Lib.Math.min.code 2 (some .int), Cond.methodLink RX6 72 Lib.Math.max.name, Cond.static Lib.Math.max.name, Cond.code Lib.Math.max.name Lib.Math.max.code 2 (some .int), Cond.methodLink RX6 82 yX6_round, Cond.static yX6_round, Cond.code yX6_round cX6_round 1 (some .int), Cond.methodLink RX6 120 yX6_bringBack, Cond.instanceMethod yX6_bringBack, Cond.selects RX6 yX6_bringBack yX6_bringBack, Cond.code yX6_bringBack cX6_bringBack 2 none, Cond.methodLink RX6 40 arraycopyName, Cond.native arraycopyName, Cond.static arraycopyName, Cond.initialized "java/lang/System"]
def wsX6_lasts : List Cond := .code yX6_lasts cX6_lasts 4 (some .int) :: ((wsX6_lasts_r1 ++ (wsX6_lasts_r2 ++ wsX6_lasts_r3)) ++ wsX60)
def wsX6_foresee_r1 : List Cond := [Cond.fieldLink RX6 25 "StarConsoleModel" "thrown" "I", Cond.methodLink RX6 32 yX6_isIn, Cond.static yX6_isIn, Cond.initialized RX6, Cond.code yX6_isIn cX6_isIn 3 (some .boolean), Cond.methodLink RX6 36 yX6_fail, Cond.instanceMethod yX6_fail, Cond.selects RX6 yX6_fail yX6_fail, Cond.code yX6_fail cX6_fail 2 (some .int), Cond.methodLink RX6 116 yX6_kept, Cond.instanceMethod yX6_kept, Cond.selects RX6 yX6_kept yX6_kept, Cond.code yX6_kept cX6_kept 1 (some (.array (.array .int))), Cond.classLink RX6 111 "[I", Cond.fieldLink RX6 9 "StarConsoleModel" "lamps" "[I", Cond.methodLink RX6 112 ⟨"[I", "clone", "()Ljava/lang/Object;"⟩, Cond.sameMethod "[I" "java/lang/Object" "clone" "()Ljava/lang/Object;", Cond.native ⟨"java/lang/Object", "clone", "()Ljava/lang/Object;"⟩, Cond.instanceMethod ⟨"java/lang/Object", "clone", "()Ljava/lang/Object;"⟩, Cond.selects "[I" ⟨"[I", "clone", "()Ljava/lang/Object;"⟩ ⟨"java/lang/Object", "clone", "()Ljava/lang/Object;"⟩, Cond.fieldLink RX6 16 "StarConsoleModel" "tails" "[I", Cond.fieldLink RX6 22 "StarConsoleModel" "numbers" "[I", Cond.methodLink RX6 89 yX6_ticksOn, Cond.instanceMethod yX6_ticksOn]
def wsX6_foresee_r2 : List Cond := [Cond.selects RX6 yX6_ticksOn yX6_ticksOn, Cond.code yX6_ticksOn cX6_ticksOn 4 (some .int), Cond.methodLink RX6 85 yX6_tickOn, Cond.instanceMethod yX6_tickOn, Cond.selects RX6 yX6_tickOn yX6_tickOn, Cond.code yX6_tickOn cX6_tickOn 4 (some .int), Cond.fieldLink RX6 64 "StarConsoleModel" "cues" "I", Cond.fieldLink RX6 19 "StarConsoleModel" "show" "[I", Cond.fieldLink RX6 29 "StarConsoleModel" "dimmers" "I", Cond.methodLink RX6 75 yX6_carryOut, Cond.instanceMethod yX6_carryOut, Cond.selects RX6 yX6_carryOut yX6_carryOut, Cond.code yX6_carryOut cX6_carryOut 4 none, Cond.methodLink RX6 54 yX6_put, Cond.instanceMethod yX6_put, Cond.selects RX6 yX6_put yX6_put, Cond.code yX6_put cX6_put 4 none, Cond.methodLink RX6 79 yX6_glow, Cond.instanceMethod yX6_glow, Cond.selects RX6 yX6_glow yX6_glow, Cond.code yX6_glow cX6_glow 5 none, Cond.methodLink RX6 67 Lib.Math.min.name, Cond.static Lib.Math.min.name, Cond.initialized "java/lang/Math"]
def wsX6_foresee_r3 : List Cond := [Cond.code Lib.Math.min.name Lib.Math.min.code 2 (some .int), Cond.methodLink RX6 72 Lib.Math.max.name, Cond.static Lib.Math.max.name, Cond.code Lib.Math.max.name Lib.Math.max.code 2 (some .int), Cond.methodLink RX6 50 yX6_la, Cond.instanceMethod yX6_la, Cond.selects RX6 yX6_la yX6_la, Cond.code yX6_la cX6_la 3 (some .int), Cond.methodLink RX6 82 yX6_round, Cond.static yX6_round, Cond.code yX6_round cX6_round 1 (some .int), Cond.methodLink RX6 108 yX6_counted, Cond.instanceMethod yX6_counted, Cond.selects RX6 yX6_counted yX6_counted, Cond.code yX6_counted cX6_counted 4 (some .int), Cond.fieldLink RX6 58 "StarConsoleModel" "stars" "I", Cond.methodLink RX6 102 yX6_starTold, Cond.instanceMethod yX6_starTold, Cond.selects RX6 yX6_starTold yX6_starTold, Cond.code yX6_starTold cX6_starTold 3 (some .int), Cond.fieldLink RX6 13 "StarConsoleModel" "sky" "[I", Cond.methodLink RX6 95 yX6_stands, Cond.instanceMethod yX6_stands, Cond.selects RX6 yX6_stands yX6_stands]
def wsX6_foresee_r4 : List Cond := [Cond.code yX6_stands cX6_stands 2 (some .int), Cond.methodLink RX6 98 yX6_isSeen, Cond.instanceMethod yX6_isSeen, Cond.selects RX6 yX6_isSeen yX6_isSeen, Cond.code yX6_isSeen cX6_isSeen 3 (some .boolean), Cond.methodLink RX6 92 yX6_glareOf, Cond.instanceMethod yX6_glareOf, Cond.selects RX6 yX6_glareOf yX6_glareOf, Cond.code yX6_glareOf cX6_glareOf 5 (some .int), Cond.methodLink RX6 105 yX6_cometTold, Cond.instanceMethod yX6_cometTold, Cond.selects RX6 yX6_cometTold yX6_cometTold, Cond.code yX6_cometTold cX6_cometTold 3 (some .int), Cond.methodLink RX6 120 yX6_bringBack, Cond.instanceMethod yX6_bringBack, Cond.selects RX6 yX6_bringBack yX6_bringBack, Cond.code yX6_bringBack cX6_bringBack 2 none, Cond.methodLink RX6 40 arraycopyName, Cond.native arraycopyName, Cond.static arraycopyName, Cond.initialized "java/lang/System"]
def wsX6_foresee : List Cond := .code yX6_foresee cX6_foresee 5 (some .int) :: ((wsX6_foresee_r1 ++ (wsX6_foresee_r2 ++ (wsX6_foresee_r3 ++ wsX6_foresee_r4))) ++ wsX60)
def wsX6_darkest : List Cond := .code yX6_darkest cX6_darkest 3 (some .int) :: ([.fieldLink RX6 25 "StarConsoleModel" "thrown" "I", .methodLink RX6 92 yX6_glareOf, .instanceMethod yX6_glareOf, .selects RX6 yX6_glareOf yX6_glareOf, .initialized RX6, .code yX6_glareOf cX6_glareOf 5 (some .int), .fieldLink RX6 29 "StarConsoleModel" "dimmers" "I", .methodLink RX6 50 yX6_la, .instanceMethod yX6_la, .selects RX6 yX6_la yX6_la, .code yX6_la cX6_la 3 (some .int), .fieldLink RX6 9 "StarConsoleModel" "lamps" "[I"] ++ wsX60)
def wsX6_mean : List Cond := .code yX6_mean cX6_mean 3 (some .double) :: ([.fieldLink RX6 25 "StarConsoleModel" "thrown" "I", .constantDouble RX6 124 (4622945017495814144), .methodLink RX6 92 yX6_glareOf, .instanceMethod yX6_glareOf, .selects RX6 yX6_glareOf yX6_glareOf, .initialized RX6, .code yX6_glareOf cX6_glareOf 5 (some .int), .fieldLink RX6 29 "StarConsoleModel" "dimmers" "I", .methodLink RX6 50 yX6_la, .instanceMethod yX6_la, .selects RX6 yX6_la yX6_la, .code yX6_la cX6_la 3 (some .int), .fieldLink RX6 9 "StarConsoleModel" "lamps" "[I"] ++ wsX60)
def wsX6_digest_r1 : List Cond := [Cond.fieldLink RX6 25 "StarConsoleModel" "thrown" "I", Cond.constantLong RX6 126 (1109), Cond.constantLong RX6 128 (31), Cond.fieldLink RX6 29 "StarConsoleModel" "dimmers" "I", Cond.fieldLink RX6 9 "StarConsoleModel" "lamps" "[I", Cond.fieldLink RX6 58 "StarConsoleModel" "stars" "I", Cond.fieldLink RX6 22 "StarConsoleModel" "numbers" "[I", Cond.fieldLink RX6 64 "StarConsoleModel" "cues" "I", Cond.fieldLink RX6 19 "StarConsoleModel" "show" "[I", Cond.methodLink RX6 108 yX6_counted, Cond.instanceMethod yX6_counted, Cond.selects RX6 yX6_counted yX6_counted, Cond.initialized RX6, Cond.code yX6_counted cX6_counted 4 (some .int), Cond.methodLink RX6 102 yX6_starTold, Cond.instanceMethod yX6_starTold, Cond.selects RX6 yX6_starTold yX6_starTold, Cond.code yX6_starTold cX6_starTold 3 (some .int), Cond.fieldLink RX6 13 "StarConsoleModel" "sky" "[I", Cond.methodLink RX6 95 yX6_stands, Cond.instanceMethod yX6_stands, Cond.selects RX6 yX6_stands yX6_stands, Cond.code yX6_stands cX6_stands 2 (some .int), Cond.methodLink RX6 98 yX6_isSeen]
def wsX6_digest_r2 : List Cond := [Cond.instanceMethod yX6_isSeen, Cond.selects RX6 yX6_isSeen yX6_isSeen, Cond.code yX6_isSeen cX6_isSeen 3 (some .boolean), Cond.methodLink RX6 92 yX6_glareOf, Cond.instanceMethod yX6_glareOf, Cond.selects RX6 yX6_glareOf yX6_glareOf, Cond.code yX6_glareOf cX6_glareOf 5 (some .int), Cond.methodLink RX6 50 yX6_la, Cond.instanceMethod yX6_la, Cond.selects RX6 yX6_la yX6_la, Cond.code yX6_la cX6_la 3 (some .int), Cond.methodLink RX6 105 yX6_cometTold, Cond.instanceMethod yX6_cometTold, Cond.selects RX6 yX6_cometTold yX6_cometTold, Cond.code yX6_cometTold cX6_cometTold 3 (some .int), Cond.fieldLink RX6 16 "StarConsoleModel" "tails" "[I"]
def wsX6_digest : List Cond := .code yX6_digest cX6_digest 5 (some .long) :: ((wsX6_digest_r1 ++ wsX6_digest_r2) ++ wsX60)
def wsJ9_max_7cf53 : List Cond := .code yJ9_max_7cf53 cJ9_max_7cf53 2 (some .int) :: ([])
def wsJ9_min_7cf53 : List Cond := .code yJ9_min_7cf53 cJ9_min_7cf53 2 (some .int) :: ([])
def wsL_dimmer_r1 : List Cond := [Cond.classLink RL 13 "java/lang/IllegalArgumentException", Cond.classLink RL 15 "java/lang/IllegalStateException", Cond.methodLink RL 7 yX5_dimmer, Cond.instanceMethod yX5_dimmer, Cond.selects RX5 yX5_dimmer yX5_dimmer, Cond.initialized RX5, Cond.code yX5_dimmer cX5_dimmer 4 (some .int), Cond.classLink RX5 37 "java/lang/IllegalArgumentException", Cond.initialized "java/lang/IllegalArgumentException", Cond.classLink RX5 58 "java/lang/IllegalStateException", Cond.initialized "java/lang/IllegalStateException", Cond.fieldLink RX5 26 "StarConsole" "show" "LStarConsole$Show;", Cond.fieldLink RX5 48 "StarConsole$Show" "dimmers" "LStarConsole$Dimmers;", Cond.fieldLink RX5 52 "StarConsole$Dimmers" "size" "I", Cond.methodLink RX5 33 yX5_within, Cond.static yX5_within, Cond.code yX5_within cX5_within 3 (some .boolean), Cond.methodLink RX5 63 yX2_add, Cond.instanceMethod yX2_add, Cond.selects RX2 yX2_add yX2_add, Cond.initialized RX2, Cond.code yX2_add cX2_add 5 (some .int), Cond.fieldLink RX2 27 "StarConsole$Dimmers" "size" "I", Cond.fieldLink RX2 9 "StarConsole$Dimmers" "part" "[I"]
def wsL_dimmer_r2 : List Cond := [Cond.fieldLink RX2 15 "StarConsole$Dimmers" "level" "[I", Cond.fieldLink RX2 18 "StarConsole$Dimmers" "aim" "[I", Cond.fieldLink RX2 21 "StarConsole$Dimmers" "pace" "[I", Cond.fieldLink RX2 24 "StarConsole$Dimmers" "life" "[I"]
def wsL_dimmer : List Cond := .codeWith yL_dimmer cL_dimmer 6 (some .int) [(0, 12, 15, 13), (0, 12, 19, 15)] :: ((wsL_dimmer_r1 ++ wsL_dimmer_r2) ++ wsX50 ++ wsX30 ++ wsX20 ++ (vx_atS RX5 41 "java/lang/IllegalArgumentException" ["java/lang/RuntimeException", "java/lang/Exception"]).filter goodWord ++ (vx_atS RX5 62 "java/lang/IllegalStateException" ["java/lang/RuntimeException", "java/lang/Exception"]).filter goodWord)
def wsL_lamp_r1 : List Cond := [Cond.classLink RL 21 "java/lang/IndexOutOfBoundsException", Cond.classLink RL 13 "java/lang/IllegalArgumentException", Cond.methodLink RL 17 yX5_lamp, Cond.instanceMethod yX5_lamp, Cond.selects RX5 yX5_lamp yX5_lamp, Cond.initialized RX5, Cond.code yX5_lamp cX5_lamp 3 (some .int), Cond.classLink RX5 71 "java/lang/IndexOutOfBoundsException", Cond.initialized "java/lang/IndexOutOfBoundsException", Cond.classLink RX5 37 "java/lang/IllegalArgumentException", Cond.initialized "java/lang/IllegalArgumentException", Cond.fieldLink RX5 26 "StarConsole" "show" "LStarConsole$Show;", Cond.fieldLink RX5 48 "StarConsole$Show" "dimmers" "LStarConsole$Dimmers;", Cond.methodLink RX5 67 yX2_has, Cond.instanceMethod yX2_has, Cond.selects RX2 yX2_has yX2_has, Cond.initialized RX2, Cond.code yX2_has cX2_has 2 (some .boolean), Cond.fieldLink RX2 27 "StarConsole$Dimmers" "size" "I", Cond.methodLink RX5 33 yX5_within, Cond.static yX5_within, Cond.code yX5_within cX5_within 3 (some .boolean), Cond.methodLink RX5 76 yX2_changeLamp, Cond.instanceMethod yX2_changeLamp]
def wsL_lamp_r2 : List Cond := [Cond.selects RX2 yX2_changeLamp yX2_changeLamp, Cond.code yX2_changeLamp cX2_changeLamp 4 (some .int), Cond.fieldLink RX2 24 "StarConsole$Dimmers" "life" "[I", Cond.methodLink RX2 31 yX2_has, Cond.methodLink RX2 35 yX2_darkenWithoutLife, Cond.instanceMethod yX2_darkenWithoutLife, Cond.selects RX2 yX2_darkenWithoutLife yX2_darkenWithoutLife, Cond.code yX2_darkenWithoutLife cX2_darkenWithoutLife 2 none, Cond.fieldLink RX2 15 "StarConsole$Dimmers" "level" "[I"]
def wsL_lamp : List Cond := .codeWith yL_lamp cL_lamp 5 (some .int) [(0, 10, 13, 21), (0, 10, 17, 13)] :: ((wsL_lamp_r1 ++ wsL_lamp_r2) ++ wsX50 ++ wsX30 ++ wsX20 ++ (vx_atS RX5 75 "java/lang/IndexOutOfBoundsException" ["java/lang/RuntimeException", "java/lang/Exception"]).filter goodWord ++ (vx_atS RX5 41 "java/lang/IllegalArgumentException" ["java/lang/RuntimeException", "java/lang/Exception"]).filter goodWord)
def wsL_star : List Cond := .codeWith yL_star cL_star 5 (some .int) [(0, 10, 13, 13), (0, 10, 17, 15)] :: ([.classLink RL 13 "java/lang/IllegalArgumentException", .classLink RL 15 "java/lang/IllegalStateException", .methodLink RL 23 yX5_star, .instanceMethod yX5_star, .selects RX5 yX5_star yX5_star, .initialized RX5, .code yX5_star cX5_star 3 (some .int), .classLink RX5 37 "java/lang/IllegalArgumentException", .initialized "java/lang/IllegalArgumentException", .classLink RX5 58 "java/lang/IllegalStateException", .initialized "java/lang/IllegalStateException", .fieldLink RX5 10 "StarConsole" "stars" "LStarConsole$Stars;", .fieldLink RX5 84 "StarConsole$Stars" "size" "I", .methodLink RX5 33 yX5_within, .static yX5_within, .code yX5_within cX5_within 3 (some .boolean), .methodLink RX5 87 yX4_add, .instanceMethod yX4_add, .selects RX4 yX4_add yX4_add, .initialized RX4, .code yX4_add cX4_add 4 (some .int), .fieldLink RX4 18 "StarConsole$Stars" "size" "I", .fieldLink RX4 9 "StarConsole$Stars" "degree" "[I", .fieldLink RX4 15 "StarConsole$Stars" "light" "[I"] ++ wsX50 ++ wsX40 ++ (vx_atS RX5 41 "java/lang/IllegalArgumentException" ["java/lang/RuntimeException", "java/lang/Exception"]).filter goodWord ++ (vx_atS RX5 62 "java/lang/IllegalStateException" ["java/lang/RuntimeException", "java/lang/Exception"]).filter goodWord)
def wsL_cue_r1 : List Cond := [Cond.classLink RL 13 "java/lang/IllegalArgumentException", Cond.classLink RL 15 "java/lang/IllegalStateException", Cond.methodLink RL 26 yX5_cue, Cond.instanceMethod yX5_cue, Cond.selects RX5 yX5_cue yX5_cue, Cond.initialized RX5, Cond.code yX5_cue cX5_cue 5 (some .int), Cond.classLink RX5 37 "java/lang/IllegalArgumentException", Cond.initialized "java/lang/IllegalArgumentException", Cond.classLink RX5 58 "java/lang/IllegalStateException", Cond.initialized "java/lang/IllegalStateException", Cond.fieldLink RX5 19 "StarConsole" "cues" "LStarConsole$Cues;", Cond.fieldLink RX5 98 "StarConsole$Cues" "size" "I", Cond.methodLink RX5 33 yX5_within, Cond.static yX5_within, Cond.code yX5_within cX5_within 3 (some .boolean), Cond.methodLink RX5 93 yX5_suits, Cond.instanceMethod yX5_suits, Cond.selects RX5 yX5_suits yX5_suits, Cond.code yX5_suits cX5_suits 4 (some .boolean), Cond.fieldLink RX5 26 "StarConsole" "show" "LStarConsole$Show;", Cond.fieldLink RX5 48 "StarConsole$Show" "dimmers" "LStarConsole$Dimmers;", Cond.methodLink RX5 67 yX2_has, Cond.instanceMethod yX2_has]
def wsL_cue_r2 : List Cond := [Cond.selects RX2 yX2_has yX2_has, Cond.initialized RX2, Cond.code yX2_has cX2_has 2 (some .boolean), Cond.fieldLink RX2 27 "StarConsole$Dimmers" "size" "I", Cond.methodLink RX5 101 yX1_add, Cond.instanceMethod yX1_add, Cond.selects RX1 yX1_add yX1_add, Cond.initialized RX1, Cond.code yX1_add cX1_add 6 (some .int), Cond.fieldLink RX1 24 "StarConsole$Cues" "size" "I", Cond.fieldLink RX1 9 "StarConsole$Cues" "time" "[I", Cond.fieldLink RX1 15 "StarConsole$Cues" "kind" "[I", Cond.fieldLink RX1 18 "StarConsole$Cues" "a" "[I", Cond.fieldLink RX1 21 "StarConsole$Cues" "b" "[I"]
def wsL_cue : List Cond := .codeWith yL_cue cL_cue 7 (some .int) [(0, 14, 17, 13), (0, 14, 21, 15)] :: ((wsL_cue_r1 ++ wsL_cue_r2) ++ wsX50 ++ wsX10 ++ wsX30 ++ wsX20 ++ (vx_atS RX5 41 "java/lang/IllegalArgumentException" ["java/lang/RuntimeException", "java/lang/Exception"]).filter goodWord ++ (vx_atS RX5 62 "java/lang/IllegalStateException" ["java/lang/RuntimeException", "java/lang/Exception"]).filter goodWord)
def wsL_jump : List Cond := .codeWith yL_jump cL_jump 4 (some .int) [(0, 9, 12, 13)] :: ([.classLink RL 13 "java/lang/IllegalArgumentException", .methodLink RL 30 yX5_jump, .instanceMethod yX5_jump, .selects RX5 yX5_jump yX5_jump, .initialized RX5, .code yX5_jump cX5_jump 3 (some .int), .classLink RX5 37 "java/lang/IllegalArgumentException", .initialized "java/lang/IllegalArgumentException", .fieldLink RX5 26 "StarConsole" "show" "LStarConsole$Show;", .fieldLink RX5 110 "StarConsole$Show" "clock" "I", .methodLink RX5 33 yX5_within, .static yX5_within, .code yX5_within cX5_within 3 (some .boolean)] ++ wsX50 ++ wsX30 ++ (vx_atS RX5 41 "java/lang/IllegalArgumentException" ["java/lang/RuntimeException", "java/lang/Exception"]).filter goodWord)
def wsL_fade_r1 : List Cond := [Cond.classLink RL 21 "java/lang/IndexOutOfBoundsException", Cond.classLink RL 13 "java/lang/IllegalArgumentException", Cond.methodLink RL 34 yX5_fade, Cond.instanceMethod yX5_fade, Cond.selects RX5 yX5_fade yX5_fade, Cond.initialized RX5, Cond.code yX5_fade cX5_fade 3 (some .int), Cond.classLink RX5 71 "java/lang/IndexOutOfBoundsException", Cond.initialized "java/lang/IndexOutOfBoundsException", Cond.classLink RX5 37 "java/lang/IllegalArgumentException", Cond.initialized "java/lang/IllegalArgumentException", Cond.fieldLink RX5 26 "StarConsole" "show" "LStarConsole$Show;", Cond.fieldLink RX5 48 "StarConsole$Show" "dimmers" "LStarConsole$Dimmers;", Cond.methodLink RX5 67 yX2_has, Cond.instanceMethod yX2_has, Cond.selects RX2 yX2_has yX2_has, Cond.initialized RX2, Cond.code yX2_has cX2_has 2 (some .boolean), Cond.fieldLink RX2 27 "StarConsole$Dimmers" "size" "I", Cond.methodLink RX5 33 yX5_within, Cond.static yX5_within, Cond.code yX5_within cX5_within 3 (some .boolean), Cond.methodLink RX5 115 yX2_changeAim, Cond.instanceMethod yX2_changeAim]
def wsL_fade_r2 : List Cond := [Cond.selects RX2 yX2_changeAim yX2_changeAim, Cond.code yX2_changeAim cX2_changeAim 4 (some .int), Cond.fieldLink RX2 18 "StarConsole$Dimmers" "aim" "[I", Cond.methodLink RX2 31 yX2_has]
def wsL_fade : List Cond := .codeWith yL_fade cL_fade 5 (some .int) [(0, 10, 13, 21), (0, 10, 17, 13)] :: ((wsL_fade_r1 ++ wsL_fade_r2) ++ wsX50 ++ wsX30 ++ wsX20 ++ (vx_atS RX5 75 "java/lang/IndexOutOfBoundsException" ["java/lang/RuntimeException", "java/lang/Exception"]).filter goodWord ++ (vx_atS RX5 41 "java/lang/IllegalArgumentException" ["java/lang/RuntimeException", "java/lang/Exception"]).filter goodWord)
def wsL_pass_r1 : List Cond := [Cond.classLink RL 13 "java/lang/IllegalArgumentException", Cond.methodLink RL 37 yX5_pass, Cond.instanceMethod yX5_pass, Cond.selects RX5 yX5_pass yX5_pass, Cond.initialized RX5, Cond.code yX5_pass cX5_pass 2 (some .int), Cond.classLink RX5 37 "java/lang/IllegalArgumentException", Cond.initialized "java/lang/IllegalArgumentException", Cond.fieldLink RX5 26 "StarConsole" "show" "LStarConsole$Show;", Cond.fieldLink RX5 19 "StarConsole" "cues" "LStarConsole$Cues;", Cond.methodLink RX5 33 yX5_within, Cond.static yX5_within, Cond.code yX5_within cX5_within 3 (some .boolean), Cond.methodLink RX5 120 yX3_goOnFor, Cond.instanceMethod yX3_goOnFor, Cond.selects RX3 yX3_goOnFor yX3_goOnFor, Cond.initialized RX3, Cond.code yX3_goOnFor cX3_goOnFor 5 (some .int), Cond.methodLink RX3 55 yX3_goOn, Cond.instanceMethod yX3_goOn, Cond.selects RX3 yX3_goOn yX3_goOn, Cond.code yX3_goOn cX3_goOn 3 (some .int), Cond.fieldLink RX3 35 "StarConsole$Show" "clockRuns" "Z", Cond.fieldLink RX3 18 "StarConsole$Show" "dimmers" "LStarConsole$Dimmers;"]
def wsL_pass_r2 : List Cond := [Cond.fieldLink RX3 39 "StarConsole$Show" "ballAngle" "I", Cond.fieldLink RX3 42 "StarConsole$Show" "ballSpeed" "I", Cond.fieldLink RX3 25 "StarConsole$Show" "comets" "LStarConsole$Comets;", Cond.fieldLink RX3 29 "StarConsole$Show" "tick" "I", Cond.methodLink RX3 59 yX3_runCues, Cond.instanceMethod yX3_runCues, Cond.selects RX3 yX3_runCues yX3_runCues, Cond.code yX3_runCues cX3_runCues 4 (some .int), Cond.fieldLink RX3 72 "StarConsole$Cues" "size" "I", Cond.fieldLink RX3 77 "StarConsole$Cues" "time" "[I", Cond.fieldLink RX3 32 "StarConsole$Show" "clock" "I", Cond.fieldLink RX3 81 "StarConsole$Cues" "kind" "[I", Cond.fieldLink RX3 84 "StarConsole$Cues" "a" "[I", Cond.fieldLink RX3 87 "StarConsole$Cues" "b" "[I", Cond.methodLink RX3 90 yX3_obey, Cond.instanceMethod yX3_obey, Cond.selects RX3 yX3_obey yX3_obey, Cond.code yX3_obey cX3_obey 4 none, Cond.fieldLink RX3 9 "StarConsole$Show" "line" "I", Cond.fieldLink RX3 45 "StarConsole$Show" "speechLeft" "I", Cond.methodLink RX3 94 yX2_changeAim, Cond.instanceMethod yX2_changeAim, Cond.selects RX2 yX2_changeAim yX2_changeAim, Cond.initialized RX2]
def wsL_pass_r3 : List Cond := [Cond.code yX2_changeAim cX2_changeAim 4 (some .int), Cond.fieldLink RX2 18 "StarConsole$Dimmers" "aim" "[I", Cond.methodLink RX2 31 yX2_has, Cond.instanceMethod yX2_has, Cond.selects RX2 yX2_has yX2_has, Cond.code yX2_has cX2_has 2 (some .boolean), Cond.fieldLink RX2 27 "StarConsole$Dimmers" "size" "I", Cond.methodLink RX3 97 yX0_addIfRoom, Cond.instanceMethod yX0_addIfRoom, Cond.selects RX0 yX0_addIfRoom yX0_addIfRoom, Cond.initialized RX0, Cond.code yX0_addIfRoom cX0_addIfRoom 4 none, Cond.fieldLink RX0 21 "StarConsole$Comets" "size" "I", Cond.fieldLink RX0 9 "StarConsole$Comets" "angle" "[I", Cond.fieldLink RX0 15 "StarConsole$Comets" "speed" "[I", Cond.fieldLink RX0 18 "StarConsole$Comets" "left" "[I", Cond.methodLink RX3 62 yX2_goOn, Cond.instanceMethod yX2_goOn, Cond.selects RX2 yX2_goOn yX2_goOn, Cond.code yX2_goOn cX2_goOn 2 none, Cond.fieldLink RX2 15 "StarConsole$Dimmers" "level" "[I", Cond.fieldLink RX2 21 "StarConsole$Dimmers" "pace" "[I", Cond.fieldLink RX2 24 "StarConsole$Dimmers" "life" "[I", Cond.methodLink RX2 43 Lib.Math.max.name]
def wsL_pass_r4 : List Cond := [Cond.static Lib.Math.max.name, Cond.initialized "java/lang/Math", Cond.code Lib.Math.max.name Lib.Math.max.code 2 (some .int), Cond.methodLink RX2 39 yX2_approached, Cond.static yX2_approached, Cond.code yX2_approached cX2_approached 3 (some .int), Cond.methodLink RX2 49 Lib.Math.min.name, Cond.static Lib.Math.min.name, Cond.code Lib.Math.min.name Lib.Math.min.code 2 (some .int), Cond.methodLink RX2 35 yX2_darkenWithoutLife, Cond.instanceMethod yX2_darkenWithoutLife, Cond.selects RX2 yX2_darkenWithoutLife yX2_darkenWithoutLife, Cond.code yX2_darkenWithoutLife cX2_darkenWithoutLife 2 none, Cond.static yX5_turned, Cond.code yX5_turned cX5_turned 2 (some .int), Cond.methodLink RX5 213 yJ9_floorMod_7cf53, Cond.static yJ9_floorMod_7cf53, Cond.initialized RJ9, Cond.code yJ9_floorMod_7cf53 cJ9_floorMod_7cf53 3 (some .int), Cond.methodLink RX3 68 yX0_goOn, Cond.instanceMethod yX0_goOn, Cond.selects RX0 yX0_goOn yX0_goOn, Cond.code yX0_goOn cX0_goOn 2 none, Cond.methodLink RX3 69 yX3_speakOn]
def wsL_pass_r5 : List Cond := [Cond.instanceMethod yX3_speakOn, Cond.selects RX3 yX3_speakOn yX3_speakOn, Cond.code yX3_speakOn cX3_speakOn 1 none]
def wsL_pass : List Cond := .codeWith yL_pass cL_pass 4 (some .int) [(0, 9, 12, 13)] :: ((wsL_pass_r1 ++ (wsL_pass_r2 ++ (wsL_pass_r3 ++ (wsL_pass_r4 ++ wsL_pass_r5)))) ++ wsX50 ++ wsX30 ++ wsX10 ++ wsX20 ++ wsX00 ++ (vx_atS RX5 41 "java/lang/IllegalArgumentException" ["java/lang/RuntimeException", "java/lang/Exception"]).filter goodWord)
def wsL_told_r1 : List Cond := [Cond.classLink RL 21 "java/lang/IndexOutOfBoundsException", Cond.methodLink RL 40 yX5_told, Cond.instanceMethod yX5_told, Cond.selects RX5 yX5_told yX5_told, Cond.initialized RX5, Cond.code yX5_told cX5_told 3 (some .int), Cond.classLink RX5 71 "java/lang/IndexOutOfBoundsException", Cond.initialized "java/lang/IndexOutOfBoundsException", Cond.fieldLink RX5 26 "StarConsole" "show" "LStarConsole$Show;", Cond.fieldLink RX5 48 "StarConsole$Show" "dimmers" "LStarConsole$Dimmers;", Cond.methodLink RX5 67 yX2_has, Cond.instanceMethod yX2_has, Cond.selects RX2 yX2_has yX2_has, Cond.initialized RX2, Cond.code yX2_has cX2_has 2 (some .boolean), Cond.fieldLink RX2 27 "StarConsole$Dimmers" "size" "I", Cond.methodLink RX5 33 yX5_within, Cond.static yX5_within, Cond.code yX5_within cX5_within 3 (some .boolean), Cond.methodLink RX5 126 yX2_fact, Cond.instanceMethod yX2_fact, Cond.selects RX2 yX2_fact yX2_fact, Cond.code yX2_fact cX2_fact 3 (some .int), Cond.fieldLink RX2 9 "StarConsole$Dimmers" "part" "[I"]
def wsL_told_r2 : List Cond := [Cond.fieldLink RX2 15 "StarConsole$Dimmers" "level" "[I", Cond.fieldLink RX2 18 "StarConsole$Dimmers" "aim" "[I", Cond.fieldLink RX2 21 "StarConsole$Dimmers" "pace" "[I", Cond.fieldLink RX2 24 "StarConsole$Dimmers" "life" "[I", Cond.methodLink RX2 31 yX2_has]
def wsL_told : List Cond := .codeWith yL_told cL_told 5 (some .int) [(0, 10, 13, 21)] :: ((wsL_told_r1 ++ wsL_told_r2) ++ wsX50 ++ wsX30 ++ wsX20 ++ (vx_atS RX5 75 "java/lang/IndexOutOfBoundsException" ["java/lang/RuntimeException", "java/lang/Exception"]).filter goodWord)
def wsL_glare_r1 : List Cond := [Cond.classLink RL 21 "java/lang/IndexOutOfBoundsException", Cond.methodLink RL 43 yX5_glare, Cond.instanceMethod yX5_glare, Cond.selects RX5 yX5_glare yX5_glare, Cond.initialized RX5, Cond.code yX5_glare cX5_glare 2 (some .int), Cond.classLink RX5 71 "java/lang/IndexOutOfBoundsException", Cond.initialized "java/lang/IndexOutOfBoundsException", Cond.fieldLink RX5 26 "StarConsole" "show" "LStarConsole$Show;", Cond.fieldLink RX5 48 "StarConsole$Show" "dimmers" "LStarConsole$Dimmers;", Cond.methodLink RX5 33 yX5_within, Cond.static yX5_within, Cond.code yX5_within cX5_within 3 (some .boolean), Cond.methodLink RX5 129 yX2_glareOn, Cond.instanceMethod yX2_glareOn, Cond.selects RX2 yX2_glareOn yX2_glareOn, Cond.initialized RX2, Cond.code yX2_glareOn cX2_glareOn 5 (some .int), Cond.fieldLink RX2 27 "StarConsole$Dimmers" "size" "I", Cond.fieldLink RX2 9 "StarConsole$Dimmers" "part" "[I", Cond.fieldLink RX2 15 "StarConsole$Dimmers" "level" "[I", Cond.methodLink RX2 52 yJ9_floorMod_7cf53, Cond.static yJ9_floorMod_7cf53, Cond.initialized RJ9]
def wsL_glare_r2 : List Cond := [Cond.code yJ9_floorMod_7cf53 cJ9_floorMod_7cf53 3 (some .int)]
def wsL_glare : List Cond := .codeWith yL_glare cL_glare 4 (some .int) [(0, 9, 12, 21)] :: ((wsL_glare_r1 ++ wsL_glare_r2) ++ wsX50 ++ wsX30 ++ wsX20 ++ (vx_atS RX5 75 "java/lang/IndexOutOfBoundsException" ["java/lang/RuntimeException", "java/lang/Exception"]).filter goodWord)
def wsL_about_r1 : List Cond := [Cond.classLink RL 21 "java/lang/IndexOutOfBoundsException", Cond.methodLink RL 46 yX5_about, Cond.instanceMethod yX5_about, Cond.selects RX5 yX5_about yX5_about, Cond.initialized RX5, Cond.code yX5_about cX5_about 3 (some .int), Cond.classLink RX5 71 "java/lang/IndexOutOfBoundsException", Cond.initialized "java/lang/IndexOutOfBoundsException", Cond.fieldLink RX5 10 "StarConsole" "stars" "LStarConsole$Stars;", Cond.fieldLink RX5 26 "StarConsole" "show" "LStarConsole$Show;", Cond.methodLink RX5 133 yX4_has, Cond.instanceMethod yX4_has, Cond.selects RX4 yX4_has yX4_has, Cond.initialized RX4, Cond.code yX4_has cX4_has 2 (some .boolean), Cond.fieldLink RX4 18 "StarConsole$Stars" "size" "I", Cond.methodLink RX5 33 yX5_within, Cond.static yX5_within, Cond.code yX5_within cX5_within 3 (some .boolean), Cond.methodLink RX5 138 yX3_factOfStar, Cond.instanceMethod yX3_factOfStar, Cond.selects RX3 yX3_factOfStar yX3_factOfStar, Cond.initialized RX3, Cond.code yX3_factOfStar cX3_factOfStar 4 (some .int)]
def wsL_about_r2 : List Cond := [Cond.fieldLink RX3 118 "StarConsole$Stars" "degree" "[I", Cond.fieldLink RX3 121 "StarConsole$Stars" "light" "[I", Cond.fieldLink RX3 39 "StarConsole$Show" "ballAngle" "I", Cond.methodLink RX3 114 yX4_has, Cond.static yX5_turned, Cond.code yX5_turned cX5_turned 2 (some .int), Cond.methodLink RX5 213 yJ9_floorMod_7cf53, Cond.static yJ9_floorMod_7cf53, Cond.initialized RJ9, Cond.code yJ9_floorMod_7cf53 cJ9_floorMod_7cf53 3 (some .int), Cond.methodLink RX3 124 yX3_starSeen, Cond.instanceMethod yX3_starSeen, Cond.selects RX3 yX3_starSeen yX3_starSeen, Cond.code yX3_starSeen cX3_starSeen 3 (some .boolean), Cond.methodLink RX3 141 yX3_outshines, Cond.instanceMethod yX3_outshines, Cond.selects RX3 yX3_outshines yX3_outshines, Cond.code yX3_outshines cX3_outshines 3 (some .boolean), Cond.fieldLink RX3 18 "StarConsole$Show" "dimmers" "LStarConsole$Dimmers;", Cond.methodLink RX3 145 yX2_glareOn, Cond.instanceMethod yX2_glareOn, Cond.selects RX2 yX2_glareOn yX2_glareOn, Cond.initialized RX2, Cond.code yX2_glareOn cX2_glareOn 5 (some .int)]
def wsL_about_r3 : List Cond := [Cond.fieldLink RX2 27 "StarConsole$Dimmers" "size" "I", Cond.fieldLink RX2 9 "StarConsole$Dimmers" "part" "[I", Cond.fieldLink RX2 15 "StarConsole$Dimmers" "level" "[I", Cond.methodLink RX2 52 yJ9_floorMod_7cf53]
def wsL_about : List Cond := .codeWith yL_about cL_about 5 (some .int) [(0, 10, 13, 21)] :: ((wsL_about_r1 ++ (wsL_about_r2 ++ wsL_about_r3)) ++ wsX50 ++ wsX40 ++ wsX30 ++ wsX20 ++ (vx_atS RX5 75 "java/lang/IndexOutOfBoundsException" ["java/lang/RuntimeException", "java/lang/Exception"]).filter goodWord)
def wsL_comet_r1 : List Cond := [Cond.classLink RL 21 "java/lang/IndexOutOfBoundsException", Cond.methodLink RL 49 yX5_comet, Cond.instanceMethod yX5_comet, Cond.selects RX5 yX5_comet yX5_comet, Cond.initialized RX5, Cond.code yX5_comet cX5_comet 3 (some .int), Cond.classLink RX5 71 "java/lang/IndexOutOfBoundsException", Cond.initialized "java/lang/IndexOutOfBoundsException", Cond.fieldLink RX5 26 "StarConsole" "show" "LStarConsole$Show;", Cond.fieldLink RX5 142 "StarConsole$Show" "comets" "LStarConsole$Comets;", Cond.methodLink RX5 146 yX0_has, Cond.instanceMethod yX0_has, Cond.selects RX0 yX0_has yX0_has, Cond.initialized RX0, Cond.code yX0_has cX0_has 2 (some .boolean), Cond.fieldLink RX0 21 "StarConsole$Comets" "size" "I", Cond.methodLink RX5 33 yX5_within, Cond.static yX5_within, Cond.code yX5_within cX5_within 3 (some .boolean), Cond.methodLink RX5 151 yX3_factOfComet, Cond.instanceMethod yX3_factOfComet, Cond.selects RX3 yX3_factOfComet yX3_factOfComet, Cond.initialized RX3, Cond.code yX3_factOfComet cX3_factOfComet 3 (some .int)]
def wsL_comet_r2 : List Cond := [Cond.fieldLink RX3 25 "StarConsole$Show" "comets" "LStarConsole$Comets;", Cond.fieldLink RX3 129 "StarConsole$Comets" "angle" "[I", Cond.fieldLink RX3 132 "StarConsole$Comets" "speed" "[I", Cond.fieldLink RX3 135 "StarConsole$Comets" "left" "[I", Cond.methodLink RX3 128 yX0_has, Cond.methodLink RX3 138 yX3_cometSeen, Cond.instanceMethod yX3_cometSeen, Cond.selects RX3 yX3_cometSeen yX3_cometSeen, Cond.code yX3_cometSeen cX3_cometSeen 2 (some .boolean), Cond.methodLink RX3 141 yX3_outshines, Cond.instanceMethod yX3_outshines, Cond.selects RX3 yX3_outshines yX3_outshines, Cond.code yX3_outshines cX3_outshines 3 (some .boolean), Cond.fieldLink RX3 18 "StarConsole$Show" "dimmers" "LStarConsole$Dimmers;", Cond.methodLink RX3 145 yX2_glareOn, Cond.instanceMethod yX2_glareOn, Cond.selects RX2 yX2_glareOn yX2_glareOn, Cond.initialized RX2, Cond.code yX2_glareOn cX2_glareOn 5 (some .int), Cond.fieldLink RX2 27 "StarConsole$Dimmers" "size" "I", Cond.fieldLink RX2 9 "StarConsole$Dimmers" "part" "[I", Cond.fieldLink RX2 15 "StarConsole$Dimmers" "level" "[I", Cond.methodLink RX2 52 yJ9_floorMod_7cf53, Cond.static yJ9_floorMod_7cf53]
def wsL_comet_r3 : List Cond := [Cond.initialized RJ9, Cond.code yJ9_floorMod_7cf53 cJ9_floorMod_7cf53 3 (some .int)]
def wsL_comet : List Cond := .codeWith yL_comet cL_comet 5 (some .int) [(0, 10, 13, 21)] :: ((wsL_comet_r1 ++ (wsL_comet_r2 ++ wsL_comet_r3)) ++ wsX50 ++ wsX30 ++ wsX00 ++ wsX20 ++ (vx_atS RX5 75 "java/lang/IndexOutOfBoundsException" ["java/lang/RuntimeException", "java/lang/Exception"]).filter goodWord)
def wsL_count_r1 : List Cond := [Cond.classLink RL 21 "java/lang/IndexOutOfBoundsException", Cond.methodLink RL 52 yX5_count, Cond.instanceMethod yX5_count, Cond.selects RX5 yX5_count yX5_count, Cond.initialized RX5, Cond.code yX5_count cX5_count 2 (some .int), Cond.classLink RX5 71 "java/lang/IndexOutOfBoundsException", Cond.initialized "java/lang/IndexOutOfBoundsException", Cond.fieldLink RX5 26 "StarConsole" "show" "LStarConsole$Show;", Cond.fieldLink RX5 10 "StarConsole" "stars" "LStarConsole$Stars;", Cond.fieldLink RX5 19 "StarConsole" "cues" "LStarConsole$Cues;", Cond.methodLink RX5 33 yX5_within, Cond.static yX5_within, Cond.code yX5_within cX5_within 3 (some .boolean), Cond.methodLink RX5 156 yX3_fact, Cond.instanceMethod yX3_fact, Cond.selects RX3 yX3_fact yX3_fact, Cond.initialized RX3, Cond.code yX3_fact cX3_fact 4 (some .int), Cond.fieldLink RX3 29 "StarConsole$Show" "tick" "I", Cond.fieldLink RX3 32 "StarConsole$Show" "clock" "I", Cond.fieldLink RX3 35 "StarConsole$Show" "clockRuns" "Z", Cond.fieldLink RX3 18 "StarConsole$Show" "dimmers" "LStarConsole$Dimmers;", Cond.fieldLink RX3 101 "StarConsole$Dimmers" "size" "I"]
def wsL_count_r2 : List Cond := [Cond.fieldLink RX3 102 "StarConsole$Stars" "size" "I", Cond.fieldLink RX3 25 "StarConsole$Show" "comets" "LStarConsole$Comets;", Cond.fieldLink RX3 105 "StarConsole$Comets" "size" "I", Cond.fieldLink RX3 72 "StarConsole$Cues" "size" "I", Cond.fieldLink RX3 9 "StarConsole$Show" "line" "I", Cond.fieldLink RX3 45 "StarConsole$Show" "speechLeft" "I", Cond.fieldLink RX3 39 "StarConsole$Show" "ballAngle" "I", Cond.fieldLink RX3 42 "StarConsole$Show" "ballSpeed" "I", Cond.methodLink RX3 106 yX3_starsSeen, Cond.instanceMethod yX3_starsSeen, Cond.selects RX3 yX3_starsSeen yX3_starsSeen, Cond.code yX3_starsSeen cX3_starsSeen 4 (some .int), Cond.methodLink RX3 124 yX3_starSeen, Cond.instanceMethod yX3_starSeen, Cond.selects RX3 yX3_starSeen yX3_starSeen, Cond.code yX3_starSeen cX3_starSeen 3 (some .boolean), Cond.fieldLink RX3 118 "StarConsole$Stars" "degree" "[I", Cond.fieldLink RX3 121 "StarConsole$Stars" "light" "[I", Cond.methodLink RX3 114 yX4_has, Cond.instanceMethod yX4_has, Cond.selects RX4 yX4_has yX4_has, Cond.initialized RX4, Cond.code yX4_has cX4_has 2 (some .boolean), Cond.fieldLink RX4 18 "StarConsole$Stars" "size" "I"]
def wsL_count_r3 : List Cond := [Cond.static yX5_turned, Cond.code yX5_turned cX5_turned 2 (some .int), Cond.methodLink RX5 213 yJ9_floorMod_7cf53, Cond.static yJ9_floorMod_7cf53, Cond.initialized RJ9, Cond.code yJ9_floorMod_7cf53 cJ9_floorMod_7cf53 3 (some .int), Cond.methodLink RX3 141 yX3_outshines, Cond.instanceMethod yX3_outshines, Cond.selects RX3 yX3_outshines yX3_outshines, Cond.code yX3_outshines cX3_outshines 3 (some .boolean), Cond.methodLink RX3 145 yX2_glareOn, Cond.instanceMethod yX2_glareOn, Cond.selects RX2 yX2_glareOn yX2_glareOn, Cond.initialized RX2, Cond.code yX2_glareOn cX2_glareOn 5 (some .int), Cond.fieldLink RX2 27 "StarConsole$Dimmers" "size" "I", Cond.fieldLink RX2 9 "StarConsole$Dimmers" "part" "[I", Cond.fieldLink RX2 15 "StarConsole$Dimmers" "level" "[I", Cond.methodLink RX2 52 yJ9_floorMod_7cf53, Cond.methodLink RX3 110 yX3_cometsSeen, Cond.instanceMethod yX3_cometsSeen, Cond.selects RX3 yX3_cometsSeen yX3_cometsSeen, Cond.code yX3_cometsSeen cX3_cometsSeen 3 (some .int), Cond.methodLink RX3 138 yX3_cometSeen]
def wsL_count_r4 : List Cond := [Cond.instanceMethod yX3_cometSeen, Cond.selects RX3 yX3_cometSeen yX3_cometSeen, Cond.code yX3_cometSeen cX3_cometSeen 2 (some .boolean), Cond.fieldLink RX3 135 "StarConsole$Comets" "left" "[I", Cond.fieldLink RX3 129 "StarConsole$Comets" "angle" "[I", Cond.methodLink RX3 128 yX0_has, Cond.instanceMethod yX0_has, Cond.selects RX0 yX0_has yX0_has, Cond.initialized RX0, Cond.code yX0_has cX0_has 2 (some .boolean), Cond.fieldLink RX0 21 "StarConsole$Comets" "size" "I"]
def wsL_count : List Cond := .codeWith yL_count cL_count 4 (some .int) [(0, 9, 12, 21)] :: ((wsL_count_r1 ++ (wsL_count_r2 ++ (wsL_count_r3 ++ wsL_count_r4))) ++ wsX50 ++ wsX30 ++ wsX20 ++ wsX40 ++ wsX00 ++ wsX10 ++ (vx_atS RX5 75 "java/lang/IndexOutOfBoundsException" ["java/lang/RuntimeException", "java/lang/Exception"]).filter goodWord)
def wsL_when_r1 : List Cond := [Cond.classLink RL 21 "java/lang/IndexOutOfBoundsException", Cond.methodLink RL 55 yX5_when, Cond.instanceMethod yX5_when, Cond.selects RX5 yX5_when yX5_when, Cond.initialized RX5, Cond.code yX5_when cX5_when 3 (some .int), Cond.classLink RX5 71 "java/lang/IndexOutOfBoundsException", Cond.initialized "java/lang/IndexOutOfBoundsException", Cond.fieldLink RX5 19 "StarConsole" "cues" "LStarConsole$Cues;", Cond.fieldLink RX5 26 "StarConsole" "show" "LStarConsole$Show;", Cond.fieldLink RX5 104 "StarConsole$Show" "clockRuns" "Z", Cond.fieldLink RX5 110 "StarConsole$Show" "clock" "I", Cond.methodLink RX5 162 yX1_has, Cond.instanceMethod yX1_has, Cond.selects RX1 yX1_has yX1_has, Cond.initialized RX1, Cond.code yX1_has cX1_has 2 (some .boolean), Cond.fieldLink RX1 24 "StarConsole$Cues" "size" "I", Cond.methodLink RX5 165 yX1_timeOf, Cond.instanceMethod yX1_timeOf, Cond.selects RX1 yX1_timeOf yX1_timeOf, Cond.code yX1_timeOf cX1_timeOf 2 (some .int), Cond.fieldLink RX1 9 "StarConsole$Cues" "time" "[I", Cond.methodLink RX1 28 yX1_has]
def wsL_when_r2 : List Cond := [Cond.methodLink RX5 168 yX1_holdWithin, Cond.instanceMethod yX1_holdWithin, Cond.selects RX1 yX1_holdWithin yX1_holdWithin, Cond.code yX1_holdWithin cX1_holdWithin 4 (some .boolean), Cond.fieldLink RX1 15 "StarConsole$Cues" "kind" "[I"]
def wsL_when : List Cond := .codeWith yL_when cL_when 4 (some .int) [(0, 9, 12, 21)] :: ((wsL_when_r1 ++ wsL_when_r2) ++ wsX50 ++ wsX30 ++ wsX10 ++ (vx_atS RX5 75 "java/lang/IndexOutOfBoundsException" ["java/lang/RuntimeException", "java/lang/Exception"]).filter goodWord)
def wsL_lasts_r1 : List Cond := [Cond.classLink RL 21 "java/lang/IndexOutOfBoundsException", Cond.methodLink RL 58 yX5_lasts, Cond.instanceMethod yX5_lasts, Cond.selects RX5 yX5_lasts yX5_lasts, Cond.initialized RX5, Cond.code yX5_lasts cX5_lasts 3 (some .int), Cond.classLink RX5 71 "java/lang/IndexOutOfBoundsException", Cond.initialized "java/lang/IndexOutOfBoundsException", Cond.fieldLink RX5 26 "StarConsole" "show" "LStarConsole$Show;", Cond.fieldLink RX5 48 "StarConsole$Show" "dimmers" "LStarConsole$Dimmers;", Cond.fieldLink RX5 30 "StarConsole" "ahead" "LStarConsole$Show;", Cond.fieldLink RX5 19 "StarConsole" "cues" "LStarConsole$Cues;", Cond.methodLink RX5 67 yX2_has, Cond.instanceMethod yX2_has, Cond.selects RX2 yX2_has yX2_has, Cond.initialized RX2, Cond.code yX2_has cX2_has 2 (some .boolean), Cond.fieldLink RX2 27 "StarConsole$Dimmers" "size" "I", Cond.methodLink RX5 172 yX3_become, Cond.instanceMethod yX3_become, Cond.selects RX3 yX3_become yX3_become, Cond.initialized RX3, Cond.code yX3_become cX3_become 2 none, Cond.fieldLink RX3 29 "StarConsole$Show" "tick" "I"]
def wsL_lasts_r2 : List Cond := [Cond.fieldLink RX3 32 "StarConsole$Show" "clock" "I", Cond.fieldLink RX3 35 "StarConsole$Show" "clockRuns" "Z", Cond.fieldLink RX3 39 "StarConsole$Show" "ballAngle" "I", Cond.fieldLink RX3 42 "StarConsole$Show" "ballSpeed" "I", Cond.fieldLink RX3 9 "StarConsole$Show" "line" "I", Cond.fieldLink RX3 45 "StarConsole$Show" "speechLeft" "I", Cond.fieldLink RX3 18 "StarConsole$Show" "dimmers" "LStarConsole$Dimmers;", Cond.fieldLink RX3 25 "StarConsole$Show" "comets" "LStarConsole$Comets;", Cond.methodLink RX3 48 yX2_become, Cond.instanceMethod yX2_become, Cond.selects RX2 yX2_become yX2_become, Cond.code yX2_become cX2_become 3 none, Cond.fieldLink RX2 9 "StarConsole$Dimmers" "part" "[I", Cond.fieldLink RX2 15 "StarConsole$Dimmers" "level" "[I", Cond.fieldLink RX2 18 "StarConsole$Dimmers" "aim" "[I", Cond.fieldLink RX2 21 "StarConsole$Dimmers" "pace" "[I", Cond.fieldLink RX2 24 "StarConsole$Dimmers" "life" "[I", Cond.methodLink RX3 52 yX0_become, Cond.instanceMethod yX0_become, Cond.selects RX0 yX0_become yX0_become, Cond.initialized RX0, Cond.code yX0_become cX0_become 3 none, Cond.fieldLink RX0 9 "StarConsole$Comets" "angle" "[I", Cond.fieldLink RX0 15 "StarConsole$Comets" "speed" "[I"]
def wsL_lasts_r3 : List Cond := [Cond.fieldLink RX0 18 "StarConsole$Comets" "left" "[I", Cond.fieldLink RX0 21 "StarConsole$Comets" "size" "I", Cond.methodLink RX5 176 yX2_hasLife, Cond.instanceMethod yX2_hasLife, Cond.selects RX2 yX2_hasLife yX2_hasLife, Cond.code yX2_hasLife cX2_hasLife 2 (some .boolean), Cond.methodLink RX2 31 yX2_has, Cond.methodLink RX5 179 yX3_goOn, Cond.instanceMethod yX3_goOn, Cond.selects RX3 yX3_goOn yX3_goOn, Cond.code yX3_goOn cX3_goOn 3 (some .int), Cond.methodLink RX3 59 yX3_runCues, Cond.instanceMethod yX3_runCues, Cond.selects RX3 yX3_runCues yX3_runCues, Cond.code yX3_runCues cX3_runCues 4 (some .int), Cond.fieldLink RX3 72 "StarConsole$Cues" "size" "I", Cond.fieldLink RX3 77 "StarConsole$Cues" "time" "[I", Cond.fieldLink RX3 81 "StarConsole$Cues" "kind" "[I", Cond.fieldLink RX3 84 "StarConsole$Cues" "a" "[I", Cond.fieldLink RX3 87 "StarConsole$Cues" "b" "[I", Cond.methodLink RX3 90 yX3_obey, Cond.instanceMethod yX3_obey, Cond.selects RX3 yX3_obey yX3_obey, Cond.code yX3_obey cX3_obey 4 none]
def wsL_lasts_r4 : List Cond := [Cond.methodLink RX3 94 yX2_changeAim, Cond.instanceMethod yX2_changeAim, Cond.selects RX2 yX2_changeAim yX2_changeAim, Cond.code yX2_changeAim cX2_changeAim 4 (some .int), Cond.methodLink RX3 97 yX0_addIfRoom, Cond.instanceMethod yX0_addIfRoom, Cond.selects RX0 yX0_addIfRoom yX0_addIfRoom, Cond.code yX0_addIfRoom cX0_addIfRoom 4 none, Cond.methodLink RX3 62 yX2_goOn, Cond.instanceMethod yX2_goOn, Cond.selects RX2 yX2_goOn yX2_goOn, Cond.code yX2_goOn cX2_goOn 2 none, Cond.methodLink RX2 43 Lib.Math.max.name, Cond.static Lib.Math.max.name, Cond.initialized "java/lang/Math", Cond.code Lib.Math.max.name Lib.Math.max.code 2 (some .int), Cond.methodLink RX2 39 yX2_approached, Cond.static yX2_approached, Cond.code yX2_approached cX2_approached 3 (some .int), Cond.methodLink RX2 49 Lib.Math.min.name, Cond.static Lib.Math.min.name, Cond.code Lib.Math.min.name Lib.Math.min.code 2 (some .int), Cond.methodLink RX2 35 yX2_darkenWithoutLife, Cond.instanceMethod yX2_darkenWithoutLife]
def wsL_lasts_r5 : List Cond := [Cond.selects RX2 yX2_darkenWithoutLife yX2_darkenWithoutLife, Cond.code yX2_darkenWithoutLife cX2_darkenWithoutLife 2 none, Cond.static yX5_turned, Cond.code yX5_turned cX5_turned 2 (some .int), Cond.methodLink RX5 213 yJ9_floorMod_7cf53, Cond.static yJ9_floorMod_7cf53, Cond.initialized RJ9, Cond.code yJ9_floorMod_7cf53 cJ9_floorMod_7cf53 3 (some .int), Cond.methodLink RX3 68 yX0_goOn, Cond.instanceMethod yX0_goOn, Cond.selects RX0 yX0_goOn yX0_goOn, Cond.code yX0_goOn cX0_goOn 2 none, Cond.methodLink RX3 69 yX3_speakOn, Cond.instanceMethod yX3_speakOn, Cond.selects RX3 yX3_speakOn yX3_speakOn, Cond.code yX3_speakOn cX3_speakOn 1 none]
def wsL_lasts : List Cond := .codeWith yL_lasts cL_lasts 4 (some .int) [(0, 9, 12, 21)] :: ((wsL_lasts_r1 ++ (wsL_lasts_r2 ++ (wsL_lasts_r3 ++ (wsL_lasts_r4 ++ wsL_lasts_r5)))) ++ wsX50 ++ wsX30 ++ wsX20 ++ wsX00 ++ wsX10 ++ (vx_atS RX5 75 "java/lang/IndexOutOfBoundsException" ["java/lang/RuntimeException", "java/lang/Exception"]).filter goodWord)
def wsL_foresee_r1 : List Cond := [Cond.classLink RL 13 "java/lang/IllegalArgumentException", Cond.classLink RL 21 "java/lang/IndexOutOfBoundsException", Cond.methodLink RL 61 yX5_foresee, Cond.instanceMethod yX5_foresee, Cond.selects RX5 yX5_foresee yX5_foresee, Cond.initialized RX5, Cond.code yX5_foresee cX5_foresee 3 (some .int), Cond.classLink RX5 37 "java/lang/IllegalArgumentException", Cond.initialized "java/lang/IllegalArgumentException", Cond.classLink RX5 71 "java/lang/IndexOutOfBoundsException", Cond.initialized "java/lang/IndexOutOfBoundsException", Cond.fieldLink RX5 30 "StarConsole" "ahead" "LStarConsole$Show;", Cond.fieldLink RX5 26 "StarConsole" "show" "LStarConsole$Show;", Cond.fieldLink RX5 19 "StarConsole" "cues" "LStarConsole$Cues;", Cond.fieldLink RX5 10 "StarConsole" "stars" "LStarConsole$Stars;", Cond.methodLink RX5 33 yX5_within, Cond.static yX5_within, Cond.code yX5_within cX5_within 3 (some .boolean), Cond.methodLink RX5 183 yX5_foreseeable, Cond.static yX5_foreseeable, Cond.code yX5_foreseeable cX5_foreseeable 1 (some .boolean), Cond.methodLink RX5 172 yX3_become, Cond.instanceMethod yX3_become, Cond.selects RX3 yX3_become yX3_become]
def wsL_foresee_r2 : List Cond := [Cond.initialized RX3, Cond.code yX3_become cX3_become 2 none, Cond.fieldLink RX3 29 "StarConsole$Show" "tick" "I", Cond.fieldLink RX3 32 "StarConsole$Show" "clock" "I", Cond.fieldLink RX3 35 "StarConsole$Show" "clockRuns" "Z", Cond.fieldLink RX3 39 "StarConsole$Show" "ballAngle" "I", Cond.fieldLink RX3 42 "StarConsole$Show" "ballSpeed" "I", Cond.fieldLink RX3 9 "StarConsole$Show" "line" "I", Cond.fieldLink RX3 45 "StarConsole$Show" "speechLeft" "I", Cond.fieldLink RX3 18 "StarConsole$Show" "dimmers" "LStarConsole$Dimmers;", Cond.fieldLink RX3 25 "StarConsole$Show" "comets" "LStarConsole$Comets;", Cond.methodLink RX3 48 yX2_become, Cond.instanceMethod yX2_become, Cond.selects RX2 yX2_become yX2_become, Cond.initialized RX2, Cond.code yX2_become cX2_become 3 none, Cond.fieldLink RX2 9 "StarConsole$Dimmers" "part" "[I", Cond.fieldLink RX2 15 "StarConsole$Dimmers" "level" "[I", Cond.fieldLink RX2 18 "StarConsole$Dimmers" "aim" "[I", Cond.fieldLink RX2 21 "StarConsole$Dimmers" "pace" "[I", Cond.fieldLink RX2 24 "StarConsole$Dimmers" "life" "[I", Cond.fieldLink RX2 27 "StarConsole$Dimmers" "size" "I", Cond.methodLink RX3 52 yX0_become, Cond.instanceMethod yX0_become]
def wsL_foresee_r3 : List Cond := [Cond.selects RX0 yX0_become yX0_become, Cond.initialized RX0, Cond.code yX0_become cX0_become 3 none, Cond.fieldLink RX0 9 "StarConsole$Comets" "angle" "[I", Cond.fieldLink RX0 15 "StarConsole$Comets" "speed" "[I", Cond.fieldLink RX0 18 "StarConsole$Comets" "left" "[I", Cond.fieldLink RX0 21 "StarConsole$Comets" "size" "I", Cond.methodLink RX5 120 yX3_goOnFor, Cond.instanceMethod yX3_goOnFor, Cond.selects RX3 yX3_goOnFor yX3_goOnFor, Cond.code yX3_goOnFor cX3_goOnFor 5 (some .int), Cond.methodLink RX3 55 yX3_goOn, Cond.instanceMethod yX3_goOn, Cond.selects RX3 yX3_goOn yX3_goOn, Cond.code yX3_goOn cX3_goOn 3 (some .int), Cond.methodLink RX3 59 yX3_runCues, Cond.instanceMethod yX3_runCues, Cond.selects RX3 yX3_runCues yX3_runCues, Cond.code yX3_runCues cX3_runCues 4 (some .int), Cond.fieldLink RX3 72 "StarConsole$Cues" "size" "I", Cond.fieldLink RX3 77 "StarConsole$Cues" "time" "[I", Cond.fieldLink RX3 81 "StarConsole$Cues" "kind" "[I", Cond.fieldLink RX3 84 "StarConsole$Cues" "a" "[I", Cond.fieldLink RX3 87 "StarConsole$Cues" "b" "[I"]
def wsL_foresee_r4 : List Cond := [Cond.methodLink RX3 90 yX3_obey, Cond.instanceMethod yX3_obey, Cond.selects RX3 yX3_obey yX3_obey, Cond.code yX3_obey cX3_obey 4 none, Cond.methodLink RX3 94 yX2_changeAim, Cond.instanceMethod yX2_changeAim, Cond.selects RX2 yX2_changeAim yX2_changeAim, Cond.code yX2_changeAim cX2_changeAim 4 (some .int), Cond.methodLink RX2 31 yX2_has, Cond.instanceMethod yX2_has, Cond.selects RX2 yX2_has yX2_has, Cond.code yX2_has cX2_has 2 (some .boolean), Cond.methodLink RX3 97 yX0_addIfRoom, Cond.instanceMethod yX0_addIfRoom, Cond.selects RX0 yX0_addIfRoom yX0_addIfRoom, Cond.code yX0_addIfRoom cX0_addIfRoom 4 none, Cond.methodLink RX3 62 yX2_goOn, Cond.instanceMethod yX2_goOn, Cond.selects RX2 yX2_goOn yX2_goOn, Cond.code yX2_goOn cX2_goOn 2 none, Cond.methodLink RX2 43 Lib.Math.max.name, Cond.static Lib.Math.max.name, Cond.initialized "java/lang/Math", Cond.code Lib.Math.max.name Lib.Math.max.code 2 (some .int)]
def wsL_foresee_r5 : List Cond := [Cond.methodLink RX2 39 yX2_approached, Cond.static yX2_approached, Cond.code yX2_approached cX2_approached 3 (some .int), Cond.methodLink RX2 49 Lib.Math.min.name, Cond.static Lib.Math.min.name, Cond.code Lib.Math.min.name Lib.Math.min.code 2 (some .int), Cond.methodLink RX2 35 yX2_darkenWithoutLife, Cond.instanceMethod yX2_darkenWithoutLife, Cond.selects RX2 yX2_darkenWithoutLife yX2_darkenWithoutLife, Cond.code yX2_darkenWithoutLife cX2_darkenWithoutLife 2 none, Cond.static yX5_turned, Cond.code yX5_turned cX5_turned 2 (some .int), Cond.methodLink RX5 213 yJ9_floorMod_7cf53, Cond.static yJ9_floorMod_7cf53, Cond.initialized RJ9, Cond.code yJ9_floorMod_7cf53 cJ9_floorMod_7cf53 3 (some .int), Cond.methodLink RX3 68 yX0_goOn, Cond.instanceMethod yX0_goOn, Cond.selects RX0 yX0_goOn yX0_goOn, Cond.code yX0_goOn cX0_goOn 2 none, Cond.methodLink RX3 69 yX3_speakOn, Cond.instanceMethod yX3_speakOn, Cond.selects RX3 yX3_speakOn yX3_speakOn, Cond.code yX3_speakOn cX3_speakOn 1 none]
def wsL_foresee_r6 : List Cond := [Cond.methodLink RX5 156 yX3_fact, Cond.instanceMethod yX3_fact, Cond.selects RX3 yX3_fact yX3_fact, Cond.code yX3_fact cX3_fact 4 (some .int), Cond.fieldLink RX3 101 "StarConsole$Dimmers" "size" "I", Cond.fieldLink RX3 102 "StarConsole$Stars" "size" "I", Cond.fieldLink RX3 105 "StarConsole$Comets" "size" "I", Cond.methodLink RX3 106 yX3_starsSeen, Cond.instanceMethod yX3_starsSeen, Cond.selects RX3 yX3_starsSeen yX3_starsSeen, Cond.code yX3_starsSeen cX3_starsSeen 4 (some .int), Cond.methodLink RX3 124 yX3_starSeen, Cond.instanceMethod yX3_starSeen, Cond.selects RX3 yX3_starSeen yX3_starSeen, Cond.code yX3_starSeen cX3_starSeen 3 (some .boolean), Cond.fieldLink RX3 118 "StarConsole$Stars" "degree" "[I", Cond.fieldLink RX3 121 "StarConsole$Stars" "light" "[I", Cond.methodLink RX3 114 yX4_has, Cond.instanceMethod yX4_has, Cond.selects RX4 yX4_has yX4_has, Cond.initialized RX4, Cond.code yX4_has cX4_has 2 (some .boolean), Cond.fieldLink RX4 18 "StarConsole$Stars" "size" "I", Cond.methodLink RX3 141 yX3_outshines]
def wsL_foresee_r7 : List Cond := [Cond.instanceMethod yX3_outshines, Cond.selects RX3 yX3_outshines yX3_outshines, Cond.code yX3_outshines cX3_outshines 3 (some .boolean), Cond.methodLink RX3 145 yX2_glareOn, Cond.instanceMethod yX2_glareOn, Cond.selects RX2 yX2_glareOn yX2_glareOn, Cond.code yX2_glareOn cX2_glareOn 5 (some .int), Cond.methodLink RX2 52 yJ9_floorMod_7cf53, Cond.methodLink RX3 110 yX3_cometsSeen, Cond.instanceMethod yX3_cometsSeen, Cond.selects RX3 yX3_cometsSeen yX3_cometsSeen, Cond.code yX3_cometsSeen cX3_cometsSeen 3 (some .int), Cond.methodLink RX3 138 yX3_cometSeen, Cond.instanceMethod yX3_cometSeen, Cond.selects RX3 yX3_cometSeen yX3_cometSeen, Cond.code yX3_cometSeen cX3_cometSeen 2 (some .boolean), Cond.fieldLink RX3 135 "StarConsole$Comets" "left" "[I", Cond.fieldLink RX3 129 "StarConsole$Comets" "angle" "[I", Cond.methodLink RX3 128 yX0_has, Cond.instanceMethod yX0_has, Cond.selects RX0 yX0_has yX0_has, Cond.code yX0_has cX0_has 2 (some .boolean)]
def wsL_foresee : List Cond := .codeWith yL_foresee cL_foresee 5 (some .int) [(0, 10, 13, 13), (0, 10, 17, 21)] :: ((wsL_foresee_r1 ++ (wsL_foresee_r2 ++ (wsL_foresee_r3 ++ (wsL_foresee_r4 ++ (wsL_foresee_r5 ++ (wsL_foresee_r6 ++ wsL_foresee_r7)))))) ++ wsX50 ++ wsX30 ++ wsX20 ++ wsX00 ++ wsX10 ++ wsX40 ++ (vx_atS RX5 41 "java/lang/IllegalArgumentException" ["java/lang/RuntimeException", "java/lang/Exception"]).filter goodWord ++ (vx_atS RX5 75 "java/lang/IndexOutOfBoundsException" ["java/lang/RuntimeException", "java/lang/Exception"]).filter goodWord)
def wsL_law0_r1 : List Cond := [Cond.classLink RL 8 RX5, Cond.instantiable RX5 4, Cond.initialized RX5, Cond.classLink RL 65 RX6, Cond.instantiable RX6 9, Cond.initialized RX6, Cond.arrayClass .long, Cond.methodLink RL 64 yX5_init, Cond.instanceMethod yX5_init, Cond.code yX5_init cX5_init 1 none, Cond.methodLink RX5 1 objectInit, Cond.instanceMethod objectInit, Cond.code objectInit ⟨#[0xb1]⟩ 1 none, Cond.classLink RX5 7 RX4, Cond.instantiable RX4 3, Cond.initialized RX4, Cond.fieldLink RX5 10 "StarConsole" "stars" "LStarConsole$Stars;", Cond.classLink RX5 16 RX1, Cond.instantiable RX1 5, Cond.initialized RX1, Cond.fieldLink RX5 19 "StarConsole" "cues" "LStarConsole$Cues;", Cond.classLink RX5 23 RX3, Cond.instantiable RX3 9, Cond.initialized RX3]
def wsL_law0_r2 : List Cond := [Cond.fieldLink RX5 26 "StarConsole" "show" "LStarConsole$Show;", Cond.fieldLink RX5 30 "StarConsole" "ahead" "LStarConsole$Show;", Cond.instanceMethod yX4_init, Cond.code yX4_init cX4_init 1 none, Cond.methodLink RX4 3 objectInit, Cond.arrayClass .int, Cond.fieldLink RX4 9 "StarConsole$Stars" "degree" "[I", Cond.fieldLink RX4 15 "StarConsole$Stars" "light" "[I", Cond.instanceMethod yX1_init, Cond.code yX1_init cX1_init 1 none, Cond.methodLink RX1 3 objectInit, Cond.fieldLink RX1 9 "StarConsole$Cues" "time" "[I", Cond.fieldLink RX1 15 "StarConsole$Cues" "kind" "[I", Cond.fieldLink RX1 18 "StarConsole$Cues" "a" "[I", Cond.fieldLink RX1 21 "StarConsole$Cues" "b" "[I", Cond.instanceMethod yX3_init, Cond.code yX3_init cX3_init 1 none, Cond.methodLink RX3 3 objectInit, Cond.fieldLink RX3 9 "StarConsole$Show" "line" "I", Cond.classLink RX3 15 RX2, Cond.instantiable RX2 6, Cond.initialized RX2, Cond.fieldLink RX3 18 "StarConsole$Show" "dimmers" "LStarConsole$Dimmers;", Cond.classLink RX3 22 RX0]
def wsL_law0_r3 : List Cond := [Cond.instantiable RX0 4, Cond.initialized RX0, Cond.fieldLink RX3 25 "StarConsole$Show" "comets" "LStarConsole$Comets;", Cond.instanceMethod yX2_init, Cond.code yX2_init cX2_init 1 none, Cond.methodLink RX2 3 objectInit, Cond.fieldLink RX2 9 "StarConsole$Dimmers" "part" "[I", Cond.fieldLink RX2 15 "StarConsole$Dimmers" "level" "[I", Cond.fieldLink RX2 18 "StarConsole$Dimmers" "aim" "[I", Cond.fieldLink RX2 21 "StarConsole$Dimmers" "pace" "[I", Cond.fieldLink RX2 24 "StarConsole$Dimmers" "life" "[I", Cond.instanceMethod yX0_init, Cond.code yX0_init cX0_init 1 none, Cond.methodLink RX0 3 objectInit, Cond.fieldLink RX0 9 "StarConsole$Comets" "angle" "[I", Cond.fieldLink RX0 15 "StarConsole$Comets" "speed" "[I", Cond.fieldLink RX0 18 "StarConsole$Comets" "left" "[I", Cond.methodLink RL 67 yX6_init, Cond.instanceMethod yX6_init, Cond.code yX6_init cX6_init 1 none, Cond.methodLink RX6 1 objectInit, Cond.fieldLink RX6 9 "StarConsoleModel" "lamps" "[I", Cond.fieldLink RX6 13 "StarConsoleModel" "sky" "[I", Cond.fieldLink RX6 16 "StarConsoleModel" "tails" "[I"]
def wsL_law0_r4 : List Cond := [Cond.fieldLink RX6 19 "StarConsoleModel" "show" "[I", Cond.fieldLink RX6 22 "StarConsoleModel" "numbers" "[I", Cond.methodLink RL 68 yL_dimmer, Cond.static yL_dimmer, Cond.initialized RL, Cond.codeWith yL_dimmer cL_dimmer 6 (some .int) [(0, 12, 15, 13), (0, 12, 19, 15)], Cond.classLink RL 13 "java/lang/IllegalArgumentException", Cond.classLink RL 15 "java/lang/IllegalStateException", Cond.methodLink RL 7 yX5_dimmer, Cond.instanceMethod yX5_dimmer, Cond.selects RX5 yX5_dimmer yX5_dimmer, Cond.code yX5_dimmer cX5_dimmer 4 (some .int), Cond.classLink RX5 37 "java/lang/IllegalArgumentException", Cond.initialized "java/lang/IllegalArgumentException", Cond.classLink RX5 58 "java/lang/IllegalStateException", Cond.initialized "java/lang/IllegalStateException", Cond.fieldLink RX5 48 "StarConsole$Show" "dimmers" "LStarConsole$Dimmers;", Cond.fieldLink RX5 52 "StarConsole$Dimmers" "size" "I", Cond.methodLink RX5 33 yX5_within, Cond.static yX5_within, Cond.code yX5_within cX5_within 3 (some .boolean), Cond.methodLink RX5 63 yX2_add, Cond.instanceMethod yX2_add, Cond.selects RX2 yX2_add yX2_add]
def wsL_law0_r5 : List Cond := [Cond.code yX2_add cX2_add 5 (some .int), Cond.fieldLink RX2 27 "StarConsole$Dimmers" "size" "I", Cond.methodLink RL 73 yX6_dimmer, Cond.instanceMethod yX6_dimmer, Cond.selects RX6 yX6_dimmer yX6_dimmer, Cond.code yX6_dimmer cX6_dimmer 5 (some .int), Cond.fieldLink RX6 25 "StarConsoleModel" "thrown" "I", Cond.fieldLink RX6 29 "StarConsoleModel" "dimmers" "I", Cond.methodLink RX6 40 arraycopyName, Cond.native arraycopyName, Cond.static arraycopyName, Cond.initialized "java/lang/System", Cond.methodLink RX6 32 yX6_isIn, Cond.static yX6_isIn, Cond.code yX6_isIn cX6_isIn 3 (some .boolean), Cond.methodLink RX6 36 yX6_fail, Cond.instanceMethod yX6_fail, Cond.selects RX6 yX6_fail yX6_fail, Cond.code yX6_fail cX6_fail 2 (some .int), Cond.methodLink RL 74 yX6_thrown, Cond.instanceMethod yX6_thrown, Cond.selects RX6 yX6_thrown yX6_thrown, Cond.code yX6_thrown cX6_thrown 1 (some .int), Cond.methodLink RL 78 yL_lamp]
def wsL_law0_r6 : List Cond := [Cond.static yL_lamp, Cond.codeWith yL_lamp cL_lamp 5 (some .int) [(0, 10, 13, 21), (0, 10, 17, 13)], Cond.classLink RL 21 "java/lang/IndexOutOfBoundsException", Cond.methodLink RL 17 yX5_lamp, Cond.instanceMethod yX5_lamp, Cond.selects RX5 yX5_lamp yX5_lamp, Cond.code yX5_lamp cX5_lamp 3 (some .int), Cond.classLink RX5 71 "java/lang/IndexOutOfBoundsException", Cond.initialized "java/lang/IndexOutOfBoundsException", Cond.methodLink RX5 67 yX2_has, Cond.instanceMethod yX2_has, Cond.selects RX2 yX2_has yX2_has, Cond.code yX2_has cX2_has 2 (some .boolean), Cond.methodLink RX5 76 yX2_changeLamp, Cond.instanceMethod yX2_changeLamp, Cond.selects RX2 yX2_changeLamp yX2_changeLamp, Cond.code yX2_changeLamp cX2_changeLamp 4 (some .int), Cond.methodLink RX2 31 yX2_has, Cond.methodLink RX2 35 yX2_darkenWithoutLife, Cond.instanceMethod yX2_darkenWithoutLife, Cond.selects RX2 yX2_darkenWithoutLife yX2_darkenWithoutLife, Cond.code yX2_darkenWithoutLife cX2_darkenWithoutLife 2 none, Cond.methodLink RL 81 yX6_lamp, Cond.instanceMethod yX6_lamp]
def wsL_law0_r7 : List Cond := [Cond.selects RX6 yX6_lamp yX6_lamp, Cond.code yX6_lamp cX6_lamp 4 (some .int), Cond.methodLink RX6 46 yX6_isDimmer, Cond.instanceMethod yX6_isDimmer, Cond.selects RX6 yX6_isDimmer yX6_isDimmer, Cond.code yX6_isDimmer cX6_isDimmer 2 (some .boolean), Cond.methodLink RX6 50 yX6_la, Cond.instanceMethod yX6_la, Cond.selects RX6 yX6_la yX6_la, Cond.code yX6_la cX6_la 3 (some .int), Cond.methodLink RX6 54 yX6_put, Cond.instanceMethod yX6_put, Cond.selects RX6 yX6_put yX6_put, Cond.code yX6_put cX6_put 4 none, Cond.methodLink RL 82 yL_star, Cond.static yL_star, Cond.codeWith yL_star cL_star 5 (some .int) [(0, 10, 13, 13), (0, 10, 17, 15)], Cond.methodLink RL 23 yX5_star, Cond.instanceMethod yX5_star, Cond.selects RX5 yX5_star yX5_star, Cond.code yX5_star cX5_star 3 (some .int), Cond.fieldLink RX5 84 "StarConsole$Stars" "size" "I", Cond.methodLink RX5 87 yX4_add, Cond.instanceMethod yX4_add]
def wsL_law0_r8 : List Cond := [Cond.selects RX4 yX4_add yX4_add, Cond.code yX4_add cX4_add 4 (some .int), Cond.fieldLink RX4 18 "StarConsole$Stars" "size" "I", Cond.methodLink RL 84 yX6_star, Cond.instanceMethod yX6_star, Cond.selects RX6 yX6_star yX6_star, Cond.code yX6_star cX6_star 3 (some .int), Cond.fieldLink RX6 58 "StarConsoleModel" "stars" "I", Cond.methodLink RL 85 yL_cue, Cond.static yL_cue, Cond.codeWith yL_cue cL_cue 7 (some .int) [(0, 14, 17, 13), (0, 14, 21, 15)], Cond.methodLink RL 26 yX5_cue, Cond.instanceMethod yX5_cue, Cond.selects RX5 yX5_cue yX5_cue, Cond.code yX5_cue cX5_cue 5 (some .int), Cond.fieldLink RX5 98 "StarConsole$Cues" "size" "I", Cond.methodLink RX5 93 yX5_suits, Cond.instanceMethod yX5_suits, Cond.selects RX5 yX5_suits yX5_suits, Cond.code yX5_suits cX5_suits 4 (some .boolean), Cond.methodLink RX5 101 yX1_add, Cond.instanceMethod yX1_add, Cond.selects RX1 yX1_add yX1_add, Cond.code yX1_add cX1_add 6 (some .int)]
def wsL_law0_r9 : List Cond := [Cond.fieldLink RX1 24 "StarConsole$Cues" "size" "I", Cond.methodLink RL 88 yX6_cue, Cond.instanceMethod yX6_cue, Cond.selects RX6 yX6_cue yX6_cue, Cond.code yX6_cue cX6_cue 6 (some .int), Cond.fieldLink RX6 64 "StarConsoleModel" "cues" "I", Cond.methodLink RX6 61 yX6_isCue, Cond.instanceMethod yX6_isCue, Cond.selects RX6 yX6_isCue yX6_isCue, Cond.code yX6_isCue cX6_isCue 4 (some .boolean), Cond.methodLink RL 89 yX5_run, Cond.instanceMethod yX5_run, Cond.selects RX5 yX5_run yX5_run, Cond.code yX5_run cX5_run 1 (some .boolean), Cond.fieldLink RX5 104 "StarConsole$Show" "clockRuns" "Z", Cond.methodLink RL 93 yX6_run, Cond.instanceMethod yX6_run, Cond.selects RX6 yX6_run yX6_run, Cond.code yX6_run cX6_run 1 (some .boolean), Cond.methodLink RL 94 yL_jump, Cond.static yL_jump, Cond.codeWith yL_jump cL_jump 4 (some .int) [(0, 9, 12, 13)], Cond.methodLink RL 30 yX5_jump, Cond.instanceMethod yX5_jump]
def wsL_law0_r10 : List Cond := [Cond.selects RX5 yX5_jump yX5_jump, Cond.code yX5_jump cX5_jump 3 (some .int), Cond.fieldLink RX5 110 "StarConsole$Show" "clock" "I", Cond.methodLink RL 97 yX6_jump, Cond.instanceMethod yX6_jump, Cond.selects RX6 yX6_jump yX6_jump, Cond.code yX6_jump cX6_jump 3 (some .int), Cond.methodLink RL 98 yL_fade, Cond.static yL_fade, Cond.codeWith yL_fade cL_fade 5 (some .int) [(0, 10, 13, 21), (0, 10, 17, 13)], Cond.methodLink RL 34 yX5_fade, Cond.instanceMethod yX5_fade, Cond.selects RX5 yX5_fade yX5_fade, Cond.code yX5_fade cX5_fade 3 (some .int), Cond.methodLink RX5 115 yX2_changeAim, Cond.instanceMethod yX2_changeAim, Cond.selects RX2 yX2_changeAim yX2_changeAim, Cond.code yX2_changeAim cX2_changeAim 4 (some .int), Cond.methodLink RL 100 yX6_fade, Cond.instanceMethod yX6_fade, Cond.selects RX6 yX6_fade yX6_fade, Cond.code yX6_fade cX6_fade 4 (some .int), Cond.methodLink RL 101 yL_pass, Cond.static yL_pass]
def wsL_law0_r11 : List Cond := [Cond.codeWith yL_pass cL_pass 4 (some .int) [(0, 9, 12, 13)], Cond.methodLink RL 37 yX5_pass, Cond.instanceMethod yX5_pass, Cond.selects RX5 yX5_pass yX5_pass, Cond.code yX5_pass cX5_pass 2 (some .int), Cond.methodLink RX5 120 yX3_goOnFor, Cond.instanceMethod yX3_goOnFor, Cond.selects RX3 yX3_goOnFor yX3_goOnFor, Cond.code yX3_goOnFor cX3_goOnFor 5 (some .int), Cond.methodLink RX3 55 yX3_goOn, Cond.instanceMethod yX3_goOn, Cond.selects RX3 yX3_goOn yX3_goOn, Cond.code yX3_goOn cX3_goOn 3 (some .int), Cond.fieldLink RX3 35 "StarConsole$Show" "clockRuns" "Z", Cond.fieldLink RX3 39 "StarConsole$Show" "ballAngle" "I", Cond.fieldLink RX3 42 "StarConsole$Show" "ballSpeed" "I", Cond.fieldLink RX3 29 "StarConsole$Show" "tick" "I", Cond.methodLink RX3 59 yX3_runCues, Cond.instanceMethod yX3_runCues, Cond.selects RX3 yX3_runCues yX3_runCues, Cond.code yX3_runCues cX3_runCues 4 (some .int), Cond.fieldLink RX3 72 "StarConsole$Cues" "size" "I", Cond.fieldLink RX3 77 "StarConsole$Cues" "time" "[I", Cond.fieldLink RX3 32 "StarConsole$Show" "clock" "I"]
def wsL_law0_r12 : List Cond := [Cond.fieldLink RX3 81 "StarConsole$Cues" "kind" "[I", Cond.fieldLink RX3 84 "StarConsole$Cues" "a" "[I", Cond.fieldLink RX3 87 "StarConsole$Cues" "b" "[I", Cond.methodLink RX3 90 yX3_obey, Cond.instanceMethod yX3_obey, Cond.selects RX3 yX3_obey yX3_obey, Cond.code yX3_obey cX3_obey 4 none, Cond.fieldLink RX3 45 "StarConsole$Show" "speechLeft" "I", Cond.methodLink RX3 94 yX2_changeAim, Cond.methodLink RX3 97 yX0_addIfRoom, Cond.instanceMethod yX0_addIfRoom, Cond.selects RX0 yX0_addIfRoom yX0_addIfRoom, Cond.code yX0_addIfRoom cX0_addIfRoom 4 none, Cond.fieldLink RX0 21 "StarConsole$Comets" "size" "I", Cond.methodLink RX3 62 yX2_goOn, Cond.instanceMethod yX2_goOn, Cond.selects RX2 yX2_goOn yX2_goOn, Cond.code yX2_goOn cX2_goOn 2 none, Cond.methodLink RX2 43 Lib.Math.max.name, Cond.static Lib.Math.max.name, Cond.initialized "java/lang/Math", Cond.code Lib.Math.max.name Lib.Math.max.code 2 (some .int), Cond.methodLink RX2 39 yX2_approached, Cond.static yX2_approached]
def wsL_law0_r13 : List Cond := [Cond.code yX2_approached cX2_approached 3 (some .int), Cond.methodLink RX2 49 Lib.Math.min.name, Cond.static Lib.Math.min.name, Cond.code Lib.Math.min.name Lib.Math.min.code 2 (some .int), Cond.static yX5_turned, Cond.code yX5_turned cX5_turned 2 (some .int), Cond.methodLink RX5 213 yJ9_floorMod_7cf53, Cond.static yJ9_floorMod_7cf53, Cond.initialized RJ9, Cond.code yJ9_floorMod_7cf53 cJ9_floorMod_7cf53 3 (some .int), Cond.methodLink RX3 68 yX0_goOn, Cond.instanceMethod yX0_goOn, Cond.selects RX0 yX0_goOn yX0_goOn, Cond.code yX0_goOn cX0_goOn 2 none, Cond.methodLink RX3 69 yX3_speakOn, Cond.instanceMethod yX3_speakOn, Cond.selects RX3 yX3_speakOn yX3_speakOn, Cond.code yX3_speakOn cX3_speakOn 1 none, Cond.methodLink RL 103 yX6_pass, Cond.instanceMethod yX6_pass, Cond.selects RX6 yX6_pass yX6_pass, Cond.code yX6_pass cX6_pass 2 (some .int), Cond.methodLink RX6 89 yX6_ticksOn, Cond.instanceMethod yX6_ticksOn]
def wsL_law0_r14 : List Cond := [Cond.selects RX6 yX6_ticksOn yX6_ticksOn, Cond.code yX6_ticksOn cX6_ticksOn 4 (some .int), Cond.methodLink RX6 85 yX6_tickOn, Cond.instanceMethod yX6_tickOn, Cond.selects RX6 yX6_tickOn yX6_tickOn, Cond.code yX6_tickOn cX6_tickOn 4 (some .int), Cond.methodLink RX6 75 yX6_carryOut, Cond.instanceMethod yX6_carryOut, Cond.selects RX6 yX6_carryOut yX6_carryOut, Cond.code yX6_carryOut cX6_carryOut 4 none, Cond.methodLink RX6 79 yX6_glow, Cond.instanceMethod yX6_glow, Cond.selects RX6 yX6_glow yX6_glow, Cond.code yX6_glow cX6_glow 5 none, Cond.methodLink RX6 67 Lib.Math.min.name, Cond.methodLink RX6 72 Lib.Math.max.name, Cond.methodLink RX6 82 yX6_round, Cond.static yX6_round, Cond.code yX6_round cX6_round 1 (some .int), Cond.methodLink RL 104 yL_told, Cond.static yL_told, Cond.codeWith yL_told cL_told 5 (some .int) [(0, 10, 13, 21)], Cond.methodLink RL 40 yX5_told, Cond.instanceMethod yX5_told]
def wsL_law0_r15 : List Cond := [Cond.selects RX5 yX5_told yX5_told, Cond.code yX5_told cX5_told 3 (some .int), Cond.methodLink RX5 126 yX2_fact, Cond.instanceMethod yX2_fact, Cond.selects RX2 yX2_fact yX2_fact, Cond.code yX2_fact cX2_fact 3 (some .int), Cond.methodLink RL 106 yX6_told, Cond.instanceMethod yX6_told, Cond.selects RX6 yX6_told yX6_told, Cond.code yX6_told cX6_told 3 (some .int), Cond.methodLink RL 107 yL_glare, Cond.static yL_glare, Cond.codeWith yL_glare cL_glare 4 (some .int) [(0, 9, 12, 21)], Cond.methodLink RL 43 yX5_glare, Cond.instanceMethod yX5_glare, Cond.selects RX5 yX5_glare yX5_glare, Cond.code yX5_glare cX5_glare 2 (some .int), Cond.methodLink RX5 129 yX2_glareOn, Cond.instanceMethod yX2_glareOn, Cond.selects RX2 yX2_glareOn yX2_glareOn, Cond.code yX2_glareOn cX2_glareOn 5 (some .int), Cond.methodLink RX2 52 yJ9_floorMod_7cf53, Cond.methodLink RL 109 yX6_glare, Cond.instanceMethod yX6_glare]
def wsL_law0_r16 : List Cond := [Cond.selects RX6 yX6_glare yX6_glare, Cond.code yX6_glare cX6_glare 2 (some .int), Cond.methodLink RX6 92 yX6_glareOf, Cond.instanceMethod yX6_glareOf, Cond.selects RX6 yX6_glareOf yX6_glareOf, Cond.code yX6_glareOf cX6_glareOf 5 (some .int), Cond.methodLink RL 110 yL_about, Cond.static yL_about, Cond.codeWith yL_about cL_about 5 (some .int) [(0, 10, 13, 21)], Cond.methodLink RL 46 yX5_about, Cond.instanceMethod yX5_about, Cond.selects RX5 yX5_about yX5_about, Cond.code yX5_about cX5_about 3 (some .int), Cond.methodLink RX5 133 yX4_has, Cond.instanceMethod yX4_has, Cond.selects RX4 yX4_has yX4_has, Cond.code yX4_has cX4_has 2 (some .boolean), Cond.methodLink RX5 138 yX3_factOfStar, Cond.instanceMethod yX3_factOfStar, Cond.selects RX3 yX3_factOfStar yX3_factOfStar, Cond.code yX3_factOfStar cX3_factOfStar 4 (some .int), Cond.fieldLink RX3 118 "StarConsole$Stars" "degree" "[I", Cond.fieldLink RX3 121 "StarConsole$Stars" "light" "[I", Cond.methodLink RX3 114 yX4_has]
def wsL_law0_r17 : List Cond := [Cond.methodLink RX3 124 yX3_starSeen, Cond.instanceMethod yX3_starSeen, Cond.selects RX3 yX3_starSeen yX3_starSeen, Cond.code yX3_starSeen cX3_starSeen 3 (some .boolean), Cond.methodLink RX3 141 yX3_outshines, Cond.instanceMethod yX3_outshines, Cond.selects RX3 yX3_outshines yX3_outshines, Cond.code yX3_outshines cX3_outshines 3 (some .boolean), Cond.methodLink RX3 145 yX2_glareOn, Cond.methodLink RL 112 yX6_about, Cond.instanceMethod yX6_about, Cond.selects RX6 yX6_about yX6_about, Cond.code yX6_about cX6_about 3 (some .int), Cond.methodLink RX6 102 yX6_starTold, Cond.instanceMethod yX6_starTold, Cond.selects RX6 yX6_starTold yX6_starTold, Cond.code yX6_starTold cX6_starTold 3 (some .int), Cond.methodLink RX6 95 yX6_stands, Cond.instanceMethod yX6_stands, Cond.selects RX6 yX6_stands yX6_stands, Cond.code yX6_stands cX6_stands 2 (some .int), Cond.methodLink RX6 98 yX6_isSeen, Cond.instanceMethod yX6_isSeen, Cond.selects RX6 yX6_isSeen yX6_isSeen]
def wsL_law0_r18 : List Cond := [Cond.code yX6_isSeen cX6_isSeen 3 (some .boolean), Cond.methodLink RL 113 yL_comet, Cond.static yL_comet, Cond.codeWith yL_comet cL_comet 5 (some .int) [(0, 10, 13, 21)], Cond.methodLink RL 49 yX5_comet, Cond.instanceMethod yX5_comet, Cond.selects RX5 yX5_comet yX5_comet, Cond.code yX5_comet cX5_comet 3 (some .int), Cond.fieldLink RX5 142 "StarConsole$Show" "comets" "LStarConsole$Comets;", Cond.methodLink RX5 146 yX0_has, Cond.instanceMethod yX0_has, Cond.selects RX0 yX0_has yX0_has, Cond.code yX0_has cX0_has 2 (some .boolean), Cond.methodLink RX5 151 yX3_factOfComet, Cond.instanceMethod yX3_factOfComet, Cond.selects RX3 yX3_factOfComet yX3_factOfComet, Cond.code yX3_factOfComet cX3_factOfComet 3 (some .int), Cond.fieldLink RX3 129 "StarConsole$Comets" "angle" "[I", Cond.fieldLink RX3 132 "StarConsole$Comets" "speed" "[I", Cond.fieldLink RX3 135 "StarConsole$Comets" "left" "[I", Cond.methodLink RX3 128 yX0_has, Cond.methodLink RX3 138 yX3_cometSeen, Cond.instanceMethod yX3_cometSeen, Cond.selects RX3 yX3_cometSeen yX3_cometSeen]
def wsL_law0_r19 : List Cond := [Cond.code yX3_cometSeen cX3_cometSeen 2 (some .boolean), Cond.methodLink RL 115 yX6_comet, Cond.instanceMethod yX6_comet, Cond.selects RX6 yX6_comet yX6_comet, Cond.code yX6_comet cX6_comet 3 (some .int), Cond.methodLink RX6 105 yX6_cometTold, Cond.instanceMethod yX6_cometTold, Cond.selects RX6 yX6_cometTold yX6_cometTold, Cond.code yX6_cometTold cX6_cometTold 3 (some .int), Cond.methodLink RL 116 yL_count, Cond.static yL_count, Cond.codeWith yL_count cL_count 4 (some .int) [(0, 9, 12, 21)], Cond.methodLink RL 52 yX5_count, Cond.instanceMethod yX5_count, Cond.selects RX5 yX5_count yX5_count, Cond.code yX5_count cX5_count 2 (some .int), Cond.methodLink RX5 156 yX3_fact, Cond.instanceMethod yX3_fact, Cond.selects RX3 yX3_fact yX3_fact, Cond.code yX3_fact cX3_fact 4 (some .int), Cond.fieldLink RX3 101 "StarConsole$Dimmers" "size" "I", Cond.fieldLink RX3 102 "StarConsole$Stars" "size" "I", Cond.fieldLink RX3 105 "StarConsole$Comets" "size" "I", Cond.methodLink RX3 106 yX3_starsSeen]
def wsL_law0_r20 : List Cond := [Cond.instanceMethod yX3_starsSeen, Cond.selects RX3 yX3_starsSeen yX3_starsSeen, Cond.code yX3_starsSeen cX3_starsSeen 4 (some .int), Cond.methodLink RX3 110 yX3_cometsSeen, Cond.instanceMethod yX3_cometsSeen, Cond.selects RX3 yX3_cometsSeen yX3_cometsSeen, Cond.code yX3_cometsSeen cX3_cometsSeen 3 (some .int), Cond.methodLink RL 118 yX6_count, Cond.instanceMethod yX6_count, Cond.selects RX6 yX6_count yX6_count, Cond.code yX6_count cX6_count 2 (some .int), Cond.methodLink RX6 108 yX6_counted, Cond.instanceMethod yX6_counted, Cond.selects RX6 yX6_counted yX6_counted, Cond.code yX6_counted cX6_counted 4 (some .int), Cond.methodLink RL 119 yX5_next, Cond.instanceMethod yX5_next, Cond.selects RX5 yX5_next yX5_next, Cond.code yX5_next cX5_next 1 (some .int), Cond.methodLink RX5 159 yX1_firstFrom, Cond.instanceMethod yX1_firstFrom, Cond.selects RX1 yX1_firstFrom yX1_firstFrom, Cond.code yX1_firstFrom cX1_firstFrom 4 (some .int), Cond.methodLink RX1 32 yX1_timeOf]
def wsL_law0_r21 : List Cond := [Cond.instanceMethod yX1_timeOf, Cond.selects RX1 yX1_timeOf yX1_timeOf, Cond.code yX1_timeOf cX1_timeOf 2 (some .int), Cond.methodLink RX1 28 yX1_has, Cond.instanceMethod yX1_has, Cond.selects RX1 yX1_has yX1_has, Cond.code yX1_has cX1_has 2 (some .boolean), Cond.methodLink RL 122 yX6_next, Cond.instanceMethod yX6_next, Cond.selects RX6 yX6_next yX6_next, Cond.code yX6_next cX6_next 3 (some .int), Cond.methodLink RL 123 yL_when, Cond.static yL_when, Cond.codeWith yL_when cL_when 4 (some .int) [(0, 9, 12, 21)], Cond.methodLink RL 55 yX5_when, Cond.instanceMethod yX5_when, Cond.selects RX5 yX5_when yX5_when, Cond.code yX5_when cX5_when 3 (some .int), Cond.methodLink RX5 162 yX1_has, Cond.methodLink RX5 165 yX1_timeOf, Cond.methodLink RX5 168 yX1_holdWithin, Cond.instanceMethod yX1_holdWithin, Cond.selects RX1 yX1_holdWithin yX1_holdWithin, Cond.code yX1_holdWithin cX1_holdWithin 4 (some .boolean)]
def wsL_law0_r22 : List Cond := [Cond.methodLink RL 125 yX6_when, Cond.instanceMethod yX6_when, Cond.selects RX6 yX6_when yX6_when, Cond.code yX6_when cX6_when 4 (some .int), Cond.methodLink RL 126 yL_lasts, Cond.static yL_lasts, Cond.codeWith yL_lasts cL_lasts 4 (some .int) [(0, 9, 12, 21)], Cond.methodLink RL 58 yX5_lasts, Cond.instanceMethod yX5_lasts, Cond.selects RX5 yX5_lasts yX5_lasts, Cond.code yX5_lasts cX5_lasts 3 (some .int), Cond.methodLink RX5 172 yX3_become, Cond.instanceMethod yX3_become, Cond.selects RX3 yX3_become yX3_become, Cond.code yX3_become cX3_become 2 none, Cond.methodLink RX3 48 yX2_become, Cond.instanceMethod yX2_become, Cond.selects RX2 yX2_become yX2_become, Cond.code yX2_become cX2_become 3 none, Cond.methodLink RX3 52 yX0_become, Cond.instanceMethod yX0_become, Cond.selects RX0 yX0_become yX0_become, Cond.code yX0_become cX0_become 3 none, Cond.methodLink RX5 176 yX2_hasLife]
def wsL_law0_r23 : List Cond := [Cond.instanceMethod yX2_hasLife, Cond.selects RX2 yX2_hasLife yX2_hasLife, Cond.code yX2_hasLife cX2_hasLife 2 (some .boolean), Cond.methodLink RX5 179 yX3_goOn, Cond.methodLink RL 128 yX6_lasts, Cond.instanceMethod yX6_lasts, Cond.selects RX6 yX6_lasts yX6_lasts, Cond.code yX6_lasts cX6_lasts 4 (some .int), Cond.methodLink RX6 116 yX6_kept, Cond.instanceMethod yX6_kept, Cond.selects RX6 yX6_kept yX6_kept, Cond.code yX6_kept cX6_kept 1 (some (.array (.array .int))), Cond.classLink RX6 111 "[I", Cond.methodLink RX6 112 ⟨"[I", "clone", "()Ljava/lang/Object;"⟩, Cond.sameMethod "[I" "java/lang/Object" "clone" "()Ljava/lang/Object;", Cond.native ⟨"java/lang/Object", "clone", "()Ljava/lang/Object;"⟩, Cond.instanceMethod ⟨"java/lang/Object", "clone", "()Ljava/lang/Object;"⟩, Cond.selects "[I" ⟨"[I", "clone", "()Ljava/lang/Object;"⟩ ⟨"java/lang/Object", "clone", "()Ljava/lang/Object;"⟩, Cond.methodLink RX6 120 yX6_bringBack, Cond.instanceMethod yX6_bringBack, Cond.selects RX6 yX6_bringBack yX6_bringBack, Cond.code yX6_bringBack cX6_bringBack 2 none, Cond.methodLink RL 129 yL_foresee, Cond.static yL_foresee]
def wsL_law0_r24 : List Cond := [Cond.codeWith yL_foresee cL_foresee 5 (some .int) [(0, 10, 13, 13), (0, 10, 17, 21)], Cond.methodLink RL 61 yX5_foresee, Cond.instanceMethod yX5_foresee, Cond.selects RX5 yX5_foresee yX5_foresee, Cond.code yX5_foresee cX5_foresee 3 (some .int), Cond.methodLink RX5 183 yX5_foreseeable, Cond.static yX5_foreseeable, Cond.code yX5_foreseeable cX5_foreseeable 1 (some .boolean), Cond.methodLink RL 131 yX6_foresee, Cond.instanceMethod yX6_foresee, Cond.selects RX6 yX6_foresee yX6_foresee, Cond.code yX6_foresee cX6_foresee 5 (some .int), Cond.methodLink RL 132 yX5_darkest, Cond.instanceMethod yX5_darkest, Cond.selects RX5 yX5_darkest yX5_darkest, Cond.code yX5_darkest cX5_darkest 3 (some .int), Cond.methodLink RL 135 yX6_darkest, Cond.instanceMethod yX6_darkest, Cond.selects RX6 yX6_darkest yX6_darkest, Cond.code yX6_darkest cX6_darkest 3 (some .int), Cond.methodLink RL 136 yX5_mean, Cond.instanceMethod yX5_mean, Cond.selects RX5 yX5_mean yX5_mean, Cond.code yX5_mean cX5_mean 3 (some .double)]
def wsL_law0_r25 : List Cond := [Cond.constantDouble RX5 188 (4622945017495814144), Cond.methodLink RL 140 yX6_mean, Cond.instanceMethod yX6_mean, Cond.selects RX6 yX6_mean yX6_mean, Cond.code yX6_mean cX6_mean 3 (some .double), Cond.constantDouble RX6 124 (4622945017495814144), Cond.methodLink RL 141 yX5_digest, Cond.instanceMethod yX5_digest, Cond.selects RX5 yX5_digest yX5_digest, Cond.code yX5_digest cX5_digest 4 (some .long), Cond.constantLong RX5 190 (1109), Cond.methodLink RX5 192 yX5_joined, Cond.static yX5_joined, Cond.code yX5_joined cX5_joined 3 (some .long), Cond.constantLong RX5 211 (31), Cond.methodLink RX5 196 yX5_joinedDimmers, Cond.instanceMethod yX5_joinedDimmers, Cond.selects RX5 yX5_joinedDimmers yX5_joinedDimmers, Cond.code yX5_joinedDimmers cX5_joinedDimmers 7 (some .long), Cond.methodLink RX5 200 yX5_joinedStars, Cond.instanceMethod yX5_joinedStars, Cond.selects RX5 yX5_joinedStars yX5_joinedStars, Cond.code yX5_joinedStars cX5_joinedStars 7 (some .long), Cond.methodLink RX5 203 yX5_joinedComets]
def wsL_law0_r26 : List Cond := [Cond.instanceMethod yX5_joinedComets, Cond.selects RX5 yX5_joinedComets yX5_joinedComets, Cond.code yX5_joinedComets cX5_joinedComets 7 (some .long), Cond.fieldLink RX5 209 "StarConsole$Comets" "size" "I", Cond.methodLink RX5 206 yX5_joinedCues, Cond.instanceMethod yX5_joinedCues, Cond.selects RX5 yX5_joinedCues yX5_joinedCues, Cond.code yX5_joinedCues cX5_joinedCues 7 (some .long), Cond.methodLink RX5 210 yX1_fact, Cond.instanceMethod yX1_fact, Cond.selects RX1 yX1_fact yX1_fact, Cond.code yX1_fact cX1_fact 3 (some .int), Cond.methodLink RL 145 yX6_digest, Cond.instanceMethod yX6_digest, Cond.selects RX6 yX6_digest yX6_digest, Cond.code yX6_digest cX6_digest 5 (some .long), Cond.constantLong RX6 126 (1109), Cond.constantLong RX6 128 (31)]
def wsL_law0 : List Cond := (wsL_law0_r1 ++ (wsL_law0_r2 ++ (wsL_law0_r3 ++ (wsL_law0_r4 ++ (wsL_law0_r5 ++ (wsL_law0_r6 ++ (wsL_law0_r7 ++ (wsL_law0_r8 ++ (wsL_law0_r9 ++ (wsL_law0_r10 ++ (wsL_law0_r11 ++ (wsL_law0_r12 ++ (wsL_law0_r13 ++ (wsL_law0_r14 ++ (wsL_law0_r15 ++ (wsL_law0_r16 ++ (wsL_law0_r17 ++ (wsL_law0_r18 ++ (wsL_law0_r19 ++ (wsL_law0_r20 ++ (wsL_law0_r21 ++ (wsL_law0_r22 ++ (wsL_law0_r23 ++ (wsL_law0_r24 ++ (wsL_law0_r25 ++ wsL_law0_r26))))))))))))))))))))))))) ++ wsX50 ++ wsX60 ++ wsX40 ++ wsX10 ++ wsX30 ++ wsX20 ++ wsX00 ++ ([] : List Cond)
def wsL_law : List Cond := wsL_law0 ++ (vx_atS RX5 41 "java/lang/IllegalArgumentException" ["java/lang/RuntimeException", "java/lang/Exception"]).filter goodWord ++ (vx_atS RX5 62 "java/lang/IllegalStateException" ["java/lang/RuntimeException", "java/lang/Exception"]).filter goodWord ++ (vx_atS RX5 75 "java/lang/IndexOutOfBoundsException" ["java/lang/RuntimeException", "java/lang/Exception"]).filter goodWord
set_option maxRecDepth 20000 in
theorem wsL_law_in0_1 : ∀ w ∈ wsL_law0_r1, w ∈ lw_tbl := fun w h => (goodIn_p wsL_law0_r1 [52, 55] (by decide +kernel) (by decide +kernel) w h).1
theorem wsL_law_in0_2 : ∀ w ∈ wsL_law0_r2, w ∈ lw_tbl := fun w h => (goodIn_p wsL_law0_r2 [60, 81, 109] (by decide +kernel) (by decide +kernel) w h).1
theorem wsL_law_in0_3 : ∀ w ∈ wsL_law0_r3, w ∈ lw_tbl := fun w h => (goodIn_p wsL_law0_r3 [115, 142, 659] (by decide +kernel) (by decide +kernel) w h).1
theorem wsL_law_in0_4 : ∀ w ∈ wsL_law0_r4, w ∈ lw_tbl := fun w h => (goodIn_p wsL_law0_r4 [333, 336] (by decide +kernel) (by decide +kernel) w h).1
theorem wsL_law_in0_5 : ∀ w ∈ wsL_law0_r5, w ∈ lw_tbl := fun w h => (goodIn_p wsL_law0_r5 [426, 696, 699, 703, 692] (by decide +kernel) (by decide +kernel) w h).1
theorem wsL_law_in0_6 : ∀ w ∈ wsL_law0_r6, w ∈ lw_tbl := fun w h => (goodIn_p wsL_law0_r6 [434, 300, 455, 459] (by decide +kernel) (by decide +kernel) w h).1
theorem wsL_law_in0_7 : ∀ w ∈ wsL_law0_r7, w ∈ lw_tbl := fun w h => (goodIn_p wsL_law0_r7 [710, 714, 718, 722, 466] (by decide +kernel) (by decide +kernel) w h).1
theorem wsL_law_in0_8 : ∀ w ∈ wsL_law0_r8, w ∈ lw_tbl := fun w h => (goodIn_p wsL_law0_r8 [473, 726, 480, 486, 492] (by decide +kernel) (by decide +kernel) w h).1
theorem wsL_law_in0_9 : ∀ w ∈ wsL_law0_r9, w ∈ lw_tbl := fun w h => (goodIn_p wsL_law0_r9 [730, 734, 210, 738] (by decide +kernel) (by decide +kernel) w h).1
theorem wsL_law_in0_10 : ∀ w ∈ wsL_law0_r10, w ∈ lw_tbl := fun w h => (goodIn_p wsL_law0_r10 [499, 742, 507, 512, 746] (by decide +kernel) (by decide +kernel) w h).1
theorem wsL_law_in0_11 : ∀ w ∈ wsL_law0_r11, w ∈ lw_tbl := fun w h => (goodIn_p wsL_law0_r11 [519, 524, 528, 532] (by decide +kernel) (by decide +kernel) w h).1
theorem wsL_law_in0_12 : ∀ w ∈ wsL_law0_r12, w ∈ lw_tbl := fun w h => (goodIn_p wsL_law0_r12 [536, 541, 545, 554] (by decide +kernel) (by decide +kernel) w h).1
theorem wsL_law_in0_13 : ∀ w ∈ wsL_law0_r13, w ∈ lw_tbl := fun w h => (goodIn_p wsL_law0_r13 [548, 551, 266, 237, 558, 563, 750] (by decide +kernel) (by decide +kernel) w h).1
theorem wsL_law_in0_14 : ∀ w ∈ wsL_law0_r14, w ∈ lw_tbl := fun w h => (goodIn_p wsL_law0_r14 [754, 758, 762, 766, 771] (by decide +kernel) (by decide +kernel) w h).1
theorem wsL_law_in0_15 : ∀ w ∈ wsL_law0_r15, w ∈ lw_tbl := fun w h => (goodIn_p wsL_law0_r15 [570, 296, 775, 578, 234] (by decide +kernel) (by decide +kernel) w h).1
theorem wsL_law_in0_16 : ∀ w ∈ wsL_law0_r16, w ∈ lw_tbl := fun w h => (goodIn_p wsL_law0_r16 [779, 783, 585, 263, 308] (by decide +kernel) (by decide +kernel) w h).1
theorem wsL_law_in0_17 : ∀ w ∈ wsL_law0_r17, w ∈ lw_tbl := fun w h => (goodIn_p wsL_law0_r17 [259, 271, 787, 791, 795] (by decide +kernel) (by decide +kernel) w h).1
theorem wsL_law_in0_18 : ∀ w ∈ wsL_law0_r18, w ∈ lw_tbl := fun w h => (goodIn_p wsL_law0_r18 [799, 595, 284, 316] (by decide +kernel) (by decide +kernel) w h).1
theorem wsL_law_in0_19 : ∀ w ∈ wsL_law0_r19, w ∈ lw_tbl := fun w h => (goodIn_p wsL_law0_r19 [280, 803, 807, 604, 251] (by decide +kernel) (by decide +kernel) w h).1
theorem wsL_law_in0_20 : ∀ w ∈ wsL_law0_r20, w ∈ lw_tbl := fun w h => (goodIn_p wsL_law0_r20 [255, 276, 811, 815, 214, 218] (by decide +kernel) (by decide +kernel) w h).1
theorem wsL_law_in0_21 : ∀ w ∈ wsL_law0_r21, w ∈ lw_tbl := fun w h => (goodIn_p wsL_law0_r21 [222, 226, 819, 612, 619] (by decide +kernel) (by decide +kernel) w h).1
theorem wsL_law_in0_22 : ∀ w ∈ wsL_law0_r22, w ∈ lw_tbl := fun w h => (goodIn_p wsL_law0_r22 [823, 626, 630, 634, 638] (by decide +kernel) (by decide +kernel) w h).1
theorem wsL_law_in0_23 : ∀ w ∈ wsL_law0_r23, w ∈ lw_tbl := fun w h => (goodIn_p wsL_law0_r23 [642, 827, 831, 843] (by decide +kernel) (by decide +kernel) w h).1
theorem wsL_law_in0_24 : ∀ w ∈ wsL_law0_r24, w ∈ lw_tbl := fun w h => (goodIn_p wsL_law0_r24 [650, 653, 847, 230, 851, 241] (by decide +kernel) (by decide +kernel) w h).1
theorem wsL_law_in0_25 : ∀ w ∈ wsL_law0_r25, w ∈ lw_tbl := fun w h => (goodIn_p wsL_law0_r25 [855, 246, 287, 292, 304] (by decide +kernel) (by decide +kernel) w h).1
theorem wsL_law_in0_26 : ∀ w ∈ wsL_law0_r26, w ∈ lw_tbl := fun w h => (goodIn_p wsL_law0_r26 [312, 320, 324, 860] (by decide +kernel) (by decide +kernel) w h).1
theorem wsL_law_kX5 : ∀ w ∈ wsX50, w ∈ lw_tbl := fun w h => (goodIn_p wsX50 [] (by decide +kernel) (by decide +kernel) w h).1
theorem wsL_law_kX6 : ∀ w ∈ wsX60, w ∈ lw_tbl := fun w h => (goodIn_p wsX60 [] (by decide +kernel) (by decide +kernel) w h).1
theorem wsL_law_kX4 : ∀ w ∈ wsX40, w ∈ lw_tbl := fun w h => (goodIn_p wsX40 [] (by decide +kernel) (by decide +kernel) w h).1
theorem wsL_law_kX1 : ∀ w ∈ wsX10, w ∈ lw_tbl := fun w h => (goodIn_p wsX10 [] (by decide +kernel) (by decide +kernel) w h).1
theorem wsL_law_kX3 : ∀ w ∈ wsX30, w ∈ lw_tbl := fun w h => (goodIn_p wsX30 [] (by decide +kernel) (by decide +kernel) w h).1
theorem wsL_law_kX2 : ∀ w ∈ wsX20, w ∈ lw_tbl := fun w h => (goodIn_p wsX20 [] (by decide +kernel) (by decide +kernel) w h).1
theorem wsL_law_kX0 : ∀ w ∈ wsX00, w ∈ lw_tbl := fun w h => (goodIn_p wsX00 [] (by decide +kernel) (by decide +kernel) w h).1
theorem wsL_law_in0 : ∀ w ∈ wsL_law0, w ∈ lw_tbl := fun w h => (List.mem_append.mp h).elim (fun h => (List.mem_append.mp h).elim (fun h => (List.mem_append.mp h).elim (fun h => (List.mem_append.mp h).elim (fun h => (List.mem_append.mp h).elim (fun h => (List.mem_append.mp h).elim (fun h => (List.mem_append.mp h).elim (fun h => (List.mem_append.mp h).elim (fun h => (List.mem_append.mp h).elim (fun h => wsL_law_in0_1 w h) (fun h => (List.mem_append.mp h).elim (fun h => wsL_law_in0_2 w h) (fun h => (List.mem_append.mp h).elim (fun h => wsL_law_in0_3 w h) (fun h => (List.mem_append.mp h).elim (fun h => wsL_law_in0_4 w h) (fun h => (List.mem_append.mp h).elim (fun h => wsL_law_in0_5 w h) (fun h => (List.mem_append.mp h).elim (fun h => wsL_law_in0_6 w h) (fun h => (List.mem_append.mp h).elim (fun h => wsL_law_in0_7 w h) (fun h => (List.mem_append.mp h).elim (fun h => wsL_law_in0_8 w h) (fun h => (List.mem_append.mp h).elim (fun h => wsL_law_in0_9 w h) (fun h => (List.mem_append.mp h).elim (fun h => wsL_law_in0_10 w h) (fun h => (List.mem_append.mp h).elim (fun h => wsL_law_in0_11 w h) (fun h => (List.mem_append.mp h).elim (fun h => wsL_law_in0_12 w h) (fun h => (List.mem_append.mp h).elim (fun h => wsL_law_in0_13 w h) (fun h => (List.mem_append.mp h).elim (fun h => wsL_law_in0_14 w h) (fun h => (List.mem_append.mp h).elim (fun h => wsL_law_in0_15 w h) (fun h => (List.mem_append.mp h).elim (fun h => wsL_law_in0_16 w h) (fun h => (List.mem_append.mp h).elim (fun h => wsL_law_in0_17 w h) (fun h => (List.mem_append.mp h).elim (fun h => wsL_law_in0_18 w h) (fun h => (List.mem_append.mp h).elim (fun h => wsL_law_in0_19 w h) (fun h => (List.mem_append.mp h).elim (fun h => wsL_law_in0_20 w h) (fun h => (List.mem_append.mp h).elim (fun h => wsL_law_in0_21 w h) (fun h => (List.mem_append.mp h).elim (fun h => wsL_law_in0_22 w h) (fun h => (List.mem_append.mp h).elim (fun h => wsL_law_in0_23 w h) (fun h => (List.mem_append.mp h).elim (fun h => wsL_law_in0_24 w h) (fun h => (List.mem_append.mp h).elim (fun h => wsL_law_in0_25 w h) (fun h => wsL_law_in0_26 w h)))))))))))))))))))))))))) (fun h => wsL_law_kX5 w h)) (fun h => wsL_law_kX6 w h)) (fun h => wsL_law_kX4 w h)) (fun h => wsL_law_kX1 w h)) (fun h => wsL_law_kX3 w h)) (fun h => wsL_law_kX2 w h)) (fun h => wsL_law_kX0 w h)) (fun h => absurd h List.not_mem_nil)
theorem wsL_law_x0 : ∀ w ∈ (vx_atS RX5 41 "java/lang/IllegalArgumentException" ["java/lang/RuntimeException", "java/lang/Exception"]).filter goodWord, w ∈ lw_tbl := by decide +kernel
theorem wsL_law_x1 : ∀ w ∈ (vx_atS RX5 62 "java/lang/IllegalStateException" ["java/lang/RuntimeException", "java/lang/Exception"]).filter goodWord, w ∈ lw_tbl := by decide +kernel
theorem wsL_law_x2 : ∀ w ∈ (vx_atS RX5 75 "java/lang/IndexOutOfBoundsException" ["java/lang/RuntimeException", "java/lang/Exception"]).filter goodWord, w ∈ lw_tbl := by decide +kernel
theorem wsL_law_in : ∀ w ∈ wsL_law, w ∈ lw_tbl := fun w h => (List.mem_append.mp h).elim (fun h => (List.mem_append.mp h).elim (fun h => (List.mem_append.mp h).elim (fun h => wsL_law_in0 w h) (fun h => wsL_law_x0 w h)) (fun h => wsL_law_x1 w h)) (fun h => wsL_law_x2 w h)
theorem inlX0 : ∀ w ∈ wsX00, w ∈ wsL_law := fun _ h => List.mem_append_left _ (List.mem_append_left _ (List.mem_append_left _ (List.mem_append_left _ (List.mem_append_right _ h))))
theorem inX0 : ∀ w ∈ wsX00, w ∈ lw_tbl := fun w h => wsL_law_in w (inlX0 w h)
theorem inlX1 : ∀ w ∈ wsX10, w ∈ wsL_law := fun _ h => List.mem_append_left _ (List.mem_append_left _ (List.mem_append_left _ (List.mem_append_left _ (List.mem_append_left _ (List.mem_append_left _ (List.mem_append_left _ (List.mem_append_right _ h)))))))
theorem inX1 : ∀ w ∈ wsX10, w ∈ lw_tbl := fun w h => wsL_law_in w (inlX1 w h)
theorem inlX2 : ∀ w ∈ wsX20, w ∈ wsL_law := fun _ h => List.mem_append_left _ (List.mem_append_left _ (List.mem_append_left _ (List.mem_append_left _ (List.mem_append_left _ (List.mem_append_right _ h)))))
theorem inX2 : ∀ w ∈ wsX20, w ∈ lw_tbl := fun w h => wsL_law_in w (inlX2 w h)
theorem inlX3 : ∀ w ∈ wsX30, w ∈ wsL_law := fun _ h => List.mem_append_left _ (List.mem_append_left _ (List.mem_append_left _ (List.mem_append_left _ (List.mem_append_left _ (List.mem_append_left _ (List.mem_append_right _ h))))))
theorem inX3 : ∀ w ∈ wsX30, w ∈ lw_tbl := fun w h => wsL_law_in w (inlX3 w h)
theorem inlX4 : ∀ w ∈ wsX40, w ∈ wsL_law := fun _ h => List.mem_append_left _ (List.mem_append_left _ (List.mem_append_left _ (List.mem_append_left _ (List.mem_append_left _ (List.mem_append_left _ (List.mem_append_left _ (List.mem_append_left _ (List.mem_append_right _ h))))))))
theorem inX4 : ∀ w ∈ wsX40, w ∈ lw_tbl := fun w h => wsL_law_in w (inlX4 w h)
theorem inlX5 : ∀ w ∈ wsX50, w ∈ wsL_law := fun _ h => List.mem_append_left _ (List.mem_append_left _ (List.mem_append_left _ (List.mem_append_left _ (List.mem_append_left _ (List.mem_append_left _ (List.mem_append_left _ (List.mem_append_left _ (List.mem_append_left _ (List.mem_append_left _ (List.mem_append_right _ h))))))))))
theorem inX5 : ∀ w ∈ wsX50, w ∈ lw_tbl := fun w h => wsL_law_in w (inlX5 w h)
theorem inlX6 : ∀ w ∈ wsX60, w ∈ wsL_law := fun _ h => List.mem_append_left _ (List.mem_append_left _ (List.mem_append_left _ (List.mem_append_left _ (List.mem_append_left _ (List.mem_append_left _ (List.mem_append_left _ (List.mem_append_left _ (List.mem_append_left _ (List.mem_append_right _ h)))))))))
theorem inX6 : ∀ w ∈ wsX60, w ∈ lw_tbl := fun w h => wsL_law_in w (inlX6 w h)
theorem inJx8e188 : ∀ w ∈ wsJx8e1880, w ∈ lw_tbl := by decide +kernel
theorem inJ9 : ∀ w ∈ wsJ90, w ∈ lw_tbl := by decide +kernel
theorem inJ0 : ∀ w ∈ wsJ00, w ∈ lw_tbl := by decide +kernel
theorem inJ10 : ∀ w ∈ wsJ100, w ∈ lw_tbl := by decide +kernel
end
