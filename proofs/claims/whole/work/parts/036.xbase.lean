/-! methods that throw: what they want of the tables and statics, what they leave -/
abbrev xIA : String := "java/lang/IllegalArgumentException"
abbrev xIS : String := "java/lang/IllegalStateException"
abbrev xIX : String := "java/lang/IndexOutOfBoundsException"
abbrev xRE : List String := ["java/lang/RuntimeException", "java/lang/Exception"]
def xstr : List (Nat × String) := [(39, "part is not 0 to 11"), (44, "pace is not 1 to 50"), (46, "life is not 0 to 9999"), (60, "there are 8 dimmers"), (73, "there is no such dimmer"), (80, "degree is not 0 to 359"), (82, "light is not 1 to 9"), (85, "there are 20 stars"), (89, "time is not 0 to 999"), (91, "kind is not 0 to 4"), (96, "a or b is not as this kind has it"), (99, "there are 24 cues"), (108, "time is not 0 to 1000"), (113, "aim is not 0 to 100"), (118, "ticks is not 1 to 500"), (124, "what is not 0 to 4"), (134, "there is no such star"), (136, "what is not 0 to 3"), (149, "there is no such comet"), (154, "what is not 0 to 12"), (163, "there is no such cue"), (186, "what is not 1, 5, 7, 8 or 11")]
def xdc (U : State) : Prop := va_Nw (.declares (Bundle.initS "java/lang/RuntimeException")) U ∧ va_Nw (.declares (Bundle.initS "java/lang/Exception")) U ∧ va_Nw (.declares (Bundle.initS Bundle.tN)) U
abbrev xBw (X : String) : List Cond := [.castable X X, .declares (Bundle.initS "java/lang/RuntimeException"), .declares (Bundle.initS "java/lang/Exception"), .declares (Bundle.initS Bundle.tN)]
def kx (D : va_G) (cI : ClassId) (U : State) : Prop := kw D cI U ∧ (∀ q ∈ xstr, ∃ a : Nat, vk_R RX5 q.1 q.2 a U) ∧ (va_Nw (.castable xIA xIA) U ∧ va_Nw (.castable xIS xIS) U ∧ va_Nw (.castable xIX xIX) U) ∧ (va_Nc xIA xIS U ∧ va_Nc xIA xIX U ∧ va_Nc xIS xIA U ∧ va_Nc xIS xIX U ∧ va_Nc xIX xIA U ∧ va_Nc xIX xIS U) ∧ xdc U
theorem kx.warm {D : va_G} {cI : ClassId} {s U : State} (hW : s.WarmedH U.vm) (h : kx D cI s) : kx D cI U := by
  obtain ⟨h1, h2, ⟨a, b, c⟩, ⟨d, e, f, g, i, j⟩, x, y, z⟩ := h
  refine ⟨h1.warm hW, fun q hq => ?_, ⟨va_Nw.warmC hW a, va_Nw.warmC hW b, va_Nw.warmC hW c⟩, ⟨d.moved hW.alike, e.moved hW.alike, f.moved hW.alike, g.moved hW.alike, i.moved hW.alike, j.moved hW.alike⟩, va_Nw.warmD hW x, va_Nw.warmD hW y, va_Nw.warmD hW z⟩
  obtain ⟨z, hz⟩ := h2 q hq
  exact ⟨z, hz.warm hW⟩
theorem kx.same {D : va_G} {cI : ClassId} {s U : State} (hv : s.vm = U.vm) (h : kx D cI s) : kx D cI U := by
  obtain ⟨h1, h2, ⟨a, b, c⟩, ⟨d, e, f, g, i, j⟩, x, y, z⟩ := h
  have ha : s.vm.Alike U.vm := hv ▸ Vm.Alike.refl s.vm
  refine ⟨h1.same hv, fun q hq => ?_, ⟨va_Nw.same rfl hv a, va_Nw.same rfl hv b, va_Nw.same rfl hv c⟩, ⟨d.moved ha, e.moved ha, f.moved ha, g.moved ha, i.moved ha, j.moved ha⟩, va_Nw.same rfl hv x, va_Nw.same rfl hv y, va_Nw.same rfl hv z⟩
  obtain ⟨z, hz⟩ := h2 q hq
  exact ⟨z, vk_R.same hv.symm hz⟩
def zx (A : Nat → Prop) (U : State) (H : Heap) : Prop := vx_Zq Bundle.tN "UNASSIGNED_STACK" Bundle.steD A U H ∧ vx_Zq Bundle.tN "SUPPRESSED_SENTINEL" Bundle.listD A U H
theorem zx.moved {A : Nat → Prop} {u U : State} {H : Heap} (hvm : u.vm.Alike U.vm) (h : zx A u H) : zx A U H := ⟨h.1.moved hvm, h.2.moved hvm⟩
theorem zx.kept {A : Nat → Prop} {U : State} {H H1 : Heap} (h : zx A U H) (hq : ∀ a : Nat, a < H.size → ¬ A a → H1[a]? = H[a]?) : zx A U H1 := ⟨h.1.kept hq, h.2.kept hq⟩
theorem zx.narrow {A B : Nat → Prop} {U : State} {H : Heap} (h : zx A U H) (hAB : ∀ q, B q → A q) : zx B U H := ⟨h.1.narrow hAB, h.2.narrow hAB⟩
def prX (D : va_G) (cI : ClassId) (av : List Value) (w : va_W) (sz : Nat) : Array Value → State → Prop := va_Pc av (fun U => U.heap.size = sz ∧ va_P D vwCl w U.heap ∧ kx D cI U ∧ va_D (fun _ => True) w ∧ zx (va_A w sz) U U.heap)
theorem prX_blind (D : va_G) (cI : ClassId) (av : List Value) (w : va_W) (sz : Nat) : FrameBlind (prX D cI av w sz) := fun a U g mk q => by
  obtain ⟨q0, q1, qP, qK, qD, qZ⟩ := q
  exact ⟨q0, q1, qP, kx.same (s := U) (U := U.calling g mk a) rfl qK, qD, zx.moved (u := U) (U := U.calling g mk a) (Vm.Alike.refl U.vm) qZ⟩
def exN (k : Int32) (a b : String) : String := if k = 1 then a else b
def poX (D : va_G) (A : Nat → Prop) (w' : va_W) (k r : Int32) := va_Qi (fun (r' : Int32) (_ : Unit) => k = 0 ∧ r' = r) (afW D A w') A
def xcX (D : va_G) (A : Nat → Prop) (w' : va_W) (k : Int32) (E : String) : String → State → State → Prop := vx_X (fun _ : Unit => True) (fun E' (_ : Unit) t => E' = E ∧ ¬ k = 0 ∧ va_P D vwCl w' t.heap ∧ va_D A w') A
def CX (l : Launch) (y : MethodName) (ws : List Cond) (rm : Room) (D : va_G) (cI : ClassId) (av : List Value) (w : va_W) (k : Int32) (E : String) (r : Int32) (w' : va_W) : Prop := ∀ sz : Nat, vx_Met l y ws rm (prX D cI av w sz) (poX D (va_A w sz) w' k r) (xcX D (va_A w sz) w' k E) 1 6 (va_A w sz)
def FXX (p : Program) (s : State) (m : MethodId) (meth : Method) (c : Code) (cc : ByteArray) (maxL : Nat) (ret : Option FieldType) (av : List Value) (ws : List Cond) (y : MethodName) (D : va_G) (cI : ClassId) (A : Nat → Prop) (w : va_W) : Prop :=
  p.tables.exec = Jvm.exec ∧ c.code = cc ∧ meth.sig.returnType = ret ∧ c.maxLocals = maxL ∧ s.vm.findClass y.cls = some m.cls ∧ (∀ x ∈ ws, x.before av.toArray s = true) ∧ meth.locks = false ∧ kx D cI s ∧ va_P D vwCl w s.heap ∧ va_D A w ∧ (∀ q : Nat, s.heap.size ≤ q → A q) ∧ zx A s s.heap ∧ (∀ x ∈ c.exceptionTable.toList, False)
section XB
variable {p : Program} {l : Launch} {e : Env} {R : Room} {s : State} {m : MethodId} {args : Array Value} {below : List Frame} {meth : Method} {c : Code} {H : Heap} {locs : List Loc} {cells slots : Nat} {Q : State → Prop}
variable {cc : ByteArray} {pc : Nat} {ls : Array Slot} {rest st0 : List Value} {A : Nat → Prop} {D : va_G} {cI : ClassId} {w w' wc wc' : va_W}
theorem entX {y : MethodName} {ws ws1 : List Cond} {rm : Room} {av : List Value} {maxL : Nat} {ret : Option FieldType} {k r : Int32} {E : String} (hy : plainName y.cls = true) (hw : ws = Cond.code y cc maxL ret :: ws1) (hlen : (lg_sl av).length ≤ maxL)
    (body : ∀ (p : Program) (e : Env) (s : State) (m : MethodId) (below : List Frame) (meth : Method) (c : Code) (A : Nat → Prop) (ls : Array Slot), FXX p s m meth c cc maxL ret av ws y D cI A w → lv_has ls maxL (lv_args 0 av) →
      W p l e rm s m av.toArray below meth c s.heap [] 0 0 (vx_MQ below (poX D A w' k r) (xcX D A w' k E) av.toArray s 1 6 A) (F0 m 0 ls [])) : CX l y ws rm D cI av w k E r w' := by
  intro sz
  refine vx_ofW (cc := cc) (maxL := maxL) (ret := ret) hy hw ?_
  intro p e s m args below meth c s₁ B hml ht hv
  obtain ⟨rfl, hsz, hP, hK, hD0, hZ⟩ := hv
  subst hsz
  have hl := lv_entry av hlen
  rw [lg_entry_eq]
  exact body p e s m below meth c (va_A w s.heap.size) _ ⟨B.exec, B.bytes, B.returns, hml, findClass_of_methodNamed B.named, atoms_spec (ws := ws) B.pre, B.notSynchronized, hK, hP, hD0.self (sz := s.heap.size), fun q h => Or.inr h, hZ, ht⟩ hl
theorem retX {r v k : Int32} {E : String} {ty : FieldType} (hx : p.tables.exec = Jvm.exec) (hb : c.code = cc) (hr : meth.sig.returnType = some ty) (hlocks : meth.locks = false) (hS : va_S A s.heap H locs) (hP : va_P D vwCl w' H) (hD : va_D A w') (hdg : decode cc pc = .ok (.ireturn, 1)) (hk : k = 0) (hv : v = r) (hn : narrow ty (.int v) = .int v) :
    W p l e R s m args below meth c H locs 0 0 (vx_MQ below (poX D A w' k r) (xcX D A w' k E) args s 1 6 A) (F0 m pc ls [.int v]) :=
  vx_ret (W.widen (Nat.zero_le 1) (Nat.zero_le 6) (W.zret hx hb hr hn (fun t ht _ => ⟨⟨v, (), rfl, ⟨hk, hv⟩, by rw [ht]; exact hP, hD⟩, hS.F ht⟩) hS.2.2 hdg hlocks))
/-- 'throw new X("text")' -/
theorem thX {own X E text : String} {r k : Int32} {ik is ic : Nat} {rt : List Value} (hl : l.stackTraces = false) (hx : p.tables.exec = Jvm.exec) (hb : c.code = cc) (hown : s.vm.findClass own = some m.cls) (hz : zx A s s.heap) (hS : va_S A s.heap H locs) (hP : va_P D vwCl w' H) (hD : va_D A w') (hml : c.maxLocals = ls.size) (hlocks : meth.locks = false) (hout : ∀ x ∈ c.exceptionTable.toList, False)
    (hfit : Bundle.fit X = true) (hk : (Cond.classLink own ik X).before args s = true) (hini : (Cond.initialized X).before args s = true) (hstr : ∃ a : Nat, vk_R own is text a s) (hat : ∀ w ∈ vx_atS own ic X xRE, w.before args s = true) (hgood : ∀ w ∈ Cond.classLink own ik X :: Cond.initialized X :: vx_atS own ic X xRE, vx_ot w = true)
    (d0 : decode cc pc = .ok (.new ik, 3)) (d3 : decode cc (pc + 3) = .ok (.dup, 1)) (d4 : decode cc (pc + 4) = .ok (.ldc is, 2)) (d6 : decode cc (pc + 6) = .ok (.invokespecial ic, 3)) (d9 : decode cc (pc + 9) = .ok (.athrow, 1))
    (hR : 5 < R.frames ∧ 82 ≤ R.locals ∧ 1 ≤ R.cells ∧ 6 ≤ R.slots) (hE : X = E) (hk0 : ¬ k = 0) :
    W p l e R s m args below meth c H locs 0 0 (vx_MQ below (poX D A w' k r) (xcX D A w' k E) args s 1 6 A) (F0 m pc ls []) := by
  obtain ⟨sa, hsa⟩ := hstr
  refine vx_throwS hx hb hl (names := xRE) hown hfit (by decide +kernel) hk hini hsa hat hgood hz.1 hz.2 hS hml.symm d0 d3 d4 d6 d9 (fun x h => (hout x h).elim) hR.1 hR.2.1 hR.2.2.1 hR.2.2.2 hlocks ?_ hS.2.2 (Nat.le_refl _) (Nat.le_refl _)
  intro t hal hz1 hq
  refine ⟨(), trivial, ⟨hE, hk0, hP.kept (fun k x hx => hq x.1 ((hP k x hx).lt)), hD⟩, Nat.le_trans hS.1 hz1, fun q h1 h2 => ?_⟩
  rw [hq q (Nat.lt_of_lt_of_le h1 hS.1)]
  exact hS.2.1 q h1 h2
theorem thX2 {own X E text : String} {r k : Int32} {ik is ic : Nat} (hl : l.stackTraces = false) (hx : p.tables.exec = Jvm.exec) (hb : c.code = cc) (hown : s.vm.findClass own = some m.cls) (hz : zx A s s.heap) (hS : va_S A s.heap H locs) (hP : va_P D vwCl w' H) (hD : va_D A w') (hml : c.maxLocals = ls.size) (hlocks : meth.locks = false) (hout : ∀ x ∈ c.exceptionTable.toList, False)
    (hfit : Bundle.fit X = true) (hk : (Cond.classLink own ik X).before args s = true) (hini : (Cond.initialized X).before args s = true) (hstr : ∃ a : Nat, vk_R own is text a s) (hcs : va_Nw (.castable X X) s) (hdc : xdc s) (hat : ∀ w ∈ (vx_atS own ic X xRE).filter goodWord, w.before args s = true) (hB : ∀ w ∈ (vx_atS own ic X xRE).filter (fun w => !goodWord w), w ∈ xBw X) (hgood : ∀ w ∈ Cond.classLink own ik X :: Cond.initialized X :: vx_atS own ic X xRE, vx_ot w = true)
    (d0 : decode cc pc = .ok (.new ik, 3)) (d3 : decode cc (pc + 3) = .ok (.dup, 1)) (d4 : decode cc (pc + 4) = .ok (.ldc is, 2)) (d6 : decode cc (pc + 6) = .ok (.invokespecial ic, 3)) (d9 : decode cc (pc + 9) = .ok (.athrow, 1))
    (hR : 5 < R.frames ∧ 82 ≤ R.locals ∧ 1 ≤ R.cells ∧ 6 ≤ R.slots) (hE : X = E) (hk0 : ¬ k = 0) :
    W p l e R s m args below meth c H locs 0 0 (vx_MQ below (poX D A w' k r) (xcX D A w' k E) args s 1 6 A) (F0 m pc ls []) :=
  thX (rt := []) hl hx hb hown hz hS hP hD hml hlocks hout hfit hk hini hstr (vx_hat hat hB (vx_c (va_Nw.use rfl hcs) (vx_c (va_Nw.use rfl hdc.1) (vx_c (va_Nw.use rfl hdc.2.1) (vx_c (va_Nw.use rfl hdc.2.2) vx_n))))) hgood d0 d3 d4 d6 d9 hR hE hk0
end XB
set_option maxRecDepth 20000 in
theorem xg_IA : ∀ w ∈ Cond.classLink RX5 37 xIA :: Cond.initialized xIA :: vx_atS RX5 41 xIA xRE, vx_ot w = true := by decide +kernel
set_option maxRecDepth 20000 in
theorem xg_IS : ∀ w ∈ Cond.classLink RX5 58 xIS :: Cond.initialized xIS :: vx_atS RX5 62 xIS xRE, vx_ot w = true := by decide +kernel
set_option maxRecDepth 20000 in
theorem xg_IX : ∀ w ∈ Cond.classLink RX5 71 xIX :: Cond.initialized xIX :: vx_atS RX5 75 xIX xRE, vx_ot w = true := by decide +kernel
set_option maxRecDepth 20000 in
theorem xb_IA : ∀ w ∈ (vx_atS RX5 41 xIA xRE).filter (fun w => !goodWord w), w ∈ xBw xIA := by decide +kernel
set_option maxRecDepth 20000 in
theorem xb_IS : ∀ w ∈ (vx_atS RX5 62 xIS xRE).filter (fun w => !goodWord w), w ∈ xBw xIS := by decide +kernel
set_option maxRecDepth 20000 in
theorem xb_IX : ∀ w ∈ (vx_atS RX5 75 xIX xRE).filter (fun w => !goodWord w), w ∈ xBw xIX := by decide +kernel
