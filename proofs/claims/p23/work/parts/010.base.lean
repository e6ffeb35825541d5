abbrev vwCl : List vw_C := [(RX0, TX0, 4), (RX1, TX1, 5), (RX2, TX2, 6), (RX3, TX3, 9), (RX4, TX4, 3), (RX5, TX5, 4), (RX6, TX6, 11)]
theorem naddE {x y : Int32} {a b : Nat} (hx : x = nI a) (hy : y = nI b) : x + y = nI (a + b) := by rw [hx, hy]; exact nI_add a b
theorem nmulE {x y : Int32} {a b : Nat} (hx : x = nI a) (hy : y = nI b) : x * y = nI (a * b) := by
  rw [hx, hy]
  unfold nI
  rw [← Int32.ofNat_mul]
theorem nI_inc (a : Nat) : nI a + Int32.ofInt 1 = nI (a + 1) := nI_1 a
def imax (x y : Int32) : Int32 := if x < y then y else x
def imin (x y : Int32) : Int32 := if y < x then y else x
/-! what every contract of this claim speaks in: a world of listed cells, the tables' words, one answer -/
abbrev nwl : List Cond := [.methodLinkNest "StarConsole$Comets" 25 yX5_turned "StarConsole", .methodLinkNest "StarConsole$Show" 64 yX5_turned "StarConsole", .methodLinkNest "StarConsole" 18 yX1_init "StarConsole", .methodLinkNest "StarConsole" 25 yX3_init "StarConsole", .methodLinkNest "StarConsole" 9 yX4_init "StarConsole", .methodLinkNest "StarConsole$Show" 17 yX2_init "StarConsole", .methodLinkNest "StarConsole$Show" 24 yX0_init "StarConsole", .methodLinkNest "StarConsoleLaw" 66 yX6_init "StarConsoleLaw"]
def kw (D : va_G) (cI : ClassId) (U : State) : Prop := va_K D vwCl [(cI, .int)] U ∧ ∀ w ∈ nwl, va_Nw w U
theorem kw.warm {D : va_G} {cI : ClassId} {s U : State} (hW : s.WarmedH U.vm) (h : kw D cI s) : kw D cI U := by
  refine ⟨va_K.moved hW.alike h.1, fun w hw => ?_⟩
  have h2 := h.2 w hw
  simp only [nwl, List.mem_cons, List.not_mem_nil, or_false] at hw
  rcases hw with rfl | rfl | rfl | rfl | rfl | rfl | rfl | rfl <;> exact va_Nw.warmM hW h2
theorem kw.same {D : va_G} {cI : ClassId} {s U : State} (hv : s.vm = U.vm) (h : kw D cI s) : kw D cI U := by
  refine ⟨va_K.moved (hv ▸ Vm.Alike.refl s.vm) h.1, fun w hw => ?_⟩
  have h2 := h.2 w hw
  simp only [nwl, List.mem_cons, List.not_mem_nil, or_false] at hw
  rcases hw with rfl | rfl | rfl | rfl | rfl | rfl | rfl | rfl <;> exact va_Nw.same rfl hv h2
/-- where a method starts: its arguments, and its cells -/
def prW (D : va_G) (cI : ClassId) (av : List Value) (w : va_W) (sz : Nat) : Array Value → State → Prop := va_Pc av (fun U => U.heap.size = sz ∧ va_P D vwCl w U.heap ∧ kw D cI U ∧ va_D (fun _ => True) w)
theorem prW_blind (D : va_G) (cI : ClassId) (av : List Value) (w : va_W) (sz : Nat) : FrameBlind (prW D cI av w sz) := fun a U g mk q => by
  obtain ⟨q0, q1, qP, qK, qD⟩ := q
  exact ⟨q0, q1, qP, kw.same (s := U) (U := U.calling g mk a) rfl qK, qD⟩
/-- what it leaves behind -/
def afW (D : va_G) (A : Nat → Prop) (w' : va_W) : Unit → State → Prop := fun _ t => va_P D vwCl w' t.heap ∧ va_D A w'
def poI (D : va_G) (A : Nat → Prop) (w' : va_W) (r : Int32) := va_Qi (fun (r' : Int32) (_ : Unit) => r' = r) (afW D A w') A
def poL (D : va_G) (A : Nat → Prop) (w' : va_W) (r : Int64) := va_Ql (fun (r' : Int64) (_ : Unit) => r' = r) (afW D A w') A
def poV (D : va_G) (A : Nat → Prop) (w' : va_W) := va_Qv (fun (_ : Unit) => True) (afW D A w') A
def CI (l : Launch) (y : MethodName) (ws : List Cond) (rm : Room) (D : va_G) (cI : ClassId) (av : List Value) (w : va_W) (r : Int32) (w' : va_W) : Prop := ∀ sz : Nat, Met l y ws rm (prW D cI av w sz) (poI D (va_A w sz) w' r) 0 0 (va_A w sz)
def CL (l : Launch) (y : MethodName) (ws : List Cond) (rm : Room) (D : va_G) (cI : ClassId) (av : List Value) (w : va_W) (r : Int64) (w' : va_W) : Prop := ∀ sz : Nat, Met l y ws rm (prW D cI av w sz) (poL D (va_A w sz) w' r) 0 0 (va_A w sz)
def CV (l : Launch) (y : MethodName) (ws : List Cond) (rm : Room) (D : va_G) (cI : ClassId) (av : List Value) (w : va_W) (w' : va_W) : Prop := ∀ sz : Nat, Met l y ws rm (prW D cI av w sz) (poV D (va_A w sz) w') 0 0 (va_A w sz)
/-- what is at hand in a body -/
def FX (p : Program) (s : State) (m : MethodId) (meth : Method) (c : Code) (cc : ByteArray) (maxL : Nat) (ret : Option FieldType) (av : List Value) (ws : List Cond) (y : MethodName) (D : va_G) (cI : ClassId) (A : Nat → Prop) (w : va_W) : Prop :=
  p.tables.exec = Jvm.exec ∧ c.code = cc ∧ meth.sig.returnType = ret ∧ c.maxLocals = maxL ∧ s.vm.findClass y.cls = some m.cls ∧ (∀ x ∈ ws, x.before av.toArray s = true) ∧ meth.locks = false ∧ kw D cI s ∧ va_P D vwCl w s.heap ∧ va_D A w ∧ (∀ q : Nat, s.heap.size ≤ q → A q)
section ENT
variable {l : Launch} {y : MethodName} {ws ws1 : List Cond} {rm : Room} {D : va_G} {cI : ClassId} {av : List Value} {w w' : va_W} {cc : ByteArray} {maxL : Nat} {ret : Option FieldType}
theorem ent_of {Qc : (Nat → Prop) → Array Value → State → Outcome → State → Prop} (hy : plainName y.cls = true) (hw : ws = Cond.code y cc maxL ret :: ws1) (hlen : (lg_sl av).length ≤ maxL)
    (body : ∀ (p : Program) (e : Env) (s : State) (m : MethodId) (below : List Frame) (meth : Method) (c : Code) (A : Nat → Prop) (ls : Array Slot), FX p s m meth c cc maxL ret av ws y D cI A w → lv_has ls maxL (lv_args 0 av) →
      W p l e rm s m av.toArray below meth c s.heap [] 0 0 (MQ below (Qc A) av.toArray s 0 0 A) (F0 m 0 ls [])) (sz : Nat) : Met l y ws rm (prW D cI av w sz) (Qc (va_A w sz)) 0 0 (va_A w sz) := by
  refine Met.ofW (cc := cc) (maxL := maxL) (ret := ret) hy hw ?_
  intro p e s m args below meth c s₁ B hml hv
  obtain ⟨rfl, hsz, hP, hK, hD0⟩ := hv
  subst hsz
  have hl := lv_entry av hlen
  rw [lg_entry_eq]
  exact body p e s m below meth c (va_A w s.heap.size) _ ⟨B.exec, B.bytes, B.returns, hml, findClass_of_methodNamed B.named, atoms_spec (ws := ws) B.pre, B.notSynchronized, hK, hP, hD0.self (sz := s.heap.size), fun q h => Or.inr h⟩ hl
theorem entI {r : Int32} (hy : plainName y.cls = true) (hw : ws = Cond.code y cc maxL ret :: ws1) (hlen : (lg_sl av).length ≤ maxL)
    (body : ∀ (p : Program) (e : Env) (s : State) (m : MethodId) (below : List Frame) (meth : Method) (c : Code) (A : Nat → Prop) (ls : Array Slot), FX p s m meth c cc maxL ret av ws y D cI A w → lv_has ls maxL (lv_args 0 av) →
      W p l e rm s m av.toArray below meth c s.heap [] 0 0 (MQ below (poI D A w' r) av.toArray s 0 0 A) (F0 m 0 ls [])) : CI l y ws rm D cI av w r w' := fun sz => ent_of (Qc := fun A => poI D A w' r) hy hw hlen body sz
theorem entL {r : Int64} (hy : plainName y.cls = true) (hw : ws = Cond.code y cc maxL ret :: ws1) (hlen : (lg_sl av).length ≤ maxL)
    (body : ∀ (p : Program) (e : Env) (s : State) (m : MethodId) (below : List Frame) (meth : Method) (c : Code) (A : Nat → Prop) (ls : Array Slot), FX p s m meth c cc maxL ret av ws y D cI A w → lv_has ls maxL (lv_args 0 av) →
      W p l e rm s m av.toArray below meth c s.heap [] 0 0 (MQ below (poL D A w' r) av.toArray s 0 0 A) (F0 m 0 ls [])) : CL l y ws rm D cI av w r w' := fun sz => ent_of (Qc := fun A => poL D A w' r) hy hw hlen body sz
theorem entV (hy : plainName y.cls = true) (hw : ws = Cond.code y cc maxL ret :: ws1) (hlen : (lg_sl av).length ≤ maxL)
    (body : ∀ (p : Program) (e : Env) (s : State) (m : MethodId) (below : List Frame) (meth : Method) (c : Code) (A : Nat → Prop) (ls : Array Slot), FX p s m meth c cc maxL ret av ws y D cI A w → lv_has ls maxL (lv_args 0 av) →
      W p l e rm s m av.toArray below meth c s.heap [] 0 0 (MQ below (poV D A w') av.toArray s 0 0 A) (F0 m 0 ls [])) : CV l y ws rm D cI av w w' := fun sz => ent_of (Qc := fun A => poV D A w') hy hw hlen body sz
end ENT
section BASE
variable {p : Program} {l : Launch} {e : Env} {R : Room} {s : State} {m : MethodId} {args : Array Value} {below : List Frame} {meth : Method} {c : Code} {H : Heap} {locs : List Loc} {cells slots : Nat} {Q : State → Prop}
variable {cc : ByteArray} {pc : Nat} {ls : Array Slot} {rest st0 : List Value} {A : Nat → Prop} {D : va_G} {cI : ClassId} {w w' wc wc' : va_W}
theorem retI {r v : Int32} {ty : FieldType} (hx : p.tables.exec = Jvm.exec) (hb : c.code = cc) (hr : meth.sig.returnType = some ty) (hlocks : meth.locks = false) (hS : va_S A s.heap H locs) (hP : va_P D vwCl w' H) (hD : va_D A w') (hdg : decode cc pc = .ok (.ireturn, 1)) (hv : v = r) (hn : narrow ty (.int v) = .int v) :
    W p l e R s m args below meth c H locs 0 0 (MQ below (poI D A w' r) args s 0 0 A) (F0 m pc ls [.int v]) :=
  W.zret hx hb hr hn (fun t ht _ => ⟨⟨v, (), rfl, hv, by rw [ht]; exact hP, hD⟩, hS.F ht⟩) hS.2.2 hdg hlocks
theorem retL {r v : Int64} (hx : p.tables.exec = Jvm.exec) (hb : c.code = cc) (hr : meth.sig.returnType = some .long) (hlocks : meth.locks = false) (hS : va_S A s.heap H locs) (hP : va_P D vwCl w' H) (hD : va_D A w') (hdg : decode cc pc = .ok (.lreturn, 1)) (hv : v = r) :
    W p l e R s m args below meth c H locs 0 0 (MQ below (poL D A w' r) args s 0 0 A) (F0 m pc ls [.long v]) :=
  W.lret hx hb hr (fun t ht _ => ⟨⟨v, (), rfl, hv, by rw [ht]; exact hP, hD⟩, hS.F ht⟩) hS.2.2 hdg hlocks
theorem retV (hx : p.tables.exec = Jvm.exec) (hb : c.code = cc) (hr : meth.sig.returnType = none) (hlocks : meth.locks = false) (hS : va_S A s.heap H locs) (hP : va_P D vwCl w' H) (hD : va_D A w') (hdg : decode cc pc = .ok (.return_, 1)) :
    W p l e R s m args below meth c H locs 0 0 (MQ below (poV D A w') args s 0 0 A) (F0 m pc ls []) :=
  W.vret hx hb hr (fun t ht _ => ⟨⟨(), rfl, trivial, by rw [ht]; exact hP, hD⟩, hS.F ht⟩) hS.2.2 hdg hlocks
theorem fm_map {α β : Type} (f : α → Option β) : ∀ (is : List α) (w : List β), is.map f = w.map some → is.filterMap f = w
  | [], [], _ => rfl
  | [], _ :: _, h => by simp at h
  | _ :: _, [], h => by simp at h
  | a :: is, b :: w, h => by
    simp only [List.map_cons, List.cons.injEq] at h
    rw [List.filterMap_cons, h.1]
    simp [fm_map f is w h.2]
theorem nd_app : ∀ (a b : List Nat), va_nd (a ++ b) = true → va_nd a = true ∧ va_nd b = true ∧ ∀ i ∈ a, i ∉ b
  | [], b, h => ⟨rfl, h, fun i hi => absurd hi List.not_mem_nil⟩
  | x :: a, b, h => by
    simp only [List.cons_append, va_nd, Bool.and_eq_true, decide_eq_true_eq, List.mem_append, not_or] at h
    obtain ⟨h1, h2, h3⟩ := nd_app a b h.2
    refine ⟨by simp only [va_nd, Bool.and_eq_true, decide_eq_true_eq]; exact ⟨h.1.1, h1⟩, h2, fun i hi => ?_⟩
    rcases List.mem_cons.mp hi with rfl | hi
    · exact h.1.2
    · exact h3 i hi
/-- the frame rule, with the caller's cells in their own order again -/
theorem fr_join {H1 : Heap} (hP : va_P D vwCl w H) (hD : va_D A w) (hS : va_S A s.heap H locs) (hA : ∀ q : Nat, s.heap.size ≤ q → A q) (isC isR pm : List Nat) (hC : isC.map (fun i => w[i]?) = wc.map some) (hnd : va_nd (isR ++ isC) = true) (hR : (isR.map (fun i => w[i]?)) = (isR.filterMap (fun i => w[i]?)).map some) (hpm : pm.map (fun i => ((isR.filterMap (fun i => w[i]?)) ++ wc')[i]?) = w'.map some) (hnp : va_nd pm = true)
    (hk : ∀ q : Nat, q < H.size → ¬ va_A wc H.size q → H1[q]? = H[q]?) (hP1 : va_P D vwCl wc' H1) (hD1 : va_D (va_A wc H.size) wc') : va_P D vwCl w' H1 ∧ va_D A w' := by
  obtain ⟨h1, h2, h3⟩ := nd_app isR isC hnd
  have hF := va_free (wc := wc) hD hS hA isC hC
  obtain ⟨hP2, hD2⟩ := va_join hP hD isC isR hC hR h1 h3 hk hF hP1 hD1
  exact ⟨hP2.sub pm (fm_map _ _ _ hpm), hD2.sub pm hnp hpm⟩
theorem fr_free (hD : va_D A w) (hS : va_S A s.heap H locs) (hA : ∀ q : Nat, s.heap.size ≤ q → A q) (isC : List Nat) (hC : isC.map (fun i => w[i]?) = wc.map some) : ∀ q, va_A wc H.size q → A q := va_free (wc := wc) hD hS hA isC hC
theorem preS_of {av : List Value} (hk : kw D cI s) (hP : va_P D vwCl w H) (hD : va_D A w) (isC : List Nat) (hC : isC.map (fun i => w[i]?) = wc.map some) (hni : va_nd isC = true) : PreS s H (prW D cI av wc H.size) av := by
  refine ⟨prW_blind _ _ _ _ _, fun U hU hW => ⟨rfl, by rw [hU], by rw [hU]; exact hP.sub isC (fm_map _ _ _ hC), hk.warm hW, (hD.sub isC hni hC).weaken (fun _ _ _ _ => trivial)⟩⟩
theorem preV_of {b : Addr} {As : List Value} {C : String} (hk : kw D cI s) (hP : va_P D vwCl w H) (hD : va_D A w) (isC : List Nat) (hC : isC.map (fun i => w[i]?) = wc.map some) (hni : va_nd isC = true) (hrc : ∃ cell : Cell, H[b]? = some cell ∧ cell.vm.isStatics = false ∧ s.vm.findClass C = some cell.cls) : PreV s H C b (prW D cI (.ref b :: As) wc H.size) As := by
  refine ⟨prW_blind _ _ _ _ _, hrc, fun U hU hW => ⟨rfl, by rw [hU], by rw [hU]; exact hP.sub isC (fm_map _ _ _ hC), hk.warm hW, (hD.sub isC hni hC).weaken (fun _ _ _ _ => trivial)⟩⟩
theorem recvO {b q0 ci : Nat} {q : vw_C} {fs : List Value} (hk : kw D cI s) (hP : va_P D vwCl w H) (hc : vwCl[ci]? = some q) (he : w[q0]? = some (b, .inr (ci, fs))) : ∃ cell : Cell, H[b]? = some cell ∧ cell.vm.isStatics = false ∧ s.vm.findClass q.1 = some cell.cls := va_recv hk.1 hP hc he
theorem frI {r : Int32} {a : Array Value} (hP : va_P D vwCl w H) (hD : va_D A w) (hS : va_S A s.heap H locs) (hA : ∀ q : Nat, s.heap.size ≤ q → A q) (isC isR pm : List Nat) (hC : isC.map (fun i => w[i]?) = wc.map some) (hnd : va_nd (isR ++ isC) = true) (hR : (isR.map (fun i => w[i]?)) = (isR.filterMap (fun i => w[i]?)).map some) (hpm : pm.map (fun i => ((isR.filterMap (fun i => w[i]?)) ++ wc')[i]?) = w'.map some) (hnp : va_nd pm = true)
    (hr : va_Run p l e R s m args below meth c H locs cells slots 0 0 (F0 m pc ls st0) rest (poI D (va_A wc H.size) wc' r a) (va_A wc H.size))
    (kk : ∀ (H1 : Heap) (locs1 : List Loc), va_P D vwCl w' H1 → va_D A w' → va_S A s.heap H1 locs1 → W p l e R s m args below meth c H1 locs1 cells slots Q (F0 m (pc + 3) ls (.int r :: rest))) : W p l e R s m args below meth c H locs cells slots Q (F0 m pc ls st0) := by
  have hF := fr_free (wc := wc) hD hS hA isC hC
  refine va_calli hr hS (fun q _ h => hF q h) hF (fun r' u t H1 locs1 ht hvm hw hB hz1 hk1 hS1 => ?_)
  obtain ⟨hP1, hD1⟩ := hB
  rw [ht] at hP1
  subst hw
  obtain ⟨h1, h2⟩ := fr_join (w' := w') hP hD hS hA isC isR pm hC hnd hR hpm hnp hk1 hP1 hD1
  exact kk H1 locs1 h1 h2 hS1
theorem frL {r : Int64} {a : Array Value} (hP : va_P D vwCl w H) (hD : va_D A w) (hS : va_S A s.heap H locs) (hA : ∀ q : Nat, s.heap.size ≤ q → A q) (isC isR pm : List Nat) (hC : isC.map (fun i => w[i]?) = wc.map some) (hnd : va_nd (isR ++ isC) = true) (hR : (isR.map (fun i => w[i]?)) = (isR.filterMap (fun i => w[i]?)).map some) (hpm : pm.map (fun i => ((isR.filterMap (fun i => w[i]?)) ++ wc')[i]?) = w'.map some) (hnp : va_nd pm = true)
    (hr : va_Run p l e R s m args below meth c H locs cells slots 0 0 (F0 m pc ls st0) rest (poL D (va_A wc H.size) wc' r a) (va_A wc H.size))
    (kk : ∀ (H1 : Heap) (locs1 : List Loc), va_P D vwCl w' H1 → va_D A w' → va_S A s.heap H1 locs1 → W p l e R s m args below meth c H1 locs1 cells slots Q (F0 m (pc + 3) ls (.long r :: rest))) : W p l e R s m args below meth c H locs cells slots Q (F0 m pc ls st0) := by
  have hF := fr_free (wc := wc) hD hS hA isC hC
  refine va_calll hr hS (fun q _ h => hF q h) hF (fun r' u t H1 locs1 ht hvm hw hB hz1 hk1 hS1 => ?_)
  obtain ⟨hP1, hD1⟩ := hB
  rw [ht] at hP1
  subst hw
  obtain ⟨h1, h2⟩ := fr_join (w' := w') hP hD hS hA isC isR pm hC hnd hR hpm hnp hk1 hP1 hD1
  exact kk H1 locs1 h1 h2 hS1
theorem frV {a : Array Value} (hP : va_P D vwCl w H) (hD : va_D A w) (hS : va_S A s.heap H locs) (hA : ∀ q : Nat, s.heap.size ≤ q → A q) (isC isR pm : List Nat) (hC : isC.map (fun i => w[i]?) = wc.map some) (hnd : va_nd (isR ++ isC) = true) (hR : (isR.map (fun i => w[i]?)) = (isR.filterMap (fun i => w[i]?)).map some) (hpm : pm.map (fun i => ((isR.filterMap (fun i => w[i]?)) ++ wc')[i]?) = w'.map some) (hnp : va_nd pm = true)
    (hr : va_Run p l e R s m args below meth c H locs cells slots 0 0 (F0 m pc ls st0) rest (poV D (va_A wc H.size) wc' a) (va_A wc H.size))
    (kk : ∀ (H1 : Heap) (locs1 : List Loc), va_P D vwCl w' H1 → va_D A w' → va_S A s.heap H1 locs1 → W p l e R s m args below meth c H1 locs1 cells slots Q (F0 m (pc + 3) ls rest)) : W p l e R s m args below meth c H locs cells slots Q (F0 m pc ls st0) := by
  have hF := fr_free (wc := wc) hD hS hA isC hC
  refine va_callv hr hS (fun q _ h => hF q h) hF (fun u t H1 locs1 ht hvm hw hB hz1 hk1 hS1 => ?_)
  obtain ⟨hP1, hD1⟩ := hB
  rw [ht] at hP1
  obtain ⟨h1, h2⟩ := fr_join (w' := w') hP hD hS hA isC isR pm hC hnd hR hpm hnp hk1 hP1 hD1
  exact kk H1 locs1 h1 h2 hS1
theorem top_eq {v v' : Value} (h : v = v') (k : W p l e R s m args below meth c H locs cells slots Q (F0 m pc ls (v' :: rest))) : W p l e R s m args below meth c H locs cells slots Q (F0 m pc ls (v :: rest)) := by
  subst h
  exact k
theorem top_int {x y : Int32} (h : x = y) (k : W p l e R s m args below meth c H locs cells slots Q (F0 m pc ls (.int y :: rest))) : W p l e R s m args below meth c H locs cells slots Q (F0 m pc ls (.int x :: rest)) := by
  subst h
  exact k
theorem aldN (hexec : p.tables.exec = Jvm.exec) (hb : c.code = cc) (hK : kw D cI s) (hP : va_P D vwCl w H) (q0 : Nat) {a n : Nat} {f : Nat → Int32} (ha : w[q0]? = some (a, .inl (cI, n, .inl f))) {i : Int32} (k : Nat) (hi : i = nI k) (hk : k < n) (hn : n < 2 ^ 31) (hdg : decode cc pc = .ok (.iaload, 1))
    (kk : W p l e R s m args below meth c H locs cells slots Q (F0 m (pc + 1) ls (.int (f k) :: rest))) : W p l e R s m args below meth c H locs cells slots Q (F0 m pc ls (.int i :: .ref a :: rest)) := by
  subst hi
  refine va_iald hexec hb hK.1 hP q0 0 ha rfl (vp_in_nI hk hn) hdg ?_
  rw [nI_clamp (Nat.lt_trans hk hn)]
  exact kk
theorem astN {H0 : Heap} (hexec : p.tables.exec = Jvm.exec) (hb : c.code = cc) (hK : kw D cI s) (hP : va_P D vwCl w H) (hD : va_D A w) (hS : va_S A H0 H locs) (q0 : Nat) {a n : Nat} {f : Nat → Int32} (ha : w[q0]? = some (a, .inl (cI, n, .inl f))) {i x : Int32} (k : Nat) (hi : i = nI k) (hk : k < n) (hn : n < 2 ^ 31) (hdg : decode cc pc = .ok (.iastore, 1))
    (kk : ∀ (H1 : Heap) (locs1 : List Loc), va_P D vwCl (w.set q0 (a, .inl (cI, n, .inl (upd f k x)))) H1 → va_D A (w.set q0 (a, .inl (cI, n, .inl (upd f k x)))) → va_S A H0 H1 locs1 → W p l e R s m args below meth c H1 locs1 cells slots Q (F0 m (pc + 1) ls rest)) : W p l e R s m args below meth c H locs cells slots Q (F0 m pc ls (.int x :: .int i :: .ref a :: rest)) := by
  subst hi
  refine va_iast hexec hb hK.1 hP hD hS q0 0 ha rfl (vp_in_nI hk hn) hdg ?_
  rw [nI_clamp (Nat.lt_trans hk hn)]
  exact kk
theorem icgeN (hexec : p.tables.exec = Jvm.exec) (hb : c.code = cc) {i n : Nat} {off : Int} {tgt : Nat} (hi : i < 2 ^ 31) (hn : n < 2 ^ 31) (hdg : decode cc pc = .ok (.if_icmp .ge off, 3)) (ht : (pc : Int) + off = (tgt : Int))
    (kt : n ≤ i → W p l e R s m args below meth c H locs cells slots Q (F0 m tgt ls rest)) (kf : i < n → W p l e R s m args below meth c H locs cells slots Q (F0 m (pc + 3) ls rest)) : W p l e R s m args below meth c H locs cells slots Q (F0 m pc ls (.int (nI n) :: .int (nI i) :: rest)) :=
  lv_icmp_ge hexec hb hdg ht (fun h => kt ((nI_leI hn hi).mp h)) (fun h => kf (Nat.not_le.mp (fun q => h ((nI_leI hn hi).mpr q))))
theorem icltN (hexec : p.tables.exec = Jvm.exec) (hb : c.code = cc) {i n : Nat} {off : Int} {tgt : Nat} (hi : i < 2 ^ 31) (hn : n < 2 ^ 31) (hdg : decode cc pc = .ok (.if_icmp .lt off, 3)) (ht : (pc : Int) + off = (tgt : Int))
    (kt : i < n → W p l e R s m args below meth c H locs cells slots Q (F0 m tgt ls rest)) (kf : n ≤ i → W p l e R s m args below meth c H locs cells slots Q (F0 m (pc + 3) ls rest)) : W p l e R s m args below meth c H locs cells slots Q (F0 m pc ls (.int (nI n) :: .int (nI i) :: rest)) :=
  lv_icmp_lt hexec hb hdg ht (fun h => kt ((nI_ltI hi hn).mp h)) (fun h => kf (Nat.not_lt.mp (fun q => h ((nI_ltI hi hn).mpr q))))
end BASE
