/-! methods that make rows of their own -/
def CIm (l : Launch) (y : MethodName) (ws : List Cond) (rm : Room) (D : va_G) (cI : ClassId) (av : List Value) (w : va_W) (r : Int32) (w' : va_W) (mc ms : Nat) : Prop := ∀ sz : Nat, Met l y ws rm (prW D cI av w sz) (poI D (va_A w sz) w' r) mc ms (va_A w sz)
/-- a constructor: the cells that it makes lie where q says -/
def poN (D : va_G) (A : Nat → Prop) (w' : (Nat → Nat) → va_W) := va_Qv (fun (_ : Nat → Nat) => True) (fun (q : Nat → Nat) t => va_P D vwCl (w' q) t.heap ∧ va_D A (w' q)) A
def CN (l : Launch) (y : MethodName) (ws : List Cond) (rm : Room) (D : va_G) (cI : ClassId) (av : List Value) (w : va_W) (w' : (Nat → Nat) → va_W) (mc ms : Nat) : Prop := ∀ sz : Nat, Met l y ws rm (prW D cI av w sz) (poN D (va_A w sz) w') mc ms (va_A w sz)
section ENTM
variable {l : Launch} {y : MethodName} {ws ws1 : List Cond} {rm : Room} {D : va_G} {cI : ClassId} {av : List Value} {w w' : va_W} {cc : ByteArray} {maxL : Nat} {ret : Option FieldType} {mc ms : Nat}
theorem ent_ofM {Qc : (Nat → Prop) → Array Value → State → Outcome → State → Prop} (hy : plainName y.cls = true) (hw : ws = Cond.code y cc maxL ret :: ws1) (hlen : (lg_sl av).length ≤ maxL)
    (body : ∀ (p : Program) (e : Env) (s : State) (m : MethodId) (below : List Frame) (meth : Method) (c : Code) (A : Nat → Prop) (ls : Array Slot), (∃ u : Bool, u = true ∧ (meth.name = "<init>" ∨ y.name ≠ "<init>")) → FX p s m meth c cc maxL ret av ws y D cI A w → lv_has ls maxL (lv_args 0 av) →
      W p l e rm s m av.toArray below meth c s.heap [] 0 0 (MQ below (Qc A) av.toArray s mc ms A) (F0 m 0 ls [])) (sz : Nat) : Met l y ws rm (prW D cI av w sz) (Qc (va_A w sz)) mc ms (va_A w sz) := by
  refine Met.ofW (cc := cc) (maxL := maxL) (ret := ret) hy hw ?_
  intro p e s m args below meth c s₁ B hml hv
  obtain ⟨rfl, hsz, hP, hK, hD0⟩ := hv
  subst hsz
  have hl := lv_entry av hlen
  rw [lg_entry_eq]
  refine body p e s m below meth c (va_A w s.heap.size) _ ⟨true, rfl, ?_⟩ ⟨B.exec, B.bytes, B.returns, hml, findClass_of_methodNamed B.named, atoms_spec (ws := ws) B.pre, B.notSynchronized, hK, hP, hD0.self (sz := s.heap.size), fun q h => Or.inr h⟩ hl
  by_cases hn : y.name = "<init>"
  · exact Or.inl ((name_of_methodNamed B.named B.method).1.trans hn)
  · exact Or.inr hn
theorem entIm {r : Int32} (hy : plainName y.cls = true) (hw : ws = Cond.code y cc maxL ret :: ws1) (hlen : (lg_sl av).length ≤ maxL)
    (body : ∀ (p : Program) (e : Env) (s : State) (m : MethodId) (below : List Frame) (meth : Method) (c : Code) (A : Nat → Prop) (ls : Array Slot), (∃ u : Bool, u = true ∧ (meth.name = "<init>" ∨ y.name ≠ "<init>")) → FX p s m meth c cc maxL ret av ws y D cI A w → lv_has ls maxL (lv_args 0 av) →
      W p l e rm s m av.toArray below meth c s.heap [] 0 0 (MQ below (poI D A w' r) av.toArray s mc ms A) (F0 m 0 ls [])) : CIm l y ws rm D cI av w r w' mc ms := fun sz => ent_ofM (Qc := fun A => poI D A w' r) hy hw hlen body sz
theorem entN {wn : (Nat → Nat) → va_W} (hy : plainName y.cls = true) (hw : ws = Cond.code y cc maxL ret :: ws1) (hlen : (lg_sl av).length ≤ maxL)
    (body : ∀ (p : Program) (e : Env) (s : State) (m : MethodId) (below : List Frame) (meth : Method) (c : Code) (A : Nat → Prop) (ls : Array Slot), (∃ u : Bool, u = true ∧ (meth.name = "<init>" ∨ y.name ≠ "<init>")) → FX p s m meth c cc maxL ret av ws y D cI A w → lv_has ls maxL (lv_args 0 av) →
      W p l e rm s m av.toArray below meth c s.heap [] 0 0 (MQ below (poN D A wn) av.toArray s mc ms A) (F0 m 0 ls [])) : CN l y ws rm D cI av w wn mc ms := fun sz => ent_ofM (Qc := fun A => poN D A wn) hy hw hlen body sz
end ENTM
section BASEM
variable {p : Program} {l : Launch} {e : Env} {R : Room} {s : State} {m : MethodId} {args : Array Value} {below : List Frame} {meth : Method} {c : Code} {H : Heap} {locs : List Loc} {cells slots mc ms : Nat} {Q : State → Prop}
variable {cc : ByteArray} {pc : Nat} {ls : Array Slot} {rest st0 : List Value} {A : Nat → Prop} {D : va_G} {cI : ClassId} {w w' wc wc' : va_W}
theorem retIm {r v : Int32} {ty : FieldType} (hx : p.tables.exec = Jvm.exec) (hb : c.code = cc) (hr : meth.sig.returnType = some ty) (hlocks : meth.locks = false) (hS : va_S A s.heap H locs) (hP : va_P D vwCl w' H) (hD : va_D A w') (hdg : decode cc pc = .ok (.ireturn, 1)) (hv : v = r) (hn : narrow ty (.int v) = .int v) (h1 : cells ≤ mc) (h2 : slots ≤ ms) :
    W p l e R s m args below meth c H locs cells slots (MQ below (poI D A w' r) args s mc ms A) (F0 m pc ls [.int v]) :=
  W.widen h1 h2 (W.zret hx hb hr hn (fun t ht _ => ⟨⟨v, (), rfl, hv, by rw [ht]; exact hP, hD⟩, hS.F ht⟩) hS.2.2 hdg hlocks)
theorem retN {wn : (Nat → Nat) → va_W} (q : Nat → Nat) (hx : p.tables.exec = Jvm.exec) (hb : c.code = cc) (hr : meth.sig.returnType = none) (hlocks : meth.locks = false) (hS : va_S A s.heap H locs) (hP : va_P D vwCl (wn q) H) (hD : va_D A (wn q)) (hdg : decode cc pc = .ok (.return_, 1)) (h1 : cells ≤ mc) (h2 : slots ≤ ms) :
    W p l e R s m args below meth c H locs cells slots (MQ below (poN D A wn) args s mc ms A) (F0 m pc ls []) :=
  W.widen h1 h2 (W.vret hx hb hr (fun t ht _ => ⟨⟨q, rfl, trivial, by rw [ht]; exact hP, hD⟩, hS.F ht⟩) hS.2.2 hdg hlocks)
theorem frIm {r : Int32} {a : Array Value} (hP : va_P D vwCl w H) (hD : va_D A w) (hS : va_S A s.heap H locs) (hA : ∀ q : Nat, s.heap.size ≤ q → A q) (isC isR pm : List Nat) (hC : isC.map (fun i => w[i]?) = wc.map some) (hnd : va_nd (isR ++ isC) = true) (hR : (isR.map (fun i => w[i]?)) = (isR.filterMap (fun i => w[i]?)).map some) (hpm : pm.map (fun i => ((isR.filterMap (fun i => w[i]?)) ++ wc')[i]?) = w'.map some) (hnp : va_nd pm = true)
    (hr : va_Run p l e R s m args below meth c H locs cells slots mc ms (F0 m pc ls st0) rest (poI D (va_A wc H.size) wc' r a) (va_A wc H.size))
    (kk : ∀ (H1 : Heap) (locs1 : List Loc), va_P D vwCl w' H1 → va_D A w' → va_S A s.heap H1 locs1 → W p l e R s m args below meth c H1 locs1 (cells + mc) (slots + ms) Q (F0 m (pc + 3) ls (.int r :: rest))) : W p l e R s m args below meth c H locs cells slots Q (F0 m pc ls st0) := by
  have hF := fr_free (wc := wc) hD hS hA isC hC
  refine va_calli hr hS (fun q _ h => hF q h) hF (fun r' u t H1 locs1 ht hvm hw hB hz1 hk1 hS1 => ?_)
  obtain ⟨hP1, hD1⟩ := hB
  rw [ht] at hP1
  subst hw
  obtain ⟨h1, h2⟩ := fr_join (w' := w') hP hD hS hA isC isR pm hC hnd hR hpm hnp hk1 hP1 hD1
  exact kk H1 locs1 h1 h2 hS1
/-- behind a constructor: the cells of the caller that it didn't get, then its own -/
theorem frN {a : Array Value} {wn : (Nat → Nat) → va_W} (hP : va_P D vwCl w H) (hD : va_D A w) (hS : va_S A s.heap H locs) (hA : ∀ q : Nat, s.heap.size ≤ q → A q) (isC isR : List Nat) (hC : isC.map (fun i => w[i]?) = wc.map some) (hnd : va_nd (isR ++ isC) = true) (hR : (isR.map (fun i => w[i]?)) = (isR.filterMap (fun i => w[i]?)).map some)
    (hr : va_Run p l e R s m args below meth c H locs cells slots mc ms (F0 m pc ls st0) rest (poN D (va_A wc H.size) wn a) (va_A wc H.size))
    (kk : ∀ (q : Nat → Nat) (H1 : Heap) (locs1 : List Loc), va_P D vwCl (isR.filterMap (fun i => w[i]?) ++ wn q) H1 → va_D A (isR.filterMap (fun i => w[i]?) ++ wn q) → va_S A s.heap H1 locs1 → W p l e R s m args below meth c H1 locs1 (cells + mc) (slots + ms) Q (F0 m (pc + 3) ls rest)) : W p l e R s m args below meth c H locs cells slots Q (F0 m pc ls st0) := by
  obtain ⟨n1, n2, n3⟩ := nd_app isR isC hnd
  have hF := fr_free (wc := wc) hD hS hA isC hC
  refine va_callv hr hS (fun q _ h => hF q h) hF (fun q t H1 locs1 ht hvm hw hB hz1 hk1 hS1 => ?_)
  obtain ⟨hP1, hD1⟩ := hB
  rw [ht] at hP1
  obtain ⟨h1, h2⟩ := va_join hP hD isC isR hC hR n1 n3 hk1 hF hP1 hD1
  exact kk q H1 locs1 h1 h2 hS1
end BASEM
theorem one_cls {D : va_G} {cI cA : ClassId} {s : State} (h : va_K D vwCl ([(cI, .int)] ++ [(cA, .int)]) s) : cI = cA := Option.some.inj ((h.2 0 (cI, .int) rfl).2.symm.trans (h.2 1 (cA, .int) rfl).2)
theorem um_o {g : Mx} {w n w' d : Nat} {x : Int32} (h : ¬ d = n) : um g w n x w' d = g w' d := by
  unfold um
  cases Nat.beq w' w with
  | false => rfl
  | true => exact pk_un h
theorem dAdd_o {g : Mx} {n : Nat} {a b c : Int32} {w d : Nat} (h : ¬ d = n) : dAdd g n a b c w d = g w d := by
  unfold dAdd
  rw [um_o h, um_o h, um_o h, um_o h, um_o h]
theorem uAdd_o {f : Mx} {n : Nat} {a b c e : Int32} {w d : Nat} (h : ¬ d = n) : uAdd f n a b c e w d = f w d := by
  unfold uAdd
  rw [um_o h, um_o h, um_o h, um_o h]
theorem sAdd_o {f : Mx} {n : Nat} {a b : Int32} {w d : Nat} (h : ¬ d = n) : sAdd f n a b w d = f w d := by
  unfold sAdd
  rw [um_o h, um_o h]
theorem cpy_dim {n : Nat} {g : Mx} {a b c : Int32} {f : Nat → Int32} (hn : n ≤ 8) (h0 : f 0 = a) (h1 : f 1 = 0) (h2 : f 2 = 0) (h3 : f 3 = b) (h4 : f 4 = c) : va_cpy f (fl 5 g) ((0 : Int32).toNatClampNeg) ((nI (5 * n)).toNatClampNeg) ((5 : Int32).toNatClampNeg) = fl 5 (dAdd g n a b c) := by
  rw [nI_clamp (show 5 * n < 2 ^ 31 by omega), show (0 : Int32).toNatClampNeg = 0 from rfl, show (5 : Int32).toNatClampNeg = 5 from rfl]
  funext k
  unfold va_cpy
  by_cases h : 5 * n ≤ k ∧ k < 5 * n + 5
  · rw [if_pos h]
    obtain ⟨w, hw, rfl⟩ : ∃ w, w < 5 ∧ k = 5 * n + w := ⟨k - 5 * n, by omega, by omega⟩
    rw [fl_r hw, show 0 + (5 * n + w - 5 * n) = w by omega]
    rcases (show w = 0 ∨ w = 1 ∨ w = 2 ∨ w = 3 ∨ w = 4 by omega) with rfl | rfl | rfl | rfl | rfl
    · rw [h0]; exact pk_us.symm
    · rw [h1]; exact pk_us.symm
    · rw [h2]; exact pk_us.symm
    · rw [h3]; exact pk_us.symm
    · rw [h4]; exact pk_us.symm
  · rw [if_neg h]
    show g (k % 5) (k / 5) = dAdd g n a b c (k % 5) (k / 5)
    exact (dAdd_o (by omega)).symm
theorem cpy_cue {n : Nat} {g : Mx} {a b c e : Int32} {f : Nat → Int32} (hn : n ≤ 24) (h0 : f 0 = a) (h1 : f 1 = b) (h2 : f 2 = c) (h3 : f 3 = e) : va_cpy f (fl 4 g) ((0 : Int32).toNatClampNeg) ((nI (4 * n)).toNatClampNeg) ((4 : Int32).toNatClampNeg) = fl 4 (uAdd g n a b c e) := by
  rw [nI_clamp (show 4 * n < 2 ^ 31 by omega), show (0 : Int32).toNatClampNeg = 0 from rfl, show (4 : Int32).toNatClampNeg = 4 from rfl]
  funext k
  unfold va_cpy
  by_cases h : 4 * n ≤ k ∧ k < 4 * n + 4
  · rw [if_pos h]
    obtain ⟨w, hw, rfl⟩ : ∃ w, w < 4 ∧ k = 4 * n + w := ⟨k - 4 * n, by omega, by omega⟩
    rw [fl_r hw, show 0 + (4 * n + w - 4 * n) = w by omega]
    rcases (show w = 0 ∨ w = 1 ∨ w = 2 ∨ w = 3 by omega) with rfl | rfl | rfl | rfl
    · rw [h0]; exact pk_us.symm
    · rw [h1]; exact pk_us.symm
    · rw [h2]; exact pk_us.symm
    · rw [h3]; exact pk_us.symm
  · rw [if_neg h]
    show g (k % 4) (k / 4) = uAdd g n a b c e (k % 4) (k / 4)
    exact (uAdd_o (by omega)).symm
/-- a row copied back, whole -/
theorem cpy_all {n : Nat} {f g : Nat → Int32} {v : Int32} (hv : v.toNatClampNeg = n) : ∀ j : Nat, j < n → va_cpy f g ((0 : Int32).toNatClampNeg) ((0 : Int32).toNatClampNeg) v.toNatClampNeg j = f j := by
  intro j hj
  rw [hv, show (0 : Int32).toNatClampNeg = 0 from rfl]
  unfold va_cpy
  rw [if_pos ⟨Nat.zero_le _, by omega⟩]
  congr 1
  omega
