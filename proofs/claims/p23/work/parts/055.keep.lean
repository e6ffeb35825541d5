/-! what the reference keeps while it looks ahead: contracts that know the class of rows of rows -/
def kR (D : va_G) (cI cA : ClassId) (U : State) : Prop := kw D cI U ∧ kq U ∧ U.vm.findClass ("[" ++ (FieldType.array .int).toString) = some cA
theorem kR.warm {D : va_G} {cI cA : ClassId} {s U : State} (hW : s.WarmedH U.vm) (h : kR D cI cA s) : kR D cI cA U := ⟨h.1.warm hW, h.2.1.warm hW, by first | (rw [← hW.alike.findClass]; exact h.2.2) | (rw [hW.alike.findClass]; exact h.2.2)⟩
theorem kR.same {D : va_G} {cI cA : ClassId} {s U : State} (hv : s.vm = U.vm) (h : kR D cI cA s) : kR D cI cA U := ⟨kw.same hv h.1, kq.same hv h.2.1, by rw [← hv]; exact h.2.2⟩
theorem kR.rA {D : va_G} {cI cA : ClassId} {s : State} (h : kR D cI cA s) : ∃ (kA : Class) (comp : ClassId), s.vm.classes[cA]? = some kA ∧ kA.kind = .array comp (.array .int) ∧ s.vm.findClass "[I" = some comp := by
  obtain ⟨comp, c, k, hc, hi, hk, hkind, hn⟩ := arrayOverA_spec h.2.1.1
  cases hn.symm.trans h.2.2
  rw [show (FieldType.array FieldType.int).toString = "[I" by decide +kernel] at hc
  exact ⟨k, comp, hk, hkind, hc⟩
theorem kR.arr {D : va_G} {cI cA : ClassId} {s : State} (h : kR D cI cA s) : ArrOfT s cA (.array .int) := by
  obtain ⟨kA, comp, f2, f3, -⟩ := h.rA
  exact fun N z => ⟨(fun k h => by cases h), kA, f2, comp, f3⟩
def prR (D : va_G) (cI cA : ClassId) (av : List Value) (w : va_W) (sz : Nat) : Array Value → State → Prop := va_Pc av (fun U => U.heap.size = sz ∧ va_P D vwCl w U.heap ∧ kR D cI cA U ∧ va_D (fun _ => True) w)
theorem prR_blind (D : va_G) (cI cA : ClassId) (av : List Value) (w : va_W) (sz : Nat) : FrameBlind (prR D cI cA av w sz) := fun a U g mk q => by
  obtain ⟨q0, q1, qP, qK, qD⟩ := q
  exact ⟨q0, q1, qP, kR.same (s := U) (U := U.calling g mk a) rfl qK, qD⟩
def poR (D : va_G) (A : Nat → Prop) (wn : Nat → (Nat → Nat) → va_W) := va_Qr (fun (_ : Nat → Nat) => True) (fun (q : Nat → Nat) a t => va_P D vwCl (wn a q) t.heap ∧ va_D A (wn a q)) A
def CIr (l : Launch) (y : MethodName) (ws : List Cond) (rm : Room) (D : va_G) (cI cA : ClassId) (av : List Value) (w : va_W) (r : Int32) (w' : va_W) (mc ms : Nat) : Prop := ∀ sz : Nat, Met l y ws rm (prR D cI cA av w sz) (poI D (va_A w sz) w' r) mc ms (va_A w sz)
def CVr (l : Launch) (y : MethodName) (ws : List Cond) (rm : Room) (D : va_G) (cI cA : ClassId) (av : List Value) (w : va_W) (w' : va_W) : Prop := ∀ sz : Nat, Met l y ws rm (prR D cI cA av w sz) (poV D (va_A w sz) w') 0 0 (va_A w sz)
def CR (l : Launch) (y : MethodName) (ws : List Cond) (rm : Room) (D : va_G) (cI cA : ClassId) (av : List Value) (w : va_W) (wn : Nat → (Nat → Nat) → va_W) (mc ms : Nat) : Prop := ∀ sz : Nat, Met l y ws rm (prR D cI cA av w sz) (poR D (va_A w sz) wn) mc ms (va_A w sz)
section ENTR
variable {l : Launch} {y : MethodName} {ws ws1 : List Cond} {rm : Room} {D : va_G} {cI cA : ClassId} {av : List Value} {w w' : va_W} {cc : ByteArray} {maxL : Nat} {ret : Option FieldType} {mc ms : Nat}
theorem ent_ofR {Qc : (Nat → Prop) → Array Value → State → Outcome → State → Prop} (hy : plainName y.cls = true) (hw : ws = Cond.code y cc maxL ret :: ws1) (hlen : (lg_sl av).length ≤ maxL)
    (body : ∀ (p : Program) (e : Env) (s : State) (m : MethodId) (below : List Frame) (meth : Method) (c : Code) (A : Nat → Prop) (ls : Array Slot), kR D cI cA s → FX p s m meth c cc maxL ret av ws y D cI A w → lv_has ls maxL (lv_args 0 av) →
      W p l e rm s m av.toArray below meth c s.heap [] 0 0 (MQ below (Qc A) av.toArray s mc ms A) (F0 m 0 ls [])) (sz : Nat) : Met l y ws rm (prR D cI cA av w sz) (Qc (va_A w sz)) mc ms (va_A w sz) := by
  refine Met.ofW (cc := cc) (maxL := maxL) (ret := ret) hy hw ?_
  intro p e s m args below meth c s₁ B hml hv
  obtain ⟨rfl, hsz, hP, hK, hD0⟩ := hv
  subst hsz
  have hl := lv_entry av hlen
  rw [lg_entry_eq]
  exact body p e s m below meth c (va_A w s.heap.size) _ hK ⟨B.exec, B.bytes, B.returns, hml, findClass_of_methodNamed B.named, atoms_spec (ws := ws) B.pre, B.notSynchronized, hK.1, hP, hD0.self (sz := s.heap.size), fun q h => Or.inr h⟩ hl
theorem entIr {r : Int32} (hy : plainName y.cls = true) (hw : ws = Cond.code y cc maxL ret :: ws1) (hlen : (lg_sl av).length ≤ maxL)
    (body : ∀ (p : Program) (e : Env) (s : State) (m : MethodId) (below : List Frame) (meth : Method) (c : Code) (A : Nat → Prop) (ls : Array Slot), kR D cI cA s → FX p s m meth c cc maxL ret av ws y D cI A w → lv_has ls maxL (lv_args 0 av) →
      W p l e rm s m av.toArray below meth c s.heap [] 0 0 (MQ below (poI D A w' r) av.toArray s mc ms A) (F0 m 0 ls [])) : CIr l y ws rm D cI cA av w r w' mc ms := fun sz => ent_ofR (Qc := fun A => poI D A w' r) hy hw hlen body sz
theorem entVr (hy : plainName y.cls = true) (hw : ws = Cond.code y cc maxL ret :: ws1) (hlen : (lg_sl av).length ≤ maxL)
    (body : ∀ (p : Program) (e : Env) (s : State) (m : MethodId) (below : List Frame) (meth : Method) (c : Code) (A : Nat → Prop) (ls : Array Slot), kR D cI cA s → FX p s m meth c cc maxL ret av ws y D cI A w → lv_has ls maxL (lv_args 0 av) →
      W p l e rm s m av.toArray below meth c s.heap [] 0 0 (MQ below (poV D A w') av.toArray s 0 0 A) (F0 m 0 ls [])) : CVr l y ws rm D cI cA av w w' := fun sz => ent_ofR (mc := 0) (ms := 0) (Qc := fun A => poV D A w') hy hw hlen body sz
theorem entR {wn : Nat → (Nat → Nat) → va_W} (hy : plainName y.cls = true) (hw : ws = Cond.code y cc maxL ret :: ws1) (hlen : (lg_sl av).length ≤ maxL)
    (body : ∀ (p : Program) (e : Env) (s : State) (m : MethodId) (below : List Frame) (meth : Method) (c : Code) (A : Nat → Prop) (ls : Array Slot), kR D cI cA s → FX p s m meth c cc maxL ret av ws y D cI A w → lv_has ls maxL (lv_args 0 av) →
      W p l e rm s m av.toArray below meth c s.heap [] 0 0 (MQ below (poR D A wn) av.toArray s mc ms A) (F0 m 0 ls [])) : CR l y ws rm D cI cA av w wn mc ms := fun sz => ent_ofR (Qc := fun A => poR D A wn) hy hw hlen body sz
end ENTR
section BASER
variable {p : Program} {l : Launch} {e : Env} {R : Room} {s : State} {m : MethodId} {args : Array Value} {below : List Frame} {meth : Method} {c : Code} {H : Heap} {locs : List Loc} {cells slots mc ms : Nat} {Q : State → Prop}
variable {cc : ByteArray} {pc : Nat} {ls : Array Slot} {rest st0 : List Value} {A : Nat → Prop} {D : va_G} {cI cA : ClassId} {w w' wc wc' : va_W} {H0 : Heap}
theorem preVR_of {b : Addr} {As : List Value} {C : String} (hk : kR D cI cA s) (hP : va_P D vwCl w H) (hD : va_D A w) (isC : List Nat) (hC : isC.map (fun i => w[i]?) = wc.map some) (hni : va_nd isC = true) (hrc : ∃ cell : Cell, H[b]? = some cell ∧ cell.vm.isStatics = false ∧ s.vm.findClass C = some cell.cls) : PreV s H C b (prR D cI cA (.ref b :: As) wc H.size) As := by
  refine ⟨prR_blind _ _ _ _ _ _, hrc, fun U hU hW => ⟨rfl, by rw [hU], by rw [hU]; exact hP.sub isC (fm_map _ _ _ hC), hk.warm hW, (hD.sub isC hni hC).weaken (fun _ _ _ _ => trivial)⟩⟩
theorem retR {rt : FieldType} {a : Nat} {wn : Nat → (Nat → Nat) → va_W} (q : Nat → Nat) (hx : p.tables.exec = Jvm.exec) (hb : c.code = cc) (hr : meth.sig.returnType = some (.array rt)) (hlocks : meth.locks = false) (hS : va_S A s.heap H locs) (hP : va_P D vwCl (wn a q) H) (hD : va_D A (wn a q)) (hdg : decode cc pc = .ok (.areturn, 1)) (h1 : cells ≤ mc) (h2 : slots ≤ ms) :
    W p l e R s m args below meth c H locs cells slots (MQ below (poR D A wn) args s mc ms A) (F0 m pc ls [.ref a]) :=
  W.widen h1 h2 (W.aret hx hb hr (Or.inr ⟨_, rfl⟩) (Or.inr ⟨a, rfl⟩) (fun t ht _ => ⟨⟨q, a, rfl, trivial, by rw [ht]; exact hP, hD⟩, hS.F ht⟩) hS.2.2 hdg hlocks)
theorem frR {a0 : Array Value} {wn : Nat → (Nat → Nat) → va_W} (hP : va_P D vwCl w H) (hD : va_D A w) (hS : va_S A s.heap H locs) (hA : ∀ q : Nat, s.heap.size ≤ q → A q) (isC isR : List Nat) (hC : isC.map (fun i => w[i]?) = wc.map some) (hnd : va_nd (isR ++ isC) = true) (hR : (isR.map (fun i => w[i]?)) = (isR.filterMap (fun i => w[i]?)).map some)
    (hr : va_Run p l e R s m args below meth c H locs cells slots mc ms (F0 m pc ls st0) rest (poR D (va_A wc H.size) wn a0) (va_A wc H.size))
    (kk : ∀ (a : Nat) (q : Nat → Nat) (H1 : Heap) (locs1 : List Loc), va_P D vwCl (isR.filterMap (fun i => w[i]?) ++ wn a q) H1 → va_D A (isR.filterMap (fun i => w[i]?) ++ wn a q) → va_S A s.heap H1 locs1 → W p l e R s m args below meth c H1 locs1 (cells + mc) (slots + ms) Q (F0 m (pc + 3) ls (.ref a :: rest))) : W p l e R s m args below meth c H locs cells slots Q (F0 m pc ls st0) := by
  obtain ⟨n1, n2, n3⟩ := nd_app isR isC hnd
  have hF := fr_free (wc := wc) hD hS hA isC hC
  refine va_callr hr hS (fun q _ h => hF q h) hF (fun q a t H1 locs1 ht hvm hw hB hz1 hk1 hS1 => ?_)
  obtain ⟨hP1, hD1⟩ := hB
  rw [ht] at hP1
  obtain ⟨h1, h2⟩ := va_join hP hD isC isR hC hR n1 n3 hk1 hF hP1 hD1
  exact kk a q H1 locs1 h1 h2 hS1
theorem anewK (hexec : p.tables.exec = Jvm.exec) (hb : c.code = cc) {own : String} {index : Nat} (hown : s.vm.findClass own = some m.cls) (hclink : (Cond.classLink own index "[I").before args s = true) (hk : kR D cI cA s) (hP : va_P D vwCl w H) (hD : va_D A w) (hS : va_S A H0 H locs) (hA : ∀ q, H0.size ≤ q → A q)
    {n : Int32} {N' : Nat} (hn : ¬ n < 0) (hN : n.toNatClampNeg = N') (hbytes : N' * 4 ≤ 536870912) (hcells : cells + 1 ≤ R.cells) (hslots : slots + N' ≤ R.slots) (hdg : decode cc pc = .ok (.anewarray index, 3))
    (kk : ∀ (q : Nat) (H1 : Heap), va_P D vwCl (w ++ [(q, .inl (cA, N', .inr (.inr (.inr (.inr (fun _ => none))))))]) H1 → va_D A (w ++ [(q, .inl (cA, N', .inr (.inr (.inr (.inr (fun _ => none))))))]) → va_S A H0 H1 locs →
      W p l e R s m args below meth c H1 locs (cells + 1) (slots + N') Q (F0 m (pc + 3) ls (.ref q :: rest))) : W p l e R s m args below meth c H locs cells slots Q (F0 m pc ls (.int n :: rest)) := by
  subst hN
  refine W.anewA (t := .int) hexec hb hown (by rw [show (FieldType.array FieldType.int).toString = "[I" by decide +kernel]; exact hclink) (over_moved (Vm.Alike.refl s.vm) hk.2.1.1) rfl hdg rfl hn hbytes hcells hslots fun cA1 kA comp f1 f2 f3 f4 => ?_
  cases hk.2.2.symm.trans f1
  generalize hH1 : H.push ({ cls := cA, slots := Array.replicate n.toNatClampNeg .null, vm := .none } : Cell) = H1
  have z1 : H1.size = H.size + 1 := by rw [← hH1, Array.size_push]
  have e1 : H1[H.size]? = some (arrV cA n.toNatClampNeg (fun _ => .null)) := by rw [← hH1, Array.getElem?_push_size, ← arrV_new]
  have o1 : ∀ q : Nat, q < H.size → H1[q]? = H[q]? := fun q hq => by rw [← hH1, Array.getElem?_push, if_neg (Nat.ne_of_lt hq)]
  have hk : ∀ (k : Nat) (x : Nat × va_E), w[k]? = some x → H1[x.1]? = H[x.1]? := fun k x hx => o1 x.1 ((hP k x hx).lt)
  refine kk H.size H1 ((hP.kept hk).app (fun k x hx => ?_)) (hD.push hP rfl (hA _ hS.1)) ⟨Nat.le_trans hS.1 (by omega), fun x h1 h2 => (o1 x (Nat.lt_of_lt_of_le h1 hS.1)).trans (hS.2.1 x h1 h2), hS.2.2⟩
  have hz : k < 1 := (List.getElem?_eq_some_iff.mp hx).1
  rw [show k = 0 by omega] at hx
  cases hx
  show H1[H.size]? = some (vp_cell _ _)
  rw [vp_cell_q]
  exact e1
end BASER
