/-! the law's own small methods: they catch what the class throws -/
def kl (D : va_G) (cI cL : ClassId) (U : State) : Prop := kx D cI U ∧ va_K D vwCl [(cL, .long)] U
theorem kl.warm {D : va_G} {cI cL : ClassId} {s U : State} (hW : s.WarmedH U.vm) (h : kl D cI cL s) : kl D cI cL U := ⟨h.1.warm hW, va_K.moved hW.alike h.2⟩
theorem kl.same {D : va_G} {cI cL : ClassId} {s U : State} (hv : s.vm = U.vm) (h : kl D cI cL s) : kl D cI cL U := ⟨kx.same hv h.1, va_K.moved (hv ▸ Vm.Alike.refl s.vm) h.2⟩
def prL (D : va_G) (cI cL : ClassId) (av : List Value) (w : va_W) (sz : Nat) : Array Value → State → Prop := va_Pc av (fun U => U.heap.size = sz ∧ va_P D vwCl w U.heap ∧ kl D cI cL U ∧ va_D (fun _ => True) w ∧ zx (va_A w sz) U U.heap)
theorem prL_blind (D : va_G) (cI cL : ClassId) (av : List Value) (w : va_W) (sz : Nat) : FrameBlind (prL D cI cL av w sz) := fun a U g mk q => by
  obtain ⟨q0, q1, qP, qK, qD, qZ⟩ := q
  exact ⟨q0, q1, qP, kl.same (s := U) (U := U.calling g mk a) rfl qK, qD, zx.moved (u := U) (U := U.calling g mk a) (Vm.Alike.refl U.vm) qZ⟩
def CW (l : Launch) (y : MethodName) (ws : List Cond) (rm : Room) (D : va_G) (cI cL : ClassId) (av : List Value) (w : va_W) (k : Int32) (w' : va_W) : Prop := ∀ sz : Nat, Met l y ws rm (prL D cI cL av w sz) (poI D (va_A w sz) w' k) 1 6 (va_A w sz)
def FXL (p : Program) (s : State) (m : MethodId) (meth : Method) (c : Code) (cc : ByteArray) (maxL : Nat) (ret : Option FieldType) (hh : List (Nat × Nat × Nat × Nat)) (av : List Value) (ws : List Cond) (y : MethodName) (D : va_G) (cI cL : ClassId) (A : Nat → Prop) (w : va_W) : Prop :=
  p.tables.exec = Jvm.exec ∧ c.code = cc ∧ meth.sig.returnType = ret ∧ c.maxLocals = maxL ∧ s.vm.findClass y.cls = some m.cls ∧ (∀ x ∈ ws, x.before av.toArray s = true) ∧ meth.locks = false ∧ kl D cI cL s ∧ va_P D vwCl w s.heap ∧ va_D A w ∧ (∀ q : Nat, s.heap.size ≤ q → A q) ∧ zx A s s.heap ∧ c.exceptionTable.toList = tableOf hh
section XW
variable {p : Program} {l : Launch} {e : Env} {R : Room} {s : State} {m : MethodId} {args : Array Value} {below : List Frame} {meth : Method} {c : Code} {H : Heap} {locs : List Loc} {cells slots : Nat} {Q : State → Prop}
variable {cc : ByteArray} {pc : Nat} {ls : Array Slot} {rest st0 : List Value} {A : Nat → Prop} {D : va_G} {cI cL : ClassId} {w w' wc wc' : va_W}
theorem entW {y : MethodName} {ws ws1 : List Cond} {rm : Room} {av : List Value} {maxL : Nat} {ret : Option FieldType} {hh : List (Nat × Nat × Nat × Nat)} {k : Int32} (hy : plainName y.cls = true) (hw : ws = Cond.codeWith y cc maxL ret hh :: ws1) (hlen : (lg_sl av).length ≤ maxL)
    (body : ∀ (p : Program) (e : Env) (s : State) (m : MethodId) (below : List Frame) (meth : Method) (c : Code) (A : Nat → Prop) (ls : Array Slot), FXL p s m meth c cc maxL ret hh av ws y D cI cL A w → lv_has ls maxL (lv_args 0 av) →
      W p l e rm s m av.toArray below meth c s.heap [] 0 0 (MQ below (poI D A w' k) av.toArray s 1 6 A) (F0 m 0 ls [])) : CW l y ws rm D cI cL av w k w' := by
  intro sz
  refine va_MetW (cc := cc) (maxL := maxL) (ret := ret) (hh := hh) hy hw ?_
  intro p e s m args below meth c s₁ B hml hv
  obtain ⟨rfl, hsz, hP, hK, hD0, hZ⟩ := hv
  subst hsz
  have hts := atoms_spec (ws := ws) B.pre
  have ht : c.exceptionTable.toList = tableOf hh := vx_table (x := y) B (hts _ (by rw [hw]; exact List.mem_cons_self))
  have hl := lv_entry av hlen
  rw [lg_entry_eq]
  exact body p e s m below meth c (va_A w s.heap.size) _ ⟨B.exec, B.bytes, B.returns, hml, findClass_of_methodNamed B.named, hts, B.notSynchronized, hK, hP, hD0.self (sz := s.heap.size), fun q h => Or.inr h, hZ, ht⟩ hl
theorem zx_at {a0 : Nat → Prop} (hz : zx A s s.heap) (hS : va_S A s.heap H locs) (hAB : ∀ q, a0 q → A q) {U : State} (hU : U.heap = H) (hW : s.vm.Alike U.vm) : zx a0 U U.heap := by
  rw [hU]
  exact ((hz.kept (fun a h1 h2 => hS.2.1 a h1 h2)).narrow hAB).moved hW
theorem preX_of {b : Addr} {As : List Value} {C : String} (hk : kx D cI s) (hz : zx A s s.heap) (hP : va_P D vwCl w H) (hD : va_D A w) (hS : va_S A s.heap H locs) (hA : ∀ q : Nat, s.heap.size ≤ q → A q) (isC : List Nat) (hC : isC.map (fun i => w[i]?) = wc.map some) (hni : va_nd isC = true) (hrc : ∃ cell : Cell, H[b]? = some cell ∧ cell.vm.isStatics = false ∧ s.vm.findClass C = some cell.cls) : PreV s H C b (prX D cI (.ref b :: As) wc H.size) As := by
  refine ⟨prX_blind _ _ _ _ _, hrc, fun U hU hW => ⟨rfl, by rw [hU], by rw [hU]; exact hP.sub isC (fm_map _ _ _ hC), hk.warm hW, (hD.sub isC hni hC).weaken (fun _ _ _ _ => trivial), zx_at hz hS (fun q h => fr_free (wc := wc) hD hS hA isC hC q h) hU hW.alike⟩⟩
theorem preL_of {av : List Value} (hk : kl D cI cL s) (hz : zx A s s.heap) (hP : va_P D vwCl w H) (hD : va_D A w) (hS : va_S A s.heap H locs) (hA : ∀ q : Nat, s.heap.size ≤ q → A q) (isC : List Nat) (hC : isC.map (fun i => w[i]?) = wc.map some) (hni : va_nd isC = true) : PreS s H (prL D cI cL av wc H.size) av := by
  refine ⟨prL_blind _ _ _ _ _ _, fun U hU hW => ⟨rfl, by rw [hU], by rw [hU]; exact hP.sub isC (fm_map _ _ _ hC), hk.warm hW, (hD.sub isC hni hC).weaken (fun _ _ _ _ => trivial), zx_at hz hS (fun q h => fr_free (wc := wc) hD hS hA isC hC q h) hU hW.alike⟩⟩
theorem frX {k r : Int32} {E : String} {a : Array Value} (hP : va_P D vwCl w H) (hD : va_D A w) (hS : va_S A s.heap H locs) (hA : ∀ q : Nat, s.heap.size ≤ q → A q) (isC isR pm : List Nat) (hC : isC.map (fun i => w[i]?) = wc.map some) (hnd : va_nd (isR ++ isC) = true) (hR : (isR.map (fun i => w[i]?)) = (isR.filterMap (fun i => w[i]?)).map some) (hpm : pm.map (fun i => ((isR.filterMap (fun i => w[i]?)) ++ wc')[i]?) = w'.map some) (hnp : va_nd pm = true)
    (hr : vx_Run p l e R s m args below meth c H locs cells slots 1 6 (F0 m pc ls st0) rest (poX D (va_A wc H.size) wc' k r a) (xcX D (va_A wc H.size) wc' k E) (va_A wc H.size))
    (kx : ∀ (ce : Cell) (q9 : Addr) (H1 : Heap) (locs1 : List Loc), ¬ k = 0 → va_P D vwCl w' H1 → va_D A w' → va_S A s.heap H1 locs1 → H1[q9]? = some ce → ce.vm = .none → s.vm.findClass E = some ce.cls → vx_W p l e R s m args below meth c H1 locs1 (cells + 1) (slots + 6) Q (F0 m pc ls rest) q9)
    (kk : ∀ (H1 : Heap) (locs1 : List Loc), k = 0 → va_P D vwCl w' H1 → va_D A w' → va_S A s.heap H1 locs1 → W p l e R s m args below meth c H1 locs1 (cells + 1) (slots + 6) Q (F0 m (pc + 3) ls (.int r :: rest))) : W p l e R s m args below meth c H locs cells slots Q (F0 m pc ls st0) := by
  have hF := fr_free (wc := wc) hD hS hA isC hC
  refine vx_calli hr hS (fun q _ h => hF q h) hF (fun q _ h => hF q h) (fun E' ce q9 u t H1 locs1 ht hvm hpx hB hz1 hk1 hS1 hce hcv hcl => ?_) (fun r' u t H1 locs1 ht hvm hw hB hz1 hk1 hS1 => ?_)
  · obtain ⟨rfl, hn, hP1, hD1⟩ := hB
    rw [ht] at hP1
    obtain ⟨h1, h2⟩ := fr_join (w' := w') hP hD hS hA isC isR pm hC hnd hR hpm hnp hk1 hP1 hD1
    exact kx ce q9 H1 locs1 hn h1 h2 hS1 hce hcv hcl
  · obtain ⟨hP1, hD1⟩ := hB
    rw [ht] at hP1
    obtain ⟨h0, rfl⟩ := hw
    obtain ⟨h1, h2⟩ := fr_join (w' := w') hP hD hS hA isC isR pm hC hnd hR hpm hnp hk1 hP1 hD1
    exact kk H1 locs1 h0 h1 h2 hS1
end XW
theorem kc_kDim {n : Nat} {a b c : Int32} (h : ¬ kDim n a b c = 0) : kDim n a b c = 1 ∨ kDim n a b c = 2 := by
  revert h
  unfold kDim
  (repeat' split) <;> intro h <;> first | exact Or.inl rfl | exact Or.inr rfl | exact absurd rfl h
theorem kc_kLamp {n : Nat} {d x : Int32} (h : ¬ kLamp n d x = 0) : kLamp n d x = 1 ∨ kLamp n d x = 2 := by
  revert h
  unfold kLamp
  (repeat' split) <;> intro h <;> first | exact Or.inl rfl | exact Or.inr rfl | exact absurd rfl h
theorem kc_kStar {n : Nat} {a b : Int32} (h : ¬ kStar n a b = 0) : kStar n a b = 1 ∨ kStar n a b = 2 := by
  revert h
  unfold kStar
  (repeat' split) <;> intro h <;> first | exact Or.inl rfl | exact Or.inr rfl | exact absurd rfl h
theorem kc_kCue {nD nC : Nat} {t k a b : Int32} (h : ¬ kCue nD nC t k a b = 0) : kCue nD nC t k a b = 1 ∨ kCue nD nC t k a b = 2 := by
  revert h
  unfold kCue
  (repeat' split) <;> intro h <;> first | exact Or.inl rfl | exact Or.inr rfl | exact absurd rfl h
theorem kc_kJump {t : Int32} (h : ¬ kJump t = 0) : kJump t = 1 := by
  revert h
  unfold kJump
  (repeat' split) <;> intro h <;> first | rfl | exact absurd rfl h
theorem kc_kFade {n : Nat} {d x : Int32} (h : ¬ kFade n d x = 0) : kFade n d x = 1 ∨ kFade n d x = 2 := by
  revert h
  unfold kFade
  (repeat' split) <;> intro h <;> first | exact Or.inl rfl | exact Or.inr rfl | exact absurd rfl h
theorem kc_kPass {t : Int32} (h : ¬ kPass t = 0) : kPass t = 1 := by
  revert h
  unfold kPass
  (repeat' split) <;> intro h <;> first | rfl | exact absurd rfl h
theorem kc_kTold {n : Nat} {d w : Int32} (h : ¬ kTold n d w = 0) : kTold n d w = 1 := by
  revert h
  unfold kTold
  (repeat' split) <;> intro h <;> first | rfl | exact absurd rfl h
theorem kc_kGlare {p : Int32} (h : ¬ kGlare p = 0) : kGlare p = 1 := by
  revert h
  unfold kGlare
  (repeat' split) <;> intro h <;> first | rfl | exact absurd rfl h
theorem kc_kThree {n : Nat} {d w : Int32} (h : ¬ kThree n d w = 0) : kThree n d w = 1 := by
  revert h
  unfold kThree
  (repeat' split) <;> intro h <;> first | rfl | exact absurd rfl h
theorem kc_kCount {w : Int32} (h : ¬ kCount w = 0) : kCount w = 1 := by
  revert h
  unfold kCount
  (repeat' split) <;> intro h <;> first | rfl | exact absurd rfl h
theorem kc_kHas {n : Nat} {d : Int32} (h : ¬ kHas n d = 0) : kHas n d = 1 := by
  revert h
  unfold kHas
  (repeat' split) <;> intro h <;> first | rfl | exact absurd rfl h
theorem kc_kFore {t w : Int32} (h : ¬ kFore t w = 0) : kFore t w = 1 ∨ kFore t w = 2 := by
  revert h
  unfold kFore
  (repeat' split) <;> intro h <;> first | exact Or.inl rfl | exact Or.inr rfl | exact absurd rfl h
