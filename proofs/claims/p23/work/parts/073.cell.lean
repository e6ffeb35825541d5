/-! methods that read the script -/
def prS (D : va_G) (cI cA : ClassId) (bs L : Nat) (xs : Nat → Int32) (av : List Value) (w : va_W) (sz : Nat) : Array Value → State → Prop := va_Pc av (fun U => U.heap.size = sz ∧ va_P D vwCl w U.heap ∧ kR D cI cA U ∧ va_D (fun _ => True) w ∧ va_X bs L xs U U.heap ∧ bs < sz ∧ ¬ va_A w sz bs)
theorem prS_blind (D : va_G) (cI cA : ClassId) (bs L : Nat) (xs : Nat → Int32) (av : List Value) (w : va_W) (sz : Nat) : FrameBlind (prS D cI cA bs L xs av w sz) := fun a U g mk q => by
  obtain ⟨q0, q1, qP, qK, qD, qX, q5, q6⟩ := q
  exact ⟨q0, q1, qP, kR.same (s := U) (U := U.calling g mk a) rfl qK, qD, va_X.moved (u := U) (U := U.calling g mk a) (Vm.Alike.refl U.vm) qX, q5, q6⟩
def CSn (l : Launch) (y : MethodName) (ws : List Cond) (rm : Room) (D : va_G) (cI cA : ClassId) (bs L : Nat) (xs : Nat → Int32) (av : List Value) (w : va_W) (pr : Int32 → Prop) (B : (Nat → Prop) → Heap → Prop) (mc ms : Nat) : Prop := ∀ sz : Nat, Met l y ws rm (prS D cI cA bs L xs av w sz) (poG pr B (va_A w sz)) mc ms (va_A w sz)
def poGr (a0 : Nat) (B : (Nat → Prop) → Heap → Prop) (A : Nat → Prop) := va_Qr (fun (_ : Unit) => True) (fun _ a t => B A t.heap ∧ a0 ≤ a) A
theorem ent_S {l : Launch} {y : MethodName} {ws ws1 : List Cond} {rm : Room} {D : va_G} {cI cA : ClassId} {bs L : Nat} {xs : Nat → Int32} {av : List Value} {w : va_W} {cc : ByteArray} {maxL : Nat} {ret : Option FieldType} {mc ms : Nat} {Qc : (Nat → Prop) → Array Value → State → Outcome → State → Prop} (hy : plainName y.cls = true) (hw : ws = Cond.code y cc maxL ret :: ws1) (hlen : (lg_sl av).length ≤ maxL)
    (body : ∀ (p : Program) (e : Env) (s : State) (m : MethodId) (below : List Frame) (meth : Method) (c : Code) (A : Nat → Prop) (ls : Array Slot), kR D cI cA s → va_X bs L xs s s.heap → bs < s.heap.size → ¬ A bs → FX p s m meth c cc maxL ret av ws y D cI A w → lv_has ls maxL (lv_args 0 av) →
      W p l e rm s m av.toArray below meth c s.heap [] 0 0 (MQ below (Qc A) av.toArray s mc ms A) (F0 m 0 ls [])) (sz : Nat) : Met l y ws rm (prS D cI cA bs L xs av w sz) (Qc (va_A w sz)) mc ms (va_A w sz) := by
  refine Met.ofW (cc := cc) (maxL := maxL) (ret := ret) hy hw ?_
  intro p e s m args below meth c s₁ B hml hv
  obtain ⟨rfl, hsz, hP, hK, hD0, hX, hbl, hnb⟩ := hv
  subst hsz
  have hl := lv_entry av hlen
  rw [lg_entry_eq]
  exact body p e s m below meth c (va_A w s.heap.size) _ hK hX hbl hnb ⟨B.exec, B.bytes, B.returns, hml, findClass_of_methodNamed B.named, atoms_spec (ws := ws) B.pre, B.notSynchronized, hK.1, hP, hD0.self (sz := s.heap.size), fun q h => Or.inr h⟩ hl
theorem hL_cell : yL_cell.cls = RL ∧ yL_cell.cls ≠ "java/lang/invoke/MethodHandle" ∧ yL_cell.cls ≠ "java/lang/invoke/VarHandle" ∧ (parseMethodDescriptor yL_cell.desc).map (fun d => d.parameters.length) = some 2 := by decide +kernel
theorem mL_cell_k8 : (.constant RL 8 (790386105) : Cond) ∈ wsL_cell := by decide +kernel
set_option maxHeartbeats 4000000 in
set_option maxRecDepth 100000 in
/-- a cell of the script, or a number that stands for it -/
theorem tL_cell (l : Launch) (D : va_G) (cI cA : ClassId) (bs L : Nat) (xs : Nat → Int32) (k : Nat) (hk9 : k < 1000) (hL : L ≤ 1000) : CSn l yL_cell wsL_cell ({ frames := 0, cells := 0, slots := 0, locals := 0 } : Room) D cI cA bs L xs ([.ref bs, .int (nI k)] : List Value) [] (fun _ => True) (fun _ _ => True) 0 0 := by
  refine fun sz => ent_S (Qc := fun A => poG (fun _ => True) (fun _ _ => True) A) (cc := cL_cell) (maxL := 2) (ret := (some .int)) (by decide) rfl (Nat.le_of_ble_eq_true rfl) (fun p e s m below meth c A ls hkr hX hbl hnb fx hl => ?_) sz
  obtain ⟨hx, hb, hr, hml, hown, hts, hlocks, hk, hP, hD, hA⟩ := fx
  have hown : s.vm.findClass RL = some m.cls := hown
  have hS : va_S A s.heap s.heap [] := va_S.rf
  have hl : lv_has ls 2 [(0, .ref bs), (1, .int (nI k))] := hl
  refine lv_iload_n hx hb dL_cell_0 rfl (lv_at hl 1 rfl) ?_
  refine lv_aload_n hx hb dL_cell_1 rfl (lv_at hl 0 rfl) ?_
  refine va_slen hx hb hX hbl hnb hS dL_cell_2 ?_
  refine icgeN (i := k) (n := L) (tgt := 12) hx hb (by omega) (by omega) dL_cell_3 (by decide) (fun c3 => ?_) (fun c3 => ?_)
  · refine lv_ldc (v := 790386105) hx hb hown (hts _ mL_cell_k8) dL_cell_12 ?_
    refine lv_iload_n hx hb dL_cell_14 rfl (lv_at hl 1 rfl) ?_
    refine lv_iconst (v := 3) hx hb dL_cell_15 (by decide) ?_
    refine lv_iadd hx hb dL_cell_16 ?_
    refine lv_imul hx hb dL_cell_17 ?_
    exact retG hx hb hr hlocks hS trivial dL_cell_18 trivial rfl (Nat.le_refl _) (Nat.le_refl _)
  · refine lv_aload_n hx hb dL_cell_6 rfl (lv_at hl 0 rfl) ?_
    refine lv_iload_n hx hb dL_cell_7 rfl (lv_at hl 1 rfl) ?_
    refine va_sld hx hb hX hbl hnb hS (vin_n (show k < L by omega) (by omega)) dL_cell_8 ?_
    refine lv_goto (tgt := 18) hx hb dL_cell_9 (by decide) ?_
    exact retG hx hb hr hlocks hS trivial dL_cell_18 trivial rfl (Nat.le_refl _) (Nat.le_refl _)
section CELL
variable {p : Program} {l : Launch} {e : Env} {R : Room} {s : State} {m : MethodId} {args : Array Value} {below : List Frame} {meth : Method} {c : Code} {H : Heap} {locs : List Loc} {cells slots : Nat} {Q : State → Prop}
variable {cc : ByteArray} {pc : Nat} {ls : Array Slot} {rest st0 : List Value} {A : Nat → Prop} {D : va_G} {cI cA : ClassId} {w : va_W} {bs L : Nat} {xs : Nat → Int32}
theorem preSc {av : List Value} {H0 : Heap} (hk : kR D cI cA s) (hX : va_X bs L xs s s.heap) (hbl : bs < s.heap.size) (hnb : ¬ A bs) (hS : va_S A s.heap H locs) : PreS s H (prS D cI cA bs L xs av [] H.size) av :=
  ⟨prS_blind _ _ _ _ _ _ _ _ _, fun U hU hW => ⟨rfl, by rw [hU], fun k x hx => by simp at hx, hk.warm hW, ⟨fun i j x y hx => by simp at hx, fun k x hx => by simp at hx⟩, by
    obtain ⟨scr, h1, h2, h3, h4, h5⟩ := va_X.moved (u := s) (U := U) hW.alike hX
    exact ⟨scr, by rw [hU, hS.2.1 bs hbl hnb]; exact h1, h2, h3, h4, h5⟩, Nat.lt_of_lt_of_le hbl hS.1, fun q => by
    rcases q with ⟨k, e, h⟩ | h
    · simp at h
    · have := hS.1; omega⟩⟩
/-- a call of cell: some number -/
theorem frC {a : Array Value} (hP : va_P D vwCl w H) (hD : va_D A w) (hS : va_S A s.heap H locs) (hA : ∀ q : Nat, s.heap.size ≤ q → A q)
    (hr : va_Run p l e R s m args below meth c H locs cells slots 0 0 (F0 m pc ls st0) rest (poG (fun _ => True) (fun _ _ => True) (va_A [] H.size) a) (va_A [] H.size))
    (kk : ∀ (r : Int32) (H1 : Heap) (locs1 : List Loc), va_P D vwCl w H1 → va_D A w → va_S A s.heap H1 locs1 → W p l e R s m args below meth c H1 locs1 cells slots Q (F0 m (pc + 3) ls (.int r :: rest))) : W p l e R s m args below meth c H locs cells slots Q (F0 m pc ls st0) := by
  refine frG (wr := w) (wc := []) (pr := fun _ => True) (B := fun _ _ => True) (by rw [List.append_nil]; exact hP) (by rw [List.append_nil]; exact hD) hS hA hr (fun r H1 locs1 _ _ hj hS1 => ?_)
  obtain ⟨h1, h2⟩ := hj [] (fun k x hx => by simp at hx) ⟨fun i j x y hx => by simp at hx, fun k x hx => by simp at hx⟩
  rw [List.append_nil] at h1 h2
  exact kk r H1 locs1 h1 h2 hS1
end CELL
/-! the law's own console is made -/
def CNr (l : Launch) (y : MethodName) (ws : List Cond) (rm : Room) (D : va_G) (cI cA : ClassId) (av : List Value) (w : va_W) (w' : (Nat → Nat) → va_W) (mc ms : Nat) : Prop := ∀ sz : Nat, Met l y ws rm (prR D cI cA av w sz) (poN D (va_A w sz) w') mc ms (va_A w sz)
theorem entNr {l : Launch} {y : MethodName} {ws ws1 : List Cond} {rm : Room} {D : va_G} {cI cA : ClassId} {av : List Value} {w : va_W} {cc : ByteArray} {maxL : Nat} {ret : Option FieldType} {mc ms : Nat} {wn : (Nat → Nat) → va_W} (hy : plainName y.cls = true) (hw : ws = Cond.code y cc maxL ret :: ws1) (hlen : (lg_sl av).length ≤ maxL)
    (body : ∀ (p : Program) (e : Env) (s : State) (m : MethodId) (below : List Frame) (meth : Method) (c : Code) (A : Nat → Prop) (ls : Array Slot), (∃ u : Bool, u = true ∧ (meth.name = "<init>" ∨ y.name ≠ "<init>")) → kR D cI cA s → FX p s m meth c cc maxL ret av ws y D cI A w → lv_has ls maxL (lv_args 0 av) →
      W p l e rm s m av.toArray below meth c s.heap [] 0 0 (MQ below (poN D A wn) av.toArray s mc ms A) (F0 m 0 ls [])) : CNr l y ws rm D cI cA av w wn mc ms := by
  intro sz
  refine Met.ofW (cc := cc) (maxL := maxL) (ret := ret) hy hw ?_
  intro p e s m args below meth c s₁ B hml hv
  obtain ⟨rfl, hsz, hP, hK, hD0⟩ := hv
  subst hsz
  have hl := lv_entry av hlen
  rw [lg_entry_eq]
  refine body p e s m below meth c (va_A w s.heap.size) _ ⟨true, rfl, ?_⟩ hK ⟨B.exec, B.bytes, B.returns, hml, findClass_of_methodNamed B.named, atoms_spec (ws := ws) B.pre, B.notSynchronized, hK.1, hP, hD0.self (sz := s.heap.size), fun q h => Or.inr h⟩ hl
  by_cases hn : y.name = "<init>"
  · exact Or.inl ((name_of_methodNamed B.named B.method).1.trans hn)
  · exact Or.inr hn
section NEWR
variable {p : Program} {l : Launch} {e : Env} {R : Room} {s : State} {m : MethodId} {args : Array Value} {below : List Frame} {meth : Method} {c : Code} {H : Heap} {locs : List Loc} {cells slots mc ms : Nat} {Q : State → Prop}
variable {pc : Nat} {ls : Array Slot} {rest st0 : List Value} {A : Nat → Prop} {D : va_G} {cI cA : ClassId} {wr wc : va_W}
theorem frN2 {a : Array Value} {wn : (Nat → Nat) → va_W} (hP : va_P D vwCl (wr ++ wc) H) (hD : va_D A (wr ++ wc)) (hS : va_S A s.heap H locs) (hA : ∀ q : Nat, s.heap.size ≤ q → A q)
    (hr : va_Run p l e R s m args below meth c H locs cells slots mc ms (F0 m pc ls st0) rest (poN D (va_A wc H.size) wn a) (va_A wc H.size))
    (kk : ∀ (q : Nat → Nat) (H1 : Heap) (locs1 : List Loc), va_P D vwCl (wr ++ wn q) H1 → va_D A (wr ++ wn q) → va_S A s.heap H1 locs1 → W p l e R s m args below meth c H1 locs1 (cells + mc) (slots + ms) Q (F0 m (pc + 3) ls rest)) : W p l e R s m args below meth c H locs cells slots Q (F0 m pc ls st0) := by
  have hF := fr_free2 hD hS hA
  refine va_callv hr hS (fun q _ h => hF q h) hF (fun q t H1 locs1 ht hvm hw hB hz1 hk1 hS1 => ?_)
  obtain ⟨hP1, hD1⟩ := hB
  rw [ht] at hP1
  obtain ⟨h1, h2⟩ := fr_two hP hD hF hk1 hP1 hD1
  exact kk q H1 locs1 h1 h2 hS1
theorem frE2 {r : UInt64} {wc' : va_W} {a : Array Value} (hP : va_P D vwCl (wr ++ wc) H) (hD : va_D A (wr ++ wc)) (hS : va_S A s.heap H locs) (hA : ∀ q : Nat, s.heap.size ≤ q → A q)
    (hr : va_Run p l e R s m args below meth c H locs cells slots mc ms (F0 m pc ls st0) rest (poE D (va_A wc H.size) wc' r a) (va_A wc H.size))
    (kk : ∀ (H1 : Heap) (locs1 : List Loc), va_P D vwCl (wr ++ wc') H1 → va_D A (wr ++ wc') → va_S A s.heap H1 locs1 → W p l e R s m args below meth c H1 locs1 (cells + mc) (slots + ms) Q (F0 m (pc + 3) ls (.double r :: rest))) : W p l e R s m args below meth c H locs cells slots Q (F0 m pc ls st0) := by
  have hF := fr_free2 hD hS hA
  refine va_calld hr hS (fun q _ h => hF q h) hF (fun r' u t H1 locs1 ht hvm hw hB hz1 hk1 hS1 => ?_)
  obtain ⟨hP1, hD1⟩ := hB
  rw [ht] at hP1
  subst hw
  obtain ⟨h1, h2⟩ := fr_two hP hD hF hk1 hP1 hD1
  exact kk H1 locs1 h1 h2 hS1
end NEWR
