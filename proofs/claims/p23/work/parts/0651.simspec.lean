/-! the law's own console: its reckoning is the class's -/
def tsI (a b : Int32) : Int32 := if 0 ≤ a + b then (if a + b ≤ 359 then a + b else a + b - 360) else a + b + 360
set_option maxRecDepth 100000 in
theorem ts_all : ∀ k : Fin 420, (fun x : Int32 => (if 0 ≤ x then (if x ≤ 359 then x else x - 360) else x + 360) = fmod x 360) (Int32.ofInt (-30 + (k.val : Int))) := by decide +kernel
theorem tsI_eq {a b : Int32} (ha : bnd a 0 359) (hb : bnd b (-30) 30) : tsI a b = tnd a b := by
  unfold bnd at *
  have h := i_add (x := a) (y := b) (by omega) (by omega)
  exact i_all (P := fun x : Int32 => (if 0 ≤ x then (if x ≤ 359 then x else x - 360) else x + 360) = fmod x 360) (-30) 420 ts_all (x := a + b) (by omega) (by omega)
def gcS (p lv q s : Int32) : Int32 := if p = irm (q + 1) 12 then (if p = q then s + lv else s) + lv / 4 else if irm (p + 1) 12 = q then (if p = q then s + lv else s) + lv / 4 else (if p = q then s + lv else s)
def gcQ (p q : Int32) : Bool := decide (((fmod (p - q) 12 = 0) ↔ p = q) ∧ ((fmod (p - q) 12 = 1) ↔ p = irm (q + 1) 12) ∧ ((fmod (p - q) 12 = 11) ↔ irm (p + 1) 12 = q) ∧ (p = q → ¬ p = irm (q + 1) 12 ∧ ¬ irm (p + 1) 12 = q))
theorem gc_all : ∀ i : Fin 12, ∀ j : Fin 12, gcQ (Int32.ofInt (0 + (i.val : Int))) (Int32.ofInt (0 + (j.val : Int))) = true := by decide +kernel
theorem gcS_eq {p q lv s : Int32} (hp : bnd p 0 11) (hq : bnd q 0 11) : gcS p lv q s = glC p lv q s := by
  unfold bnd at *
  have h1 := i_all (P := fun x : Int32 => ∀ j : Fin 12, gcQ x (Int32.ofInt (0 + (j.val : Int))) = true) 0 12 gc_all (x := p) (by omega) (by omega)
  have h2 := i_all (P := fun y : Int32 => gcQ p y = true) 0 12 h1 (x := q) (by omega) (by omega)
  obtain ⟨e0, e1, e11, ex⟩ := of_decide_eq_true h2
  unfold gcS glC
  by_cases c0 : p = q
  · obtain ⟨n1, n2⟩ := ex c0
    rw [if_neg n1, if_neg n2, if_pos c0, if_pos (e0.mpr c0)]
  · rw [if_neg c0, if_neg (fun h => c0 (e0.mp h))]
    by_cases c1 : p = irm (q + 1) 12
    · rw [if_pos c1, if_pos (e1.mpr c1)]
    · rw [if_neg c1, if_neg (fun h => c1 (e1.mp h))]
      by_cases c2 : irm (p + 1) 12 = q
      · rw [if_pos c2, if_pos (e11.mpr c2)]
      · rw [if_neg c2, if_neg (fun h => c2 (e11.mp h))]
theorem ssN_0 {n : Nat} {g st : Mx} {b : Int32} {i : Nat} (h : osI n g (tnd (st 0 i) b) (st 1 i) = 0) : ssN n g st b (i + 1) = ssN n g st b i + 0 := by
  rw [ssN, show ssI n g st b i = 0 from if_pos h, if_pos rfl]
  rfl
theorem ssN_1 {n : Nat} {g st : Mx} {b : Int32} {i : Nat} (h : ¬ osI n g (tnd (st 0 i) b) (st 1 i) = 0) : ssN n g st b (i + 1) = ssN n g st b i + 1 := by
  rw [ssN, show ssI n g st b i = 1 from if_neg h, if_neg (by decide)]
theorem csN_0a {n : Nat} {g ct : Mx} {i : Nat} (h : ct 2 i ≤ 0) : csN n g ct (i + 1) = csN n g ct i + 0 := by
  rw [csN, show csI n g ct i = 0 from if_pos h, if_pos rfl]
  rfl
theorem csN_0b {n : Nat} {g ct : Mx} {i : Nat} (h : ¬ ct 2 i ≤ 0) (h2 : osI n g (ct 0 i) 6 = 0) : csN n g ct (i + 1) = csN n g ct i + 0 := by
  rw [csN, show csI n g ct i = 0 from by rw [csI, if_neg h, if_pos h2], if_pos rfl]
  rfl
theorem csN_1 {n : Nat} {g ct : Mx} {i : Nat} (h : ¬ ct 2 i ≤ 0) (h2 : ¬ osI n g (ct 0 i) 6 = 0) : csN n g ct (i + 1) = csN n g ct i + 1 := by
  rw [csN, show csI n g ct i = 1 from by rw [csI, if_neg h, if_neg h2], if_neg (by decide)]
theorem um_um {g : Mx} {w d : Nat} {x y : Int32} : um (um g w d x) w d y = um g w d y := by
  funext w' d'
  unfold um
  cases Nat.beq w' w with
  | false => rfl
  | true => exact congrFun uu_same d'
theorem um_comm {g : Mx} {w v d : Nat} {x y : Int32} (h : ¬ w = v) : um (um g w d x) v d y = um (um g v d y) w d x := by
  funext w' d'
  by_cases a : w' = v
  · have b : ¬ w' = w := fun q => h (q.symm.trans a)
    have e : Nat.beq w' v = true := by rw [a]; exact nbt v
    unfold um
    rw [nbf b, e]
    rfl
  · unfold um
    rw [nbf a]
    rfl
theorem imax0_pos {y : Int32} (h : ¬ y ≤ 0) : imax 0 y = y := if_pos (Int32.not_le.mp h)
theorem imax0_neg {y : Int32} (h : y ≤ 0) : imax 0 y = 0 := if_neg (fun q => absurd h (Int32.not_le.mpr q))
theorem ne0_pos {y : Int32} (h : ¬ y ≤ 0) : ¬ y = 0 := fun e => h (by rw [e]; decide)
theorem dSt_a {g : Mx} {i : Nat} {v : Int32} (hv : dLv g i = v) (h : ¬ g 4 i - v / 10 ≤ 0) : dSt g i = um (um g 1 i v) 4 i (g 4 i - v / 10) := by
  unfold dSt
  rw [show dLf g i = g 4 i - v / 10 from by rw [dLf, hv, imax0_pos h], if_neg (ne0_pos h), hv]
  exact um_comm (by decide)
theorem dSt_b {g : Mx} {i : Nat} {v : Int32} (hv : dLv g i = v) (h : g 4 i - v / 10 ≤ 0) : dSt g i = um (um (um (um g 1 i v) 4 i (g 4 i - v / 10)) 4 i 0) 1 i 0 := by
  unfold dSt
  rw [show dLf g i = 0 from by rw [dLf, hv, imax0_neg h], if_pos rfl, um_um, um_comm (g := um g 1 i v) (w := 4) (v := 1) (by decide), um_um]
  exact um_comm (by decide)
theorem ap_1 {f t s : Int32} (h : ¬ t ≤ f) (h2 : ¬ f + s ≤ t) : ap f t s = t := by
  rw [ap, if_neg h, imin, if_pos (Int32.not_le.mp h2)]
theorem ap_2 {f t s : Int32} (h : ¬ t ≤ f) (h2 : f + s ≤ t) : ap f t s = f + s := by
  rw [ap, if_neg h, imin, if_neg (fun q => absurd h2 (Int32.not_le.mpr q))]
theorem ap_3 {f t s : Int32} (h : t ≤ f) (h2 : ¬ t ≤ f - s) : ap f t s = t := by
  rw [ap, if_pos h, imax, if_pos (Int32.not_le.mp h2)]
theorem ap_4 {f t s : Int32} (h : t ≤ f) (h2 : t ≤ f - s) : ap f t s = f - s := by
  rw [ap, if_pos h, imax, if_neg (fun q => absurd h2 (Int32.not_le.mpr q))]
/-! calls that leave a world of many kinds -/
def poG (pr : Int32 → Prop) (B : (Nat → Prop) → Heap → Prop) (A : Nat → Prop) := va_Qi (fun (r : Int32) (_ : Unit) => pr r) (fun _ t => B A t.heap) A
def CG (l : Launch) (y : MethodName) (ws : List Cond) (rm : Room) (D : va_G) (cI cA : ClassId) (av : List Value) (w : va_W) (pr : Int32 → Prop) (B : (Nat → Prop) → Heap → Prop) (mc ms : Nat) : Prop := ∀ sz : Nat, Met l y ws rm (prR D cI cA av w sz) (poG pr B (va_A w sz)) mc ms (va_A w sz)
theorem entG {l : Launch} {y : MethodName} {ws ws1 : List Cond} {rm : Room} {D : va_G} {cI cA : ClassId} {av : List Value} {w : va_W} {cc : ByteArray} {maxL : Nat} {ret : Option FieldType} {mc ms : Nat} {pr : Int32 → Prop} {B : (Nat → Prop) → Heap → Prop} (hy : plainName y.cls = true) (hw : ws = Cond.code y cc maxL ret :: ws1) (hlen : (lg_sl av).length ≤ maxL)
    (body : ∀ (p : Program) (e : Env) (s : State) (m : MethodId) (below : List Frame) (meth : Method) (c : Code) (A : Nat → Prop) (ls : Array Slot), kR D cI cA s → FX p s m meth c cc maxL ret av ws y D cI A w → lv_has ls maxL (lv_args 0 av) →
      W p l e rm s m av.toArray below meth c s.heap [] 0 0 (MQ below (poG pr B A) av.toArray s mc ms A) (F0 m 0 ls [])) : CG l y ws rm D cI cA av w pr B mc ms := fun sz => ent_ofR (Qc := fun A => poG pr B A) hy hw hlen body sz
section GG
variable {p : Program} {l : Launch} {e : Env} {R : Room} {s : State} {m : MethodId} {args : Array Value} {below : List Frame} {meth : Method} {c : Code} {H : Heap} {locs : List Loc} {cells slots mc ms : Nat} {Q : State → Prop}
variable {cc : ByteArray} {pc : Nat} {ls : Array Slot} {rest st0 : List Value} {A : Nat → Prop} {D : va_G} {cI cA : ClassId} {wr wc : va_W} {pr : Int32 → Prop} {B : (Nat → Prop) → Heap → Prop}
theorem retG {v : Int32} {ty : FieldType} (hx : p.tables.exec = Jvm.exec) (hb : c.code = cc) (hr : meth.sig.returnType = some ty) (hlocks : meth.locks = false) (hS : va_S A s.heap H locs) (hB : B A H) (hdg : decode cc pc = .ok (.ireturn, 1)) (hv : pr v) (hn : narrow ty (.int v) = .int v) (h1 : cells ≤ mc) (h2 : slots ≤ ms) :
    W p l e R s m args below meth c H locs cells slots (MQ below (poG pr B A) args s mc ms A) (F0 m pc ls [.int v]) :=
  W.widen h1 h2 (W.zret hx hb hr hn (fun t ht _ => ⟨⟨v, (), rfl, hv, by show B A t.heap; rw [ht]; exact hB⟩, hS.F ht⟩) hS.2.2 hdg hlocks)
theorem frG {a : Array Value} (hP : va_P D vwCl (wr ++ wc) H) (hD : va_D A (wr ++ wc)) (hS : va_S A s.heap H locs) (hA : ∀ q : Nat, s.heap.size ≤ q → A q)
    (hr : va_Run p l e R s m args below meth c H locs cells slots mc ms (F0 m pc ls st0) rest (poG pr B (va_A wc H.size) a) (va_A wc H.size))
    (kk : ∀ (r : Int32) (H1 : Heap) (locs1 : List Loc), pr r → B (va_A wc H.size) H1 → (∀ wc' : va_W, va_P D vwCl wc' H1 → va_D (va_A wc H.size) wc' → va_P D vwCl (wr ++ wc') H1 ∧ va_D A (wr ++ wc')) → va_S A s.heap H1 locs1 → W p l e R s m args below meth c H1 locs1 (cells + mc) (slots + ms) Q (F0 m (pc + 3) ls (.int r :: rest))) : W p l e R s m args below meth c H locs cells slots Q (F0 m pc ls st0) := by
  have hF := fr_free2 hD hS hA
  refine va_calli hr hS (fun q _ h => hF q h) hF (fun r' u t H1 locs1 ht hvm hw hB hz1 hk1 hS1 => ?_)
  have hB : B (va_A wc H.size) H1 := by rw [← ht]; exact hB
  exact kk r' H1 locs1 hw hB (fun wc' hP1 hD1 => fr_two hP hD hF hk1 hP1 hD1) hS1
theorem preS0 {av : List Value} (hk : kw D cI s) : PreS s H (prW D cI av [] H.size) av :=
  ⟨prW_blind _ _ _ _ _, fun U hU hW => ⟨rfl, by rw [hU], fun k x hx => by simp at hx, hk.warm hW, ⟨fun i j x y hx => by simp at hx, fun k x hx => by simp at hx⟩⟩⟩
theorem frI0 {w : va_W} {r : Int32} {a : Array Value} (hP : va_P D vwCl w H) (hD : va_D A w) (hS : va_S A s.heap H locs) (hA : ∀ q : Nat, s.heap.size ≤ q → A q)
    (hr : va_Run p l e R s m args below meth c H locs cells slots mc ms (F0 m pc ls st0) rest (poI D (va_A [] H.size) [] r a) (va_A [] H.size))
    (kk : ∀ (H1 : Heap) (locs1 : List Loc), va_P D vwCl w H1 → va_D A w → va_S A s.heap H1 locs1 → W p l e R s m args below meth c H1 locs1 (cells + mc) (slots + ms) Q (F0 m (pc + 3) ls (.int r :: rest))) : W p l e R s m args below meth c H locs cells slots Q (F0 m pc ls st0) := by
  refine frI2 (wr := w) (wc := []) (wc' := []) (by rw [List.append_nil]; exact hP) (by rw [List.append_nil]; exact hD) hS hA hr (fun H1 locs1 h1 h2 h3 => kk H1 locs1 ?_ ?_ h3)
  · rw [List.append_nil] at h1; exact h1
  · rw [List.append_nil] at h2; exact h2
end GG
/-! rows that come anew -/
theorem swp {a b : Nat × va_E} {l1 l2 : va_W} : (a :: (l1 ++ b :: l2)).Perm (b :: (l1 ++ a :: l2)) :=
  ((List.Perm.cons a List.perm_middle).trans (List.Perm.swap b a (l1 ++ l2))).trans (List.Perm.cons b List.perm_middle.symm)
theorem rowD {g : Mx} {n : Nat} {a b c d e : Int32} : ∀ j : Nat, j < 5 → upd (upd (upd (upd (upd (fun _ => 0) 0 a) 1 b) 2 c) 3 d) 4 e j = um (um (um (um (um g 0 n a) 1 n b) 2 n c) 3 n d) 4 n e j n := by
  intro j hj
  rcases (show j = 0 ∨ j = 1 ∨ j = 2 ∨ j = 3 ∨ j = 4 by omega) with rfl | rfl | rfl | rfl | rfl
  · exact (show a = _ from pk_us.symm)
  · exact (show b = _ from pk_us.symm)
  · exact (show c = _ from pk_us.symm)
  · exact (show d = _ from pk_us.symm)
  · exact (show e = _ from pk_us.symm)
theorem rowU {g : Mx} {n : Nat} {a b c d : Int32} : ∀ j : Nat, j < 4 → upd (upd (upd (upd (fun _ => 0) 0 a) 1 b) 2 c) 3 d j = um (um (um (um g 0 n a) 1 n b) 2 n c) 3 n d j n := by
  intro j hj
  rcases (show j = 0 ∨ j = 1 ∨ j = 2 ∨ j = 3 by omega) with rfl | rfl | rfl | rfl
  · exact (show a = _ from pk_us.symm)
  · exact (show b = _ from pk_us.symm)
  · exact (show c = _ from pk_us.symm)
  · exact (show d = _ from pk_us.symm)
theorem rowK {g : Mx} {n : Nat} {a b c : Int32} : ∀ j : Nat, j < 3 → upd (upd (upd (fun _ => 0) 0 a) 1 b) 2 c j = um (um (um g 0 n a) 1 n b) 2 n c j n := by
  intro j hj
  rcases (show j = 0 ∨ j = 1 ∨ j = 2 by omega) with rfl | rfl | rfl
  · exact (show a = _ from pk_us.symm)
  · exact (show b = _ from pk_us.symm)
  · exact (show c = _ from pk_us.symm)
theorem rowT {g : Mx} {n : Nat} {a b : Int32} : ∀ j : Nat, j < 2 → upd (upd (fun _ => 0) 0 a) 1 b j = um (um g 0 n a) 1 n b j n := by
  intro j hj
  rcases (show j = 0 ∨ j = 1 by omega) with rfl | rfl
  · exact (show a = _ from pk_us.symm)
  · exact (show b = _ from pk_us.symm)
theorem ro_addK0 {cI : ClassId} {pd pt pk pu : Nat → Nat} {nD nT nK nC x : Nat} {g st ct cu ct' : Mx} {E : va_W} (h : ∀ i : Nat, i < nK → ∀ w, ct w i = ct' w i) : ((x, .inl (cI, 3, .inl (fun w => ct' w nK))) :: (E ++ RO cI pd pt pk pu nD nT nK nC g st ct cu) : va_W).Perm (E ++ RO cI pd pt (upn pk nK x) pu nD nT (nK + 1) nC g st ct' cu) := by
  have h1 := ro_addK (K := []) (E := E) (pd := pd) (pt := pt) (pk := pk) (pu := pu) (nD := nD) (nT := nT) (nC := nC) (g := g) (st := st) (cu := cu) (cI := cI) (x := x) h
  rw [List.append_nil, List.append_nil] at h1
  exact h1
def mkF (p : Nat → Nat) (i : Nat) : Nat → Option Nat := fun j => if j < i then some (p j) else none
theorem mkF_s (p : Nat → Nat) (i : Nat) : va_up (mkF p i) i (some (p i)) = mkF p (i + 1) := by
  funext j
  unfold va_up mkF
  by_cases h : j = i
  · subst h; simp
  · rw [if_neg h]
    by_cases h2 : j < i
    · rw [if_pos h2, if_pos (by omega)]
    · rw [if_neg h2, if_neg (by omega)]
theorem mkF_0 (p : Nat → Nat) : mkF p 0 = fun _ => none := by
  funext j
  exact if_neg (Nat.not_lt_zero j)
theorem mkF_e (p : Nat → Nat) (n x : Nat) : ∀ j : Nat, j < n + 1 → va_up (mkF p n) n (some x) j = some (upn p n x j) := by
  intro j hj
  unfold va_up mkF upn
  by_cases h : j = n
  · rw [if_pos h, if_pos h]
  · rw [if_neg h, if_neg h, if_pos (by omega)]
theorem hX6_more : yX6_more.cls = RX6 ∧ yX6_more.cls ≠ "java/lang/invoke/MethodHandle" ∧ yX6_more.cls ≠ "java/lang/invoke/VarHandle" ∧ (parseMethodDescriptor yX6_more.desc).map (fun d => d.parameters.length) = some 2 := by decide +kernel
theorem mX6_more_k7 : (.classLink RX6 7 "[I" : Cond) ∈ wsX6_more := by decide +kernel
set_option maxHeartbeats 4000000 in
set_option maxRecDepth 100000 in
/-- rows, and one more: the world gets a cell -/
theorem tX6_more (l : Launch) (D : va_G) (cI cA : ClassId) (w : va_W) (q0 qx a0 x n m : Nat) (q : Nat → Nat) (f : Nat → Int32) (h0 : w[q0]? = some (a0, .inl (cA, n, .inr (.inr (.inr (.inr (fun i => some (q i)))))))) (h1 : w[qx]? = some (x, .inl (cI, m, .inl f))) (hrow : ∀ i : Nat, i < n → ∃ (k z : Nat) (h : Nat → Int32), w[k]? = some (q i, .inl (cI, z, .inl h))) (hn : n ≤ 24) : CR l yX6_more wsX6_more ({ frames := 0, cells := 1, slots := 25, locals := 0 } : Room) D cI cA ([.ref a0, .ref x] : List Value) w (fun a _ => (a, .inl (cA, n + 1, .inr (.inr (.inr (.inr (fun i => some (upn q n x i))))))) :: w) 1 25 := by
  refine entR (cc := cX6_more) (maxL := 4) (ret := (some (.array (.array .int)))) (by decide) rfl (Nat.le_of_ble_eq_true rfl) (fun p e s mm below meth c A ls hkr fx hl => ?_)
  obtain ⟨hx, hb, hr, hml, hown, hts, hlocks, hk, hP, hD, hA⟩ := fx
  have hown : s.vm.findClass RX6 = some mm.cls := hown
  have hS : va_S A s.heap s.heap [] := va_S.rf
  have hl : lv_has ls 4 [(0, .ref a0), (1, .ref x)] := hl
  refine lv_aload_n hx hb dX6_more_0 rfl (lv_at hl 0 rfl) ?_
  refine alenR hx hb (kR.arr hkr) hP q0 h0 dX6_more_1 ?_
  refine lv_iconst (v := 1) hx hb dX6_more_2 (by decide) ?_
  refine lv_iadd hx hb dX6_more_3 ?_
  refine top_int (naddE (a := n) (b := 1) rfl rfl) ?_
  refine anewK (N' := n + 1) hx hb hown (hts _ mX6_more_k7) hkr hP hD hS hA (nI_pos (by omega)) (nI_clamp (by omega)) (by omega) (show 0 + 1 ≤ 1 by omega) (show 0 + (n + 1) ≤ 25 by omega) dX6_more_4 (fun b H hP hD hS => ?_)
  have hP := P_back hP
  have hD := D_back hD
  rw [← mkF_0 q] at hP hD
  refine lv_astore_n (lv' := [(2, .ref b), (0, .ref a0), (1, .ref x)]) hx hb dX6_more_7 rfl hl (by decide) rfl (fun ls hl => ?_)
  refine lv_iconst (v := 0) hx hb dX6_more_8 (by decide) ?_
  refine lv_istore_n (lv' := [(3, .int 0), (2, .ref b), (0, .ref a0), (1, .ref x)]) hx hb dX6_more_9 rfl hl (by decide) rfl (fun ls hl => ?_)
  have key : ∀ (ku i : Nat), i ≤ n → n - i < ku → ∀ (H : Heap) (locs : List Loc), va_P D vwCl ((b, .inl (cA, n + 1, .inr (.inr (.inr (.inr (mkF q i)))))) :: w) H → va_D A ((b, .inl (cA, n + 1, .inr (.inr (.inr (.inr (mkF q i)))))) :: w) → va_S A s.heap H locs → ∀ ls : Array Slot, lv_has ls 4 [(3, .int (nI i)), (2, .ref b), (0, .ref a0), (1, .ref x)] →
      W p l e ({ frames := 0, cells := 1, slots := 25, locals := 0 } : Room) s mm ([.ref a0, .ref x] : List Value).toArray below meth c H locs (0 + 1) (0 + (n + 1)) (MQ below (poR D A (fun a _ => (a, .inl (cA, n + 1, .inr (.inr (.inr (.inr (fun i => some (upn q n x i))))))) :: w)) ([.ref a0, .ref x] : List Value).toArray s 1 25 A) (F0 mm 10 ls []) := by
    intro ku
    induction ku with
    | zero => intro i; intros; omega
    | succ ku ih =>
      intro i hi hm H locs hP hD hS ls hl
      refine lv_iload_n hx hb dX6_more_10 rfl (lv_at hl 0 rfl) ?_
      refine lv_aload_n hx hb dX6_more_11 rfl (lv_at hl 2 rfl) ?_
      refine alenR hx hb (kR.arr hkr) hP (q0 + 1) h0 dX6_more_12 ?_
      refine icgeN (i := i) (n := n) (tgt := 28) hx hb (by omega) (by omega) dX6_more_13 (by decide) (fun c13 => ?_) (fun c13 => ?_)
      · obtain rfl : n = i := by omega
        refine lv_aload_n hx hb dX6_more_28 rfl (lv_at hl 1 rfl) ?_
        refine lv_aload_n hx hb dX6_more_29 rfl (lv_at hl 2 rfl) ?_
        refine alenR hx hb (kR.arr hkr) hP (q0 + 1) h0 dX6_more_30 ?_
        refine lv_aload_n hx hb dX6_more_31 rfl (lv_at hl 3 rfl) ?_
        refine aastR hx hb hk (kR.rA hkr) hP hD hS 0 (qx + 1) rfl h1 (vin_n (show n < n + 1 by omega) (by omega)) dX6_more_32 (fun H locs hP hD hS => ?_)
        rw [nI_clamp (show n < 2 ^ 31 by omega)] at hP hD
        have hP := ext_R hP 0 rfl (mkF_e q n x)
        have hD := hD.set (p := 0) (e := .inl (cA, n + 1, .inr (.inr (.inr (.inr (fun i => some (upn q n x i))))))) rfl
        refine lv_aload_n hx hb dX6_more_33 rfl (lv_at hl 1 rfl) ?_
        exact retR (fun _ => 0) hx hb hr hlocks hS hP hD dX6_more_34 (by omega) (by omega)
      · obtain ⟨k, z, h, hr9⟩ := hrow i (by omega)
        refine lv_aload_n hx hb dX6_more_16 rfl (lv_at hl 1 rfl) ?_
        refine lv_iload_n hx hb dX6_more_17 rfl (lv_at hl 0 rfl) ?_
        refine lv_aload_n hx hb dX6_more_18 rfl (lv_at hl 2 rfl) ?_
        refine lv_iload_n hx hb dX6_more_19 rfl (lv_at hl 0 rfl) ?_
        refine aaldR hx hb (kR.arr hkr) hP (q0 + 1) h0 (vin_n (show i < n by omega) (by omega)) dX6_more_20 ?_
        refine top_eq (show _ = Value.ref (q i) from by rw [nI_clamp (show i < 2 ^ 31 by omega)]; rfl) ?_
        refine aastR hx hb hk (kR.rA hkr) hP hD hS 0 (k + 1) rfl hr9 (vin_n (show i < n + 1 by omega) (by omega)) dX6_more_21 (fun H locs hP hD hS => ?_)
        rw [nI_clamp (show i < 2 ^ 31 by omega), mkF_s] at hP hD
        refine lv_iinc (v := nI (i + 1)) (lv' := [(3, .int (nI (i + 1))), (2, .ref b), (0, .ref a0), (1, .ref x)]) hx hb dX6_more_22 hl (k := 0) rfl (nI_inc i) (by decide) rfl (fun ls hl => ?_)
        refine lv_goto (tgt := 10) hx hb dX6_more_25 (by decide) ?_
        exact ih (i + 1) (by omega) (by omega) _ _ hP hD hS _ hl
  exact key (n + 1) 0 (by omega) (by omega) _ _ hP hD hS _ hl
theorem k5 {x : Int32} (h : bnd x 0 4) : x = 0 ∨ x = 1 ∨ x = 2 ∨ x = 3 ∨ x = 4 := by
  by_cases h0 : x = 0
  · exact Or.inl h0
  by_cases h1 : x = 1
  · exact Or.inr (Or.inl h1)
  by_cases h2 : x = 2
  · exact Or.inr (Or.inr (Or.inl h2))
  by_cases h3 : x = 3
  · exact Or.inr (Or.inr (Or.inr (Or.inl h3)))
  · exact Or.inr (Or.inr (Or.inr (Or.inr (kind4 h h0 h1 h2 h3))))
theorem cGs_0 {c : Mx} {i : Nat} (h : c 2 i = 0) : cGs c i = c := if_pos (by rw [h]; decide)
theorem cGs_1 {n : Nat} {c : Mx} {i : Nat} (hc : cOK n c) (hi : i < n) (h : ¬ c 2 i = 0) : cGs c i = um (um c 0 i (tnd (c 0 i) (c 1 i))) 2 i (c 2 i - 1) := if_neg (fun q => by
  have h1 := (hc i hi).2.2.1
  have h2 := Int32.le_iff_toInt_le.mp q
  have h0 : (0 : Int32).toInt = 0 := by decide
  exact h (Int32.toInt_inj.mp (by omega)))
theorem rnS_OK9 {nD nC : Nat} {cu : Mx} {S : SH} (hg : gOK nD S.2.1) (hc : cOK S.2.2.1 S.2.2.2) (hK : S.2.2.1 ≤ 12) (hq : qOK nD nC cu) (hr2 : S.1 2 = 0 ∨ S.1 2 = 1) (hb5 : bnd (S.1 5) 0 359) (hb6 : bnd (S.1 6) (-30) 30) : SOK nD (rnS nC cu S) := rnS_OK ⟨hK, hg, hc, hr2, hb5, hb6⟩ hq
