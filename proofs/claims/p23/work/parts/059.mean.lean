/-! the mean: its division makes no NaN -/
def smN (f : Nat → Int32) : Nat → Int32
  | 0 => 0
  | i + 1 => smN f i + f i
def mnV (x : Int32) : UInt64 := FP.ddiv (FP.i2d x) 4622945017495814144
def poE (D : va_G) (A : Nat → Prop) (w' : va_W) (x : UInt64) := va_Qd (fun (r : UInt64) (_ : Unit) => r = x) (afW D A w') A
def CE (l : Launch) (y : MethodName) (ws : List Cond) (rm : Room) (D : va_G) (cI : ClassId) (av : List Value) (w : va_W) (x : UInt64) (w' : va_W) : Prop := ∀ sz : Nat, Met l y ws rm (prW D cI av w sz) (poE D (va_A w sz) w' x) 0 0 (va_A w sz)
theorem entE {l : Launch} {y : MethodName} {ws ws1 : List Cond} {rm : Room} {D : va_G} {cI : ClassId} {av : List Value} {w w' : va_W} {cc : ByteArray} {maxL : Nat} {ret : Option FieldType} {x : UInt64} (hy : plainName y.cls = true) (hw : ws = Cond.code y cc maxL ret :: ws1) (hlen : (lg_sl av).length ≤ maxL)
    (body : ∀ (p : Program) (e : Env) (s : State) (m : MethodId) (below : List Frame) (meth : Method) (c : Code) (A : Nat → Prop) (ls : Array Slot), FX p s m meth c cc maxL ret av ws y D cI A w → lv_has ls maxL (lv_args 0 av) →
      W p l e rm s m av.toArray below meth c s.heap [] 0 0 (MQ below (poE D A w' x) av.toArray s 0 0 A) (F0 m 0 ls [])) : CE l y ws rm D cI av w x w' := fun sz => ent_of (Qc := fun A => poE D A w' x) hy hw hlen body sz

theorem mX5_mean_k188 : (.constantDouble RX5 188 4622945017495814144 : Cond) ∈ wsX5_mean := by decide +kernel
theorem mX5_mean_f26 : (.fieldLink RX5 26 "StarConsole" "show" "LStarConsole$Show;" : Cond) ∈ wsX5_mean := by decide +kernel
theorem iX5_mean_X5 : ∀ w ∈ wsX50, w ∈ wsX5_mean := by decide +kernel
theorem mX5_mean_f48 : (.fieldLink RX5 48 "StarConsole$Show" "dimmers" "LStarConsole$Dimmers;" : Cond) ∈ wsX5_mean := by decide +kernel
theorem iX5_mean_X3 : ∀ w ∈ wsX30, w ∈ wsX5_mean := by decide +kernel

theorem hX5_mean : yX5_mean.cls = RX5 ∧ yX5_mean.cls ≠ "java/lang/invoke/MethodHandle" ∧ yX5_mean.cls ≠ "java/lang/invoke/VarHandle" ∧ (parseMethodDescriptor yX5_mean.desc).map (fun d => d.parameters.length) = some 0 := by decide +kernel
set_option maxHeartbeats 4000000 in
set_option maxRecDepth 100000 in
theorem tX5_mean (l : Launch) (D : va_G) (cI : ClassId) (o0 t0 u0 h0 z0 d0 d1 d2 d3 d4 d5 k0 nD : Nat) (nu : Nat → Int32) (g : Mx) (hn : nD ≤ 8) (hnn : vf_n64 (mnV (smN (fun p => glS (g 0) (g 1) (nI p) nD) 12))) : CE l yX5_mean wsX5_mean ({ frames := 2, cells := 0, slots := 0, locals := 46 } : Room) D cI ([.ref o0] : List Value) [(o0, .inr (5, [.ref t0, .ref u0, .ref h0, .ref z0])), (h0, .inr (3, [.int (nu 0), .int (nu 1), .int (nu 2), .int (nu 5), .int (nu 6), .int (nu 3), .int (nu 4), .ref d0, .ref k0])), (d0, .inr (2, [.int (nI nD), .ref d1, .ref d2, .ref d3, .ref d4, .ref d5])), (d1, .inl (cI, 8, .inl (g 0))), (d2, .inl (cI, 8, .inl (g 1)))] (mnV (smN (fun p => glS (g 0) (g 1) (nI p) nD) 12)) [(o0, .inr (5, [.ref t0, .ref u0, .ref h0, .ref z0])), (h0, .inr (3, [.int (nu 0), .int (nu 1), .int (nu 2), .int (nu 5), .int (nu 6), .int (nu 3), .int (nu 4), .ref d0, .ref k0])), (d0, .inr (2, [.int (nI nD), .ref d1, .ref d2, .ref d3, .ref d4, .ref d5])), (d1, .inl (cI, 8, .inl (g 0))), (d2, .inl (cI, 8, .inl (g 1)))] := by
  refine entE (cc := cX5_mean) (maxL := 3) (ret := (some .double)) (by decide) rfl (Nat.le_of_ble_eq_true rfl) (fun p e s m below meth c A ls fx hl => ?_)
  have fx0 := fx
  obtain ⟨hx, hb, hr, hml, hown, hts, hlocks, hk, hP, hD, hA⟩ := fx
  have hown : s.vm.findClass RX5 = some m.cls := hown
  have hS : va_S A s.heap s.heap [] := va_S.rf
  have hP : va_P D vwCl [(o0, .inr (5, [.ref t0, .ref u0, .ref h0, .ref z0])), (h0, .inr (3, [.int (nu 0), .int (nu 1), .int (nu 2), .int (nu 5), .int (nu 6), .int (nu 3), .int (nu 4), .ref d0, .ref k0])), (d0, .inr (2, [.int (nI nD), .ref d1, .ref d2, .ref d3, .ref d4, .ref d5])), (d1, .inl (cI, 8, .inl (g 0))), (d2, .inl (cI, 8, .inl (g 1)))] s.heap := hP
  have hD : va_D A [(o0, .inr (5, [.ref t0, .ref u0, .ref h0, .ref z0])), (h0, .inr (3, [.int (nu 0), .int (nu 1), .int (nu 2), .int (nu 5), .int (nu 6), .int (nu 3), .int (nu 4), .ref d0, .ref k0])), (d0, .inr (2, [.int (nI nD), .ref d1, .ref d2, .ref d3, .ref d4, .ref d5])), (d1, .inl (cI, 8, .inl (g 0))), (d2, .inl (cI, 8, .inl (g 1)))] := hD
  have hl : lv_has ls 3 [(0, .ref o0)] := hl
  refine lv_iconst (v := 0) hx hb dX5_mean_0 (by decide) ?_
  refine lv_istore_n (lv' := [(1, .int 0), (0, .ref o0)]) hx hb dX5_mean_1 rfl hl (by decide) rfl (fun ls hl => ?_)
  refine lv_iconst (v := 0) hx hb dX5_mean_2 (by decide) ?_
  refine lv_istore_n (lv' := [(2, .int 0), (1, .int 0), (0, .ref o0)]) hx hb dX5_mean_3 rfl hl (by decide) rfl (fun ls hl => ?_)
  have key4 : ∀ (ku4 : Nat) (i : Nat), i ≤ 12 → 12 - i < ku4 → ∀ (H : Heap) (locs : List Loc), va_P D vwCl [(o0, .inr (5, [.ref t0, .ref u0, .ref h0, .ref z0])), (h0, .inr (3, [.int (nu 0), .int (nu 1), .int (nu 2), .int (nu 5), .int (nu 6), .int (nu 3), .int (nu 4), .ref d0, .ref k0])), (d0, .inr (2, [.int (nI nD), .ref d1, .ref d2, .ref d3, .ref d4, .ref d5])), (d1, .inl (cI, 8, .inl (g 0))), (d2, .inl (cI, 8, .inl (g 1)))] H → va_D A [(o0, .inr (5, [.ref t0, .ref u0, .ref h0, .ref z0])), (h0, .inr (3, [.int (nu 0), .int (nu 1), .int (nu 2), .int (nu 5), .int (nu 6), .int (nu 3), .int (nu 4), .ref d0, .ref k0])), (d0, .inr (2, [.int (nI nD), .ref d1, .ref d2, .ref d3, .ref d4, .ref d5])), (d1, .inl (cI, 8, .inl (g 0))), (d2, .inl (cI, 8, .inl (g 1)))] → va_S A s.heap H locs → ∀ ls : Array Slot, lv_has ls 3 [(2, .int (nI i)), (1, .int (smN (fun p => glS (g 0) (g 1) (nI p) nD) i)), (0, .ref o0)] → W p l e ({ frames := 2, cells := 0, slots := 0, locals := 46 } : Room) s m ([.ref o0] : List Value).toArray below meth c H locs 0 0 (MQ below (poE D A [(o0, .inr (5, [.ref t0, .ref u0, .ref h0, .ref z0])), (h0, .inr (3, [.int (nu 0), .int (nu 1), .int (nu 2), .int (nu 5), .int (nu 6), .int (nu 3), .int (nu 4), .ref d0, .ref k0])), (d0, .inr (2, [.int (nI nD), .ref d1, .ref d2, .ref d3, .ref d4, .ref d5])), (d1, .inl (cI, 8, .inl (g 0))), (d2, .inl (cI, 8, .inl (g 1)))] (mnV (smN (fun p => glS (g 0) (g 1) (nI p) nD) 12))) ([.ref o0] : List Value).toArray s 0 0 A) (F0 m 4 ls []) := by
    intro ku4
    induction ku4 with
    | zero => intro i; intros; omega
    | succ ku4 ih4 =>
      intro i  hi4 hm4  H locs hP hD hS ls hl
      refine lv_iload_n hx hb dX5_mean_4 rfl (lv_at hl 0 rfl) ?_
      refine lv_bipush (v := 12) hx hb dX5_mean_5 (by decide) ?_
      refine icgeN (i := i) (n := 12) (tgt := 30) hx hb (by omega) (by omega) dX5_mean_7 (by decide) (fun c7 => ?_) (fun c7 => ?_)
      · obtain rfl : 12 = i := by omega
        refine lv_iload_n hx hb dX5_mean_30 rfl (lv_at hl 1 rfl) ?_
        refine lv_i2d hx hb dX5_mean_31 ?_
        refine lv_ldc2d hx hb hown (hts _ mX5_mean_k188) dX5_mean_32 ?_
        refine lv_ddiv hx hb dX5_mean_35 hnn ?_
        exact W.dret hx hb hr (fun t ht _ => ⟨⟨_, (), rfl, rfl, by rw [ht]; exact hP, hD⟩, hS.F ht⟩) (fun q hq => hS.2.2 q hq) dX5_mean_36
      · refine lv_iload_n hx hb dX5_mean_10 rfl (lv_at hl 1 rfl) ?_
        refine lv_aload_n hx hb dX5_mean_11 rfl (lv_at hl 2 rfl) ?_
        refine va_get (D := D) (ci := 5) (v := .ref h0) (C := RX5) (T := TX5) (N := 4) hx hb hts iX5_mean_X5 hown hk.1 hP 0 rfl rfl 2 (by decide) (hts _ mX5_mean_f26) (fun _ h9 => h9) rfl dX5_mean_12 ?_
        refine va_get (D := D) (ci := 3) (v := .ref d0) (C := RX3) (T := TX3) (N := 9) hx hb hts iX5_mean_X3 hown hk.1 hP 1 rfl rfl 7 (by decide) (hts _ mX5_mean_f48) (fun _ h9 => h9) rfl dX5_mean_15 ?_
        refine lv_iload_n hx hb dX5_mean_18 rfl (lv_at hl 0 rfl) ?_
        refine frI (wc := [(d0, .inr (2, [.int (nI nD), .ref d1, .ref d2, .ref d3, .ref d4, .ref d5])), (d1, .inl (cI, 8, .inl (g 0))), (d2, .inl (cI, 8, .inl (g 1)))]) (wc' := [(d0, .inr (2, [.int (nI nD), .ref d1, .ref d2, .ref d3, .ref d4, .ref d5])), (d1, .inl (cI, 8, .inl (g 0))), (d2, .inl (cI, 8, .inl (g 1)))]) (w' := [(o0, .inr (5, [.ref t0, .ref u0, .ref h0, .ref z0])), (h0, .inr (3, [.int (nu 0), .int (nu 1), .int (nu 2), .int (nu 5), .int (nu 6), .int (nu 3), .int (nu 4), .ref d0, .ref k0])), (d0, .inr (2, [.int (nI nD), .ref d1, .ref d2, .ref d3, .ref d4, .ref d5])), (d1, .inl (cI, 8, .inl (g 0))), (d2, .inl (cI, 8, .inl (g 1)))]) hP hD hS hA [2, 3, 4] [0, 1] [0, 1, 2, 3, 4] rfl rfl rfl rfl rfl (va_runV (As := [.int (nI i)]) (rest := [.int (smN (fun p => glS (g 0) (g 1) (nI p) nD) i)]) ⟨hx, hb, hml, hown, hts⟩ (tX2_glareOn l D cI d0 d1 d2 d3 d4 d5 nD (g 0) (g 1) (nI i) (by omega) _) (cwV 1 hts gX5_mean_X2_glareOn rfl rfl rfl hX2_glareOn ⟨Nat.le_of_ble_eq_true rfl, Nat.le_of_ble_eq_true rfl⟩) (preV_of hk hP hD [2, 3, 4] rfl rfl (recvO hk hP (ci := 2) (q0 := 2) rfl rfl)) rfl rfl hl.1 rfl (lv_room (Nat.le_of_ble_eq_true rfl)) dX5_mean_19 ⟨Nat.le_of_ble_eq_true rfl, Nat.le_of_ble_eq_true rfl⟩) (fun H locs hP hD hS => ?_)
        refine lv_iadd hx hb dX5_mean_22 ?_
        refine lv_istore_n (lv' := [(1, .int ((smN (fun p => glS (g 0) (g 1) (nI p) nD) i) + (glS (g 0) (g 1) (nI i) nD))), (2, .int (nI i)), (0, .ref o0)]) hx hb dX5_mean_23 rfl hl (by decide) rfl (fun ls hl => ?_)
        refine lv_iinc (v := nI (i + 1)) (lv' := [(2, .int (nI (i + 1))), (1, .int ((smN (fun p => glS (g 0) (g 1) (nI p) nD) i) + (glS (g 0) (g 1) (nI i) nD))), (0, .ref o0)]) hx hb dX5_mean_24 hl (k := 1) rfl (nI_inc i) (by decide) rfl (fun ls hl => ?_)
        refine lv_goto (tgt := 4) hx hb dX5_mean_27 (by decide) ?_
        exact ih4 (i + 1)  (by omega) (by omega)  _ _ hP hD hS _ (lv_sub hl [0, 1, 2] rfl)
  exact key4 (12 + 1) 0  (by omega) (by omega)  _ _ hP hD hS _ (lv_sub hl [0, 1, 2] rfl)
