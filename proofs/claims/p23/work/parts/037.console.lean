theorem mX5_run_f26 : (.fieldLink RX5 26 "StarConsole" "show" "LStarConsole$Show;" : Cond) ∈ wsX5_run := by decide +kernel
theorem iX5_run_X5 : ∀ w ∈ wsX50, w ∈ wsX5_run := by decide +kernel
theorem mX5_run_f104 : (.fieldLink RX5 104 "StarConsole$Show" "clockRuns" "Z" : Cond) ∈ wsX5_run := by decide +kernel
theorem iX5_run_X3 : ∀ w ∈ wsX30, w ∈ wsX5_run := by decide +kernel
theorem hX5_run : yX5_run.cls = RX5 ∧ yX5_run.cls ≠ "java/lang/invoke/MethodHandle" ∧ yX5_run.cls ≠ "java/lang/invoke/VarHandle" ∧ (parseMethodDescriptor yX5_run.desc).map (fun d => d.parameters.length) = some 0 := by decide +kernel
set_option maxHeartbeats 4000000 in
set_option maxRecDepth 100000 in
theorem tX5_run (l : Launch) (D : va_G) (cI : ClassId) (o0 t0 u0 h0 z0 d0 k0 : Nat) (nu : Nat → Int32)  : CI l yX5_run wsX5_run ({ frames := 0, cells := 0, slots := 0, locals := 0 } : Room) D cI ([.ref o0] : List Value) [(o0, .inr (5, [.ref t0, .ref u0, .ref h0, .ref z0])), (h0, .inr (3, [.int (nu 0), .int (nu 1), .int (nu 2), .int (nu 5), .int (nu 6), .int (nu 3), .int (nu 4), .ref d0, .ref k0]))] (swI (nu 2)) [(o0, .inr (5, [.ref t0, .ref u0, .ref h0, .ref z0])), (h0, .inr (3, [.int ((un nu 2 (swI (nu 2))) 0), .int ((un nu 2 (swI (nu 2))) 1), .int ((un nu 2 (swI (nu 2))) 2), .int ((un nu 2 (swI (nu 2))) 5), .int ((un nu 2 (swI (nu 2))) 6), .int ((un nu 2 (swI (nu 2))) 3), .int ((un nu 2 (swI (nu 2))) 4), .ref d0, .ref k0]))] := by
  refine entI (cc := cX5_run) (maxL := 1) (ret := (some .boolean)) (by decide) rfl (Nat.le_of_ble_eq_true rfl) (fun p e s m below meth c A ls fx hl => ?_)
  obtain ⟨hx, hb, hr, hml, hown, hts, hlocks, hk, hP, hD, hA⟩ := fx
  have hown : s.vm.findClass RX5 = some m.cls := hown
  have hS : va_S A s.heap s.heap [] := va_S.rf
  have hP : va_P D vwCl [(o0, .inr (5, [.ref t0, .ref u0, .ref h0, .ref z0])), (h0, .inr (3, [.int (nu 0), .int (nu 1), .int (nu 2), .int (nu 5), .int (nu 6), .int (nu 3), .int (nu 4), .ref d0, .ref k0]))] s.heap := hP
  have hD : va_D A [(o0, .inr (5, [.ref t0, .ref u0, .ref h0, .ref z0])), (h0, .inr (3, [.int (nu 0), .int (nu 1), .int (nu 2), .int (nu 5), .int (nu 6), .int (nu 3), .int (nu 4), .ref d0, .ref k0]))] := hD
  have hl : lv_has ls 1 [(0, .ref o0)] := hl
  refine lv_aload_n hx hb dX5_run_0 rfl (lv_at hl 0 rfl) ?_
  refine va_get (D := D) (ci := 5) (v := .ref h0) (C := RX5) (T := TX5) (N := 4) hx hb hts iX5_run_X5 hown hk.1 hP 0 rfl rfl 2 (by decide) (hts _ mX5_run_f26) (fun _ h9 => h9) rfl dX5_run_1 ?_
  refine lv_aload_n hx hb dX5_run_4 rfl (lv_at hl 0 rfl) ?_
  refine va_get (D := D) (ci := 5) (v := .ref h0) (C := RX5) (T := TX5) (N := 4) hx hb hts iX5_run_X5 hown hk.1 hP 0 rfl rfl 2 (by decide) (hts _ mX5_run_f26) (fun _ h9 => h9) rfl dX5_run_5 ?_
  refine va_get (D := D) (ci := 3) (v := .int (nu 2)) (C := RX3) (T := TX3) (N := 9) hx hb hts iX5_run_X3 hown hk.1 hP 1 rfl rfl 2 (by decide) (hts _ mX5_run_f104) (fun _ h9 => h9) rfl dX5_run_8 ?_
  refine lv_if_ne (tgt := 18) hx hb dX5_run_11 (by decide) (fun c11 => ?_) (fun c11 => ?_)
  · refine lv_iconst (v := 0) hx hb dX5_run_18 (by decide) ?_
    rw [show swI (nu 2) = 0 from if_neg c11]
    refine va_put (D := D) (ci := 3) (v := .int 0) (ty := .boolean) (C := RX3) (T := TX3) (N := 9) hx hb hts iX5_run_X3 tyX3 tyX3_ok nmX3 hown hk.1 hP hD hS 1 rfl rfl 2 (by decide) (hts _ mX5_run_f104) (fun _ h9 => h9) rfl (by decide +kernel) rfl rfl (Nat.le_of_ble_eq_true rfl) dX5_run_19 (fun H locs hP hD hS => ?_)
    have hP : va_P D vwCl [(o0, .inr (5, [.ref t0, .ref u0, .ref h0, .ref z0])), (h0, .inr (3, [.int (nu 0), .int (nu 1), .int 0, .int (nu 5), .int (nu 6), .int (nu 3), .int (nu 4), .ref d0, .ref k0]))] H := hP
    have hD : va_D A [(o0, .inr (5, [.ref t0, .ref u0, .ref h0, .ref z0])), (h0, .inr (3, [.int (nu 0), .int (nu 1), .int 0, .int (nu 5), .int (nu 6), .int (nu 3), .int (nu 4), .ref d0, .ref k0]))] := hD
    refine lv_aload_n hx hb dX5_run_22 rfl (lv_at hl 0 rfl) ?_
    refine va_get (D := D) (ci := 5) (v := .ref h0) (C := RX5) (T := TX5) (N := 4) hx hb hts iX5_run_X5 hown hk.1 hP 0 rfl rfl 2 (by decide) (hts _ mX5_run_f26) (fun _ h9 => h9) rfl dX5_run_23 ?_
    refine va_get (D := D) (ci := 3) (v := .int 0) (C := RX3) (T := TX3) (N := 9) hx hb hts iX5_run_X3 hown hk.1 hP 1 rfl rfl 2 (by decide) (hts _ mX5_run_f104) (fun _ h9 => h9) rfl dX5_run_26 ?_
    exact retI hx hb hr hlocks hS hP hD dX5_run_29 (rfl) rfl
  · refine lv_iconst (v := 1) hx hb dX5_run_14 (by decide) ?_
    refine lv_goto (tgt := 19) hx hb dX5_run_15 (by decide) ?_
    rw [show swI (nu 2) = 1 from if_pos c11]
    refine va_put (D := D) (ci := 3) (v := .int 1) (ty := .boolean) (C := RX3) (T := TX3) (N := 9) hx hb hts iX5_run_X3 tyX3 tyX3_ok nmX3 hown hk.1 hP hD hS 1 rfl rfl 2 (by decide) (hts _ mX5_run_f104) (fun _ h9 => h9) rfl (by decide +kernel) rfl rfl (Nat.le_of_ble_eq_true rfl) dX5_run_19 (fun H locs hP hD hS => ?_)
    have hP : va_P D vwCl [(o0, .inr (5, [.ref t0, .ref u0, .ref h0, .ref z0])), (h0, .inr (3, [.int (nu 0), .int (nu 1), .int 1, .int (nu 5), .int (nu 6), .int (nu 3), .int (nu 4), .ref d0, .ref k0]))] H := hP
    have hD : va_D A [(o0, .inr (5, [.ref t0, .ref u0, .ref h0, .ref z0])), (h0, .inr (3, [.int (nu 0), .int (nu 1), .int 1, .int (nu 5), .int (nu 6), .int (nu 3), .int (nu 4), .ref d0, .ref k0]))] := hD
    refine lv_aload_n hx hb dX5_run_22 rfl (lv_at hl 0 rfl) ?_
    refine va_get (D := D) (ci := 5) (v := .ref h0) (C := RX5) (T := TX5) (N := 4) hx hb hts iX5_run_X5 hown hk.1 hP 0 rfl rfl 2 (by decide) (hts _ mX5_run_f26) (fun _ h9 => h9) rfl dX5_run_23 ?_
    refine va_get (D := D) (ci := 3) (v := .int 1) (C := RX3) (T := TX3) (N := 9) hx hb hts iX5_run_X3 hown hk.1 hP 1 rfl rfl 2 (by decide) (hts _ mX5_run_f104) (fun _ h9 => h9) rfl dX5_run_26 ?_
    exact retI hx hb hr hlocks hS hP hD dX5_run_29 (rfl) rfl

theorem mX5_next_f19 : (.fieldLink RX5 19 "StarConsole" "cues" "LStarConsole$Cues;" : Cond) ∈ wsX5_next := by decide +kernel
theorem iX5_next_X5 : ∀ w ∈ wsX50, w ∈ wsX5_next := by decide +kernel
theorem mX5_next_f26 : (.fieldLink RX5 26 "StarConsole" "show" "LStarConsole$Show;" : Cond) ∈ wsX5_next := by decide +kernel
theorem mX5_next_f110 : (.fieldLink RX5 110 "StarConsole$Show" "clock" "I" : Cond) ∈ wsX5_next := by decide +kernel
theorem iX5_next_X3 : ∀ w ∈ wsX30, w ∈ wsX5_next := by decide +kernel
theorem hX5_next : yX5_next.cls = RX5 ∧ yX5_next.cls ≠ "java/lang/invoke/MethodHandle" ∧ yX5_next.cls ≠ "java/lang/invoke/VarHandle" ∧ (parseMethodDescriptor yX5_next.desc).map (fun d => d.parameters.length) = some 0 := by decide +kernel
set_option maxHeartbeats 4000000 in
set_option maxRecDepth 100000 in
theorem tX5_next (l : Launch) (D : va_G) (cI : ClassId) (o0 t0 u0 u1 u2 u3 u4 h0 z0 d0 k0 nC : Nat) (f nu : Nat → Int32) (hC : nC ≤ 24) : CI l yX5_next wsX5_next ({ frames := 3, cells := 0, slots := 0, locals := 65 } : Room) D cI ([.ref o0] : List Value) [(o0, .inr (5, [.ref t0, .ref u0, .ref h0, .ref z0])), (h0, .inr (3, [.int (nu 0), .int (nu 1), .int (nu 2), .int (nu 5), .int (nu 6), .int (nu 3), .int (nu 4), .ref d0, .ref k0])), (u0, .inr (1, [.int (nI nC), .ref u1, .ref u2, .ref u3, .ref u4])), (u1, .inl (cI, 24, .inl f))] (fbI (fbS f (nu 1) nC)) [(o0, .inr (5, [.ref t0, .ref u0, .ref h0, .ref z0])), (h0, .inr (3, [.int (nu 0), .int (nu 1), .int (nu 2), .int (nu 5), .int (nu 6), .int (nu 3), .int (nu 4), .ref d0, .ref k0])), (u0, .inr (1, [.int (nI nC), .ref u1, .ref u2, .ref u3, .ref u4])), (u1, .inl (cI, 24, .inl f))] := by
  refine entI (cc := cX5_next) (maxL := 1) (ret := (some .int)) (by decide) rfl (Nat.le_of_ble_eq_true rfl) (fun p e s m below meth c A ls fx hl => ?_)
  obtain ⟨hx, hb, hr, hml, hown, hts, hlocks, hk, hP, hD, hA⟩ := fx
  have hown : s.vm.findClass RX5 = some m.cls := hown
  have hS : va_S A s.heap s.heap [] := va_S.rf
  have hP : va_P D vwCl [(o0, .inr (5, [.ref t0, .ref u0, .ref h0, .ref z0])), (h0, .inr (3, [.int (nu 0), .int (nu 1), .int (nu 2), .int (nu 5), .int (nu 6), .int (nu 3), .int (nu 4), .ref d0, .ref k0])), (u0, .inr (1, [.int (nI nC), .ref u1, .ref u2, .ref u3, .ref u4])), (u1, .inl (cI, 24, .inl f))] s.heap := hP
  have hD : va_D A [(o0, .inr (5, [.ref t0, .ref u0, .ref h0, .ref z0])), (h0, .inr (3, [.int (nu 0), .int (nu 1), .int (nu 2), .int (nu 5), .int (nu 6), .int (nu 3), .int (nu 4), .ref d0, .ref k0])), (u0, .inr (1, [.int (nI nC), .ref u1, .ref u2, .ref u3, .ref u4])), (u1, .inl (cI, 24, .inl f))] := hD
  have hl : lv_has ls 1 [(0, .ref o0)] := hl
  refine lv_aload_n hx hb dX5_next_0 rfl (lv_at hl 0 rfl) ?_
  refine va_get (D := D) (ci := 5) (v := .ref u0) (C := RX5) (T := TX5) (N := 4) hx hb hts iX5_next_X5 hown hk.1 hP 0 rfl rfl 1 (by decide) (hts _ mX5_next_f19) (fun _ h9 => h9) rfl dX5_next_1 ?_
  refine lv_aload_n hx hb dX5_next_4 rfl (lv_at hl 0 rfl) ?_
  refine va_get (D := D) (ci := 5) (v := .ref h0) (C := RX5) (T := TX5) (N := 4) hx hb hts iX5_next_X5 hown hk.1 hP 0 rfl rfl 2 (by decide) (hts _ mX5_next_f26) (fun _ h9 => h9) rfl dX5_next_5 ?_
  refine va_get (D := D) (ci := 3) (v := .int (nu 1)) (C := RX3) (T := TX3) (N := 9) hx hb hts iX5_next_X3 hown hk.1 hP 1 rfl rfl 1 (by decide) (hts _ mX5_next_f110) (fun _ h9 => h9) rfl dX5_next_8 ?_
  refine frI (wc := [(u0, .inr (1, [.int (nI nC), .ref u1, .ref u2, .ref u3, .ref u4])), (u1, .inl (cI, 24, .inl f))]) (wc' := [(u0, .inr (1, [.int (nI nC), .ref u1, .ref u2, .ref u3, .ref u4])), (u1, .inl (cI, 24, .inl f))]) (w' := [(o0, .inr (5, [.ref t0, .ref u0, .ref h0, .ref z0])), (h0, .inr (3, [.int (nu 0), .int (nu 1), .int (nu 2), .int (nu 5), .int (nu 6), .int (nu 3), .int (nu 4), .ref d0, .ref k0])), (u0, .inr (1, [.int (nI nC), .ref u1, .ref u2, .ref u3, .ref u4])), (u1, .inl (cI, 24, .inl f))]) hP hD hS hA [2, 3] [0, 1] [0, 1, 2, 3] rfl rfl rfl rfl rfl (va_runV (As := [.int (nu 1)]) (rest := []) ⟨hx, hb, hml, hown, hts⟩ (tX1_firstFrom l D cI u0 u1 u2 u3 u4 nC f (nu 1) (by omega) _) (cwV 1 hts gX5_next_X1_firstFrom rfl rfl rfl hX1_firstFrom ⟨Nat.le_of_ble_eq_true rfl, Nat.le_of_ble_eq_true rfl⟩) (preV_of hk hP hD [2, 3] rfl rfl (recvO hk hP (ci := 1) (q0 := 2) rfl rfl)) rfl rfl hl.1 rfl (lv_room (Nat.le_of_ble_eq_true rfl)) dX5_next_11 ⟨Nat.le_of_ble_eq_true rfl, Nat.le_of_ble_eq_true rfl⟩) (fun H locs hP hD hS => ?_)
  exact retI hx hb hr hlocks hS hP hD dX5_next_14 (rfl) rfl

theorem mX5_darkest_f26 : (.fieldLink RX5 26 "StarConsole" "show" "LStarConsole$Show;" : Cond) ∈ wsX5_darkest := by decide +kernel
theorem iX5_darkest_X5 : ∀ w ∈ wsX50, w ∈ wsX5_darkest := by decide +kernel
theorem mX5_darkest_f48 : (.fieldLink RX5 48 "StarConsole$Show" "dimmers" "LStarConsole$Dimmers;" : Cond) ∈ wsX5_darkest := by decide +kernel
theorem iX5_darkest_X3 : ∀ w ∈ wsX30, w ∈ wsX5_darkest := by decide +kernel
theorem hX5_darkest : yX5_darkest.cls = RX5 ∧ yX5_darkest.cls ≠ "java/lang/invoke/MethodHandle" ∧ yX5_darkest.cls ≠ "java/lang/invoke/VarHandle" ∧ (parseMethodDescriptor yX5_darkest.desc).map (fun d => d.parameters.length) = some 0 := by decide +kernel
set_option maxHeartbeats 4000000 in
set_option maxRecDepth 100000 in
theorem tX5_darkest (l : Launch) (D : va_G) (cI : ClassId) (o0 t0 u0 h0 z0 d0 d1 d2 d3 d4 d5 k0 nD : Nat) (nu : Nat → Int32) (g : Mx) (hn : nD ≤ 8) : CI l yX5_darkest wsX5_darkest ({ frames := 2, cells := 0, slots := 0, locals := 46 } : Room) D cI ([.ref o0] : List Value) [(o0, .inr (5, [.ref t0, .ref u0, .ref h0, .ref z0])), (h0, .inr (3, [.int (nu 0), .int (nu 1), .int (nu 2), .int (nu 5), .int (nu 6), .int (nu 3), .int (nu 4), .ref d0, .ref k0])), (d0, .inr (2, [.int (nI nD), .ref d1, .ref d2, .ref d3, .ref d4, .ref d5])), (d1, .inl (cI, 8, .inl (g 0))), (d2, .inl (cI, 8, .inl (g 1)))] (nI (dkB (fun p => glS (g 0) (g 1) (nI p) nD) 12)) [(o0, .inr (5, [.ref t0, .ref u0, .ref h0, .ref z0])), (h0, .inr (3, [.int (nu 0), .int (nu 1), .int (nu 2), .int (nu 5), .int (nu 6), .int (nu 3), .int (nu 4), .ref d0, .ref k0])), (d0, .inr (2, [.int (nI nD), .ref d1, .ref d2, .ref d3, .ref d4, .ref d5])), (d1, .inl (cI, 8, .inl (g 0))), (d2, .inl (cI, 8, .inl (g 1)))] := by
  refine entI (cc := cX5_darkest) (maxL := 3) (ret := (some .int)) (by decide) rfl (Nat.le_of_ble_eq_true rfl) (fun p e s m below meth c A ls fx hl => ?_)
  obtain ⟨hx, hb, hr, hml, hown, hts, hlocks, hk, hP, hD, hA⟩ := fx
  have hown : s.vm.findClass RX5 = some m.cls := hown
  have hS : va_S A s.heap s.heap [] := va_S.rf
  have hP : va_P D vwCl [(o0, .inr (5, [.ref t0, .ref u0, .ref h0, .ref z0])), (h0, .inr (3, [.int (nu 0), .int (nu 1), .int (nu 2), .int (nu 5), .int (nu 6), .int (nu 3), .int (nu 4), .ref d0, .ref k0])), (d0, .inr (2, [.int (nI nD), .ref d1, .ref d2, .ref d3, .ref d4, .ref d5])), (d1, .inl (cI, 8, .inl (g 0))), (d2, .inl (cI, 8, .inl (g 1)))] s.heap := hP
  have hD : va_D A [(o0, .inr (5, [.ref t0, .ref u0, .ref h0, .ref z0])), (h0, .inr (3, [.int (nu 0), .int (nu 1), .int (nu 2), .int (nu 5), .int (nu 6), .int (nu 3), .int (nu 4), .ref d0, .ref k0])), (d0, .inr (2, [.int (nI nD), .ref d1, .ref d2, .ref d3, .ref d4, .ref d5])), (d1, .inl (cI, 8, .inl (g 0))), (d2, .inl (cI, 8, .inl (g 1)))] := hD
  have hl : lv_has ls 3 [(0, .ref o0)] := hl
  refine lv_iconst (v := 0) hx hb dX5_darkest_0 (by decide) ?_
  refine lv_istore_n (lv' := [(1, .int 0), (0, .ref o0)]) hx hb dX5_darkest_1 rfl hl (by decide) rfl (fun ls hl => ?_)
  refine lv_iconst (v := 1) hx hb dX5_darkest_2 (by decide) ?_
  refine lv_istore_n (lv' := [(2, .int 1), (1, .int 0), (0, .ref o0)]) hx hb dX5_darkest_3 rfl hl (by decide) rfl (fun ls hl => ?_)
  have key4 : ∀ (ku4 : Nat) (i : Nat), i ≤ 12 → 12 - i < ku4 → ∀ (H : Heap) (locs : List Loc), va_P D vwCl [(o0, .inr (5, [.ref t0, .ref u0, .ref h0, .ref z0])), (h0, .inr (3, [.int (nu 0), .int (nu 1), .int (nu 2), .int (nu 5), .int (nu 6), .int (nu 3), .int (nu 4), .ref d0, .ref k0])), (d0, .inr (2, [.int (nI nD), .ref d1, .ref d2, .ref d3, .ref d4, .ref d5])), (d1, .inl (cI, 8, .inl (g 0))), (d2, .inl (cI, 8, .inl (g 1)))] H → va_D A [(o0, .inr (5, [.ref t0, .ref u0, .ref h0, .ref z0])), (h0, .inr (3, [.int (nu 0), .int (nu 1), .int (nu 2), .int (nu 5), .int (nu 6), .int (nu 3), .int (nu 4), .ref d0, .ref k0])), (d0, .inr (2, [.int (nI nD), .ref d1, .ref d2, .ref d3, .ref d4, .ref d5])), (d1, .inl (cI, 8, .inl (g 0))), (d2, .inl (cI, 8, .inl (g 1)))] → va_S A s.heap H locs → ∀ ls : Array Slot, lv_has ls 3 [(2, .int (nI i)), (1, .int (nI (dkB (fun p => glS (g 0) (g 1) (nI p) nD) i))), (0, .ref o0)] → W p l e ({ frames := 2, cells := 0, slots := 0, locals := 46 } : Room) s m ([.ref o0] : List Value).toArray below meth c H locs 0 0 (MQ below (poI D A [(o0, .inr (5, [.ref t0, .ref u0, .ref h0, .ref z0])), (h0, .inr (3, [.int (nu 0), .int (nu 1), .int (nu 2), .int (nu 5), .int (nu 6), .int (nu 3), .int (nu 4), .ref d0, .ref k0])), (d0, .inr (2, [.int (nI nD), .ref d1, .ref d2, .ref d3, .ref d4, .ref d5])), (d1, .inl (cI, 8, .inl (g 0))), (d2, .inl (cI, 8, .inl (g 1)))] (nI (dkB (fun p => glS (g 0) (g 1) (nI p) nD) 12))) ([.ref o0] : List Value).toArray s 0 0 A) (F0 m 4 ls []) := by
    intro ku4
    induction ku4 with
    | zero => intro i; intros; omega
    | succ ku4 ih4 =>
      intro i  hi4 hm4  H locs hP hD hS ls hl
      refine lv_iload_n hx hb dX5_darkest_4 rfl (lv_at hl 0 rfl) ?_
      refine lv_bipush (v := 12) hx hb dX5_darkest_5 (by decide) ?_
      refine icgeN (i := i) (n := 12) (tgt := 43) hx hb (by omega) (by omega) dX5_darkest_7 (by decide) (fun c7 => ?_) (fun c7 => ?_)
      · obtain rfl : 12 = i := by omega
        refine lv_iload_n hx hb dX5_darkest_43 rfl (lv_at hl 1 rfl) ?_
        exact retI hx hb hr hlocks hS hP hD dX5_darkest_44 (rfl) rfl
      · refine lv_aload_n hx hb dX5_darkest_10 rfl (lv_at hl 2 rfl) ?_
        refine va_get (D := D) (ci := 5) (v := .ref h0) (C := RX5) (T := TX5) (N := 4) hx hb hts iX5_darkest_X5 hown hk.1 hP 0 rfl rfl 2 (by decide) (hts _ mX5_darkest_f26) (fun _ h9 => h9) rfl dX5_darkest_11 ?_
        refine va_get (D := D) (ci := 3) (v := .ref d0) (C := RX3) (T := TX3) (N := 9) hx hb hts iX5_darkest_X3 hown hk.1 hP 1 rfl rfl 7 (by decide) (hts _ mX5_darkest_f48) (fun _ h9 => h9) rfl dX5_darkest_14 ?_
        refine lv_iload_n hx hb dX5_darkest_17 rfl (lv_at hl 0 rfl) ?_
        refine frI (wc := [(d0, .inr (2, [.int (nI nD), .ref d1, .ref d2, .ref d3, .ref d4, .ref d5])), (d1, .inl (cI, 8, .inl (g 0))), (d2, .inl (cI, 8, .inl (g 1)))]) (wc' := [(d0, .inr (2, [.int (nI nD), .ref d1, .ref d2, .ref d3, .ref d4, .ref d5])), (d1, .inl (cI, 8, .inl (g 0))), (d2, .inl (cI, 8, .inl (g 1)))]) (w' := [(o0, .inr (5, [.ref t0, .ref u0, .ref h0, .ref z0])), (h0, .inr (3, [.int (nu 0), .int (nu 1), .int (nu 2), .int (nu 5), .int (nu 6), .int (nu 3), .int (nu 4), .ref d0, .ref k0])), (d0, .inr (2, [.int (nI nD), .ref d1, .ref d2, .ref d3, .ref d4, .ref d5])), (d1, .inl (cI, 8, .inl (g 0))), (d2, .inl (cI, 8, .inl (g 1)))]) hP hD hS hA [2, 3, 4] [0, 1] [0, 1, 2, 3, 4] rfl rfl rfl rfl rfl (va_runV (As := [.int (nI i)]) (rest := []) ⟨hx, hb, hml, hown, hts⟩ (tX2_glareOn l D cI d0 d1 d2 d3 d4 d5 nD (g 0) (g 1) (nI i) (by omega) _) (cwV 1 hts gX5_darkest_X2_glareOn rfl rfl rfl hX2_glareOn ⟨Nat.le_of_ble_eq_true rfl, Nat.le_of_ble_eq_true rfl⟩) (preV_of hk hP hD [2, 3, 4] rfl rfl (recvO hk hP (ci := 2) (q0 := 2) rfl rfl)) rfl rfl hl.1 rfl (lv_room (Nat.le_of_ble_eq_true rfl)) dX5_darkest_18 ⟨Nat.le_of_ble_eq_true rfl, Nat.le_of_ble_eq_true rfl⟩) (fun H locs hP hD hS => ?_)
        refine lv_aload_n hx hb dX5_darkest_21 rfl (lv_at hl 2 rfl) ?_
        refine va_get (D := D) (ci := 5) (v := .ref h0) (C := RX5) (T := TX5) (N := 4) hx hb hts iX5_darkest_X5 hown hk.1 hP 0 rfl rfl 2 (by decide) (hts _ mX5_darkest_f26) (fun _ h9 => h9) rfl dX5_darkest_22 ?_
        refine va_get (D := D) (ci := 3) (v := .ref d0) (C := RX3) (T := TX3) (N := 9) hx hb hts iX5_darkest_X3 hown hk.1 hP 1 rfl rfl 7 (by decide) (hts _ mX5_darkest_f48) (fun _ h9 => h9) rfl dX5_darkest_25 ?_
        refine lv_iload_n hx hb dX5_darkest_28 rfl (lv_at hl 1 rfl) ?_
        refine frI (wc := [(d0, .inr (2, [.int (nI nD), .ref d1, .ref d2, .ref d3, .ref d4, .ref d5])), (d1, .inl (cI, 8, .inl (g 0))), (d2, .inl (cI, 8, .inl (g 1)))]) (wc' := [(d0, .inr (2, [.int (nI nD), .ref d1, .ref d2, .ref d3, .ref d4, .ref d5])), (d1, .inl (cI, 8, .inl (g 0))), (d2, .inl (cI, 8, .inl (g 1)))]) (w' := [(o0, .inr (5, [.ref t0, .ref u0, .ref h0, .ref z0])), (h0, .inr (3, [.int (nu 0), .int (nu 1), .int (nu 2), .int (nu 5), .int (nu 6), .int (nu 3), .int (nu 4), .ref d0, .ref k0])), (d0, .inr (2, [.int (nI nD), .ref d1, .ref d2, .ref d3, .ref d4, .ref d5])), (d1, .inl (cI, 8, .inl (g 0))), (d2, .inl (cI, 8, .inl (g 1)))]) hP hD hS hA [2, 3, 4] [0, 1] [0, 1, 2, 3, 4] rfl rfl rfl rfl rfl (va_runV (As := [.int (nI (dkB (fun p => glS (g 0) (g 1) (nI p) nD) i))]) (rest := [.int (glS (g 0) (g 1) (nI i) nD)]) ⟨hx, hb, hml, hown, hts⟩ (tX2_glareOn l D cI d0 d1 d2 d3 d4 d5 nD (g 0) (g 1) (nI (dkB (fun p => glS (g 0) (g 1) (nI p) nD) i)) (by omega) _) (cwV 1 hts gX5_darkest_X2_glareOn rfl rfl rfl hX2_glareOn ⟨Nat.le_of_ble_eq_true rfl, Nat.le_of_ble_eq_true rfl⟩) (preV_of hk hP hD [2, 3, 4] rfl rfl (recvO hk hP (ci := 2) (q0 := 2) rfl rfl)) rfl rfl hl.1 rfl (lv_room (Nat.le_of_ble_eq_true rfl)) dX5_darkest_29 ⟨Nat.le_of_ble_eq_true rfl, Nat.le_of_ble_eq_true rfl⟩) (fun H locs hP hD hS => ?_)
        refine lv_icmp_ge (tgt := 37) hx hb dX5_darkest_32 (by decide) (fun c32 => ?_) (fun c32 => ?_)
        · refine lv_iinc (v := nI (i + 1)) (lv' := [(2, .int (nI (i + 1))), (1, .int (nI (dkB (fun p => glS (g 0) (g 1) (nI p) nD) i))), (0, .ref o0)]) hx hb dX5_darkest_37 hl (k := 0) rfl (nI_inc i) (by decide) rfl (fun ls hl => ?_)
          refine lv_goto (tgt := 4) hx hb dX5_darkest_40 (by decide) ?_
          have ihx := ih4 (i + 1)  (by omega) (by omega)
          rw [show dkB (fun p => glS (g 0) (g 1) (nI p) nD) (i + 1) = dkB (fun p => glS (g 0) (g 1) (nI p) nD) i from if_pos c32] at ihx
          exact ihx _ _ hP hD hS _ (lv_sub hl [0, 1, 2] rfl)
        · refine lv_iload_n hx hb dX5_darkest_35 rfl (lv_at hl 0 rfl) ?_
          refine lv_istore_n (lv' := [(1, .int (nI i)), (2, .int (nI i)), (0, .ref o0)]) hx hb dX5_darkest_36 rfl hl (by decide) rfl (fun ls hl => ?_)
          refine lv_iinc (v := nI (i + 1)) (lv' := [(2, .int (nI (i + 1))), (1, .int (nI i)), (0, .ref o0)]) hx hb dX5_darkest_37 hl (k := 1) rfl (nI_inc i) (by decide) rfl (fun ls hl => ?_)
          refine lv_goto (tgt := 4) hx hb dX5_darkest_40 (by decide) ?_
          have ihx := ih4 (i + 1)  (by omega) (by omega)
          rw [show dkB (fun p => glS (g 0) (g 1) (nI p) nD) (i + 1) = i from if_neg c32] at ihx
          exact ihx _ _ hP hD hS _ (lv_sub hl [0, 1, 2] rfl)
  have hl : lv_has ls 3 [(2, .int 1), (1, .int (nI (dkB (fun p => glS (g 0) (g 1) (nI p) nD) 1))), (0, .ref o0)] := by rw [dkB_1]; exact hl
  exact key4 (12 + 1) 1  (by omega) (by omega)  _ _ hP hD hS _ (lv_sub hl [0, 1, 2] rfl)
