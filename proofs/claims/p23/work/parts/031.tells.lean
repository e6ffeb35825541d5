theorem mX3_outshines_f18 : (.fieldLink RX3 18 "StarConsole$Show" "dimmers" "LStarConsole$Dimmers;" : Cond) ∈ wsX3_outshines := by decide +kernel
theorem iX3_outshines_X3 : ∀ w ∈ wsX30, w ∈ wsX3_outshines := by decide +kernel
theorem hX3_outshines : yX3_outshines.cls = RX3 ∧ yX3_outshines.cls ≠ "java/lang/invoke/MethodHandle" ∧ yX3_outshines.cls ≠ "java/lang/invoke/VarHandle" ∧ (parseMethodDescriptor yX3_outshines.desc).map (fun d => d.parameters.length) = some 2 := by decide +kernel
set_option maxHeartbeats 4000000 in
set_option maxRecDepth 100000 in
theorem tX3_outshines (l : Launch) (D : va_G) (cI : ClassId) (h0 d0 d1 d2 d3 d4 d5 k0 nD : Nat) (nu : Nat → Int32) (g : Mx) (an li : Int32) (hn : nD ≤ 8) : CI l yX3_outshines wsX3_outshines ({ frames := 2, cells := 0, slots := 0, locals := 46 } : Room) D cI ([.ref h0, .int an, .int li] : List Value) [(h0, .inr (3, [.int (nu 0), .int (nu 1), .int (nu 2), .int (nu 5), .int (nu 6), .int (nu 3), .int (nu 4), .ref d0, .ref k0])), (d0, .inr (2, [.int (nI nD), .ref d1, .ref d2, .ref d3, .ref d4, .ref d5])), (d1, .inl (cI, 8, .inl (g 0))), (d2, .inl (cI, 8, .inl (g 1)))] (osI nD g an li) [(h0, .inr (3, [.int (nu 0), .int (nu 1), .int (nu 2), .int (nu 5), .int (nu 6), .int (nu 3), .int (nu 4), .ref d0, .ref k0])), (d0, .inr (2, [.int (nI nD), .ref d1, .ref d2, .ref d3, .ref d4, .ref d5])), (d1, .inl (cI, 8, .inl (g 0))), (d2, .inl (cI, 8, .inl (g 1)))] := by
  refine entI (cc := cX3_outshines) (maxL := 3) (ret := (some .boolean)) (by decide) rfl (Nat.le_of_ble_eq_true rfl) (fun p e s m below meth c A ls fx hl => ?_)
  obtain ⟨hx, hb, hr, hml, hown, hts, hlocks, hk, hP, hD, hA⟩ := fx
  have hown : s.vm.findClass RX3 = some m.cls := hown
  have hS : va_S A s.heap s.heap [] := va_S.rf
  have hP : va_P D vwCl [(h0, .inr (3, [.int (nu 0), .int (nu 1), .int (nu 2), .int (nu 5), .int (nu 6), .int (nu 3), .int (nu 4), .ref d0, .ref k0])), (d0, .inr (2, [.int (nI nD), .ref d1, .ref d2, .ref d3, .ref d4, .ref d5])), (d1, .inl (cI, 8, .inl (g 0))), (d2, .inl (cI, 8, .inl (g 1)))] s.heap := hP
  have hD : va_D A [(h0, .inr (3, [.int (nu 0), .int (nu 1), .int (nu 2), .int (nu 5), .int (nu 6), .int (nu 3), .int (nu 4), .ref d0, .ref k0])), (d0, .inr (2, [.int (nI nD), .ref d1, .ref d2, .ref d3, .ref d4, .ref d5])), (d1, .inl (cI, 8, .inl (g 0))), (d2, .inl (cI, 8, .inl (g 1)))] := hD
  have hl : lv_has ls 3 [(0, .ref h0), (1, .int an), (2, .int li)] := hl
  refine lv_bipush (v := 10) hx hb dX3_outshines_0 (by decide) ?_
  refine lv_iload_n hx hb dX3_outshines_2 rfl (lv_at hl 2 rfl) ?_
  refine lv_imul hx hb dX3_outshines_3 ?_
  refine lv_aload_n hx hb dX3_outshines_4 rfl (lv_at hl 0 rfl) ?_
  refine va_get (D := D) (ci := 3) (v := .ref d0) (C := RX3) (T := TX3) (N := 9) hx hb hts iX3_outshines_X3 hown hk.1 hP 0 rfl rfl 7 (by decide) (hts _ mX3_outshines_f18) (fun _ h9 => h9) rfl dX3_outshines_5 ?_
  refine lv_iload_n hx hb dX3_outshines_8 rfl (lv_at hl 1 rfl) ?_
  refine lv_bipush (v := 30) hx hb dX3_outshines_9 (by decide) ?_
  refine lv_idiv hx hb dX3_outshines_11 (by decide) ?_
  refine frI (wc := [(d0, .inr (2, [.int (nI nD), .ref d1, .ref d2, .ref d3, .ref d4, .ref d5])), (d1, .inl (cI, 8, .inl (g 0))), (d2, .inl (cI, 8, .inl (g 1)))]) (wc' := [(d0, .inr (2, [.int (nI nD), .ref d1, .ref d2, .ref d3, .ref d4, .ref d5])), (d1, .inl (cI, 8, .inl (g 0))), (d2, .inl (cI, 8, .inl (g 1)))]) (w' := [(h0, .inr (3, [.int (nu 0), .int (nu 1), .int (nu 2), .int (nu 5), .int (nu 6), .int (nu 3), .int (nu 4), .ref d0, .ref k0])), (d0, .inr (2, [.int (nI nD), .ref d1, .ref d2, .ref d3, .ref d4, .ref d5])), (d1, .inl (cI, 8, .inl (g 0))), (d2, .inl (cI, 8, .inl (g 1)))]) hP hD hS hA [1, 2, 3] [0] [0, 1, 2, 3] rfl rfl rfl rfl rfl (va_runV (As := [.int (an / 30)]) (rest := [.int (10 * li)]) ⟨hx, hb, hml, hown, hts⟩ (tX2_glareOn l D cI d0 d1 d2 d3 d4 d5 nD (g 0) (g 1) (an / 30) (by omega) _) (cwV 1 hts gX3_outshines_X2_glareOn rfl rfl rfl hX2_glareOn ⟨Nat.le_of_ble_eq_true rfl, Nat.le_of_ble_eq_true rfl⟩) (preV_of hk hP hD [1, 2, 3] rfl rfl (recvO hk hP (ci := 2) (q0 := 1) rfl rfl)) rfl rfl hl.1 rfl (lv_room (Nat.le_of_ble_eq_true rfl)) dX3_outshines_12 ⟨Nat.le_of_ble_eq_true rfl, Nat.le_of_ble_eq_true rfl⟩) (fun H locs hP hD hS => ?_)
  refine lv_icmp_le (tgt := 22) hx hb dX3_outshines_15 (by decide) (fun c15 => ?_) (fun c15 => ?_)
  · refine lv_iconst (v := 0) hx hb dX3_outshines_22 (by decide) ?_
    exact retI hx hb hr hlocks hS hP hD dX3_outshines_23 (by rw [osI, if_pos c15]) rfl
  · refine lv_iconst (v := 1) hx hb dX3_outshines_18 (by decide) ?_
    refine lv_goto (tgt := 23) hx hb dX3_outshines_19 (by decide) ?_
    exact retI hx hb hr hlocks hS hP hD dX3_outshines_23 (by rw [osI, if_neg c15]) rfl

theorem mX3_starSeen_f118 : (.fieldLink RX3 118 "StarConsole$Stars" "degree" "[I" : Cond) ∈ wsX3_starSeen := by decide +kernel
theorem iX3_starSeen_X4 : ∀ w ∈ wsX40, w ∈ wsX3_starSeen := by decide +kernel
theorem mX3_starSeen_f39 : (.fieldLink RX3 39 "StarConsole$Show" "ballAngle" "I" : Cond) ∈ wsX3_starSeen := by decide +kernel
theorem iX3_starSeen_X3 : ∀ w ∈ wsX30, w ∈ wsX3_starSeen := by decide +kernel
theorem mX3_starSeen_iX5 : (.initialized RX5 : Cond) ∈ wsX3_starSeen := by decide +kernel
theorem mX3_starSeen_stX5_turned : (.static yX5_turned : Cond) ∈ wsX3_starSeen := by decide +kernel
theorem mX3_starSeen_f121 : (.fieldLink RX3 121 "StarConsole$Stars" "light" "[I" : Cond) ∈ wsX3_starSeen := by decide +kernel
theorem hX3_starSeen : yX3_starSeen.cls = RX3 ∧ yX3_starSeen.cls ≠ "java/lang/invoke/MethodHandle" ∧ yX3_starSeen.cls ≠ "java/lang/invoke/VarHandle" ∧ (parseMethodDescriptor yX3_starSeen.desc).map (fun d => d.parameters.length) = some 2 := by decide +kernel
set_option maxHeartbeats 4000000 in
set_option maxRecDepth 100000 in
theorem tX3_starSeen (l : Launch) (D : va_G) (cI : ClassId) (h0 d0 d1 d2 d3 d4 d5 k0 t0 t1 t2 nD nT : Nat) (nu : Nat → Int32) (g st : Mx) (k : Nat) (hn : nD ≤ 8) (hT : nT ≤ 20) (hk8 : k < nT) : CI l yX3_starSeen wsX3_starSeen ({ frames := 3, cells := 0, slots := 0, locals := 68 } : Room) D cI ([.ref h0, .ref t0, .int (nI k)] : List Value) [(h0, .inr (3, [.int (nu 0), .int (nu 1), .int (nu 2), .int (nu 5), .int (nu 6), .int (nu 3), .int (nu 4), .ref d0, .ref k0])), (d0, .inr (2, [.int (nI nD), .ref d1, .ref d2, .ref d3, .ref d4, .ref d5])), (d1, .inl (cI, 8, .inl (g 0))), (d2, .inl (cI, 8, .inl (g 1))), (t0, .inr (4, [.int (nI nT), .ref t1, .ref t2])), (t1, .inl (cI, 20, .inl (st 0))), (t2, .inl (cI, 20, .inl (st 1)))] (ssI nD g st (nu 5) k) [(h0, .inr (3, [.int (nu 0), .int (nu 1), .int (nu 2), .int (nu 5), .int (nu 6), .int (nu 3), .int (nu 4), .ref d0, .ref k0])), (d0, .inr (2, [.int (nI nD), .ref d1, .ref d2, .ref d3, .ref d4, .ref d5])), (d1, .inl (cI, 8, .inl (g 0))), (d2, .inl (cI, 8, .inl (g 1))), (t0, .inr (4, [.int (nI nT), .ref t1, .ref t2])), (t1, .inl (cI, 20, .inl (st 0))), (t2, .inl (cI, 20, .inl (st 1)))] := by
  refine entI (cc := cX3_starSeen) (maxL := 3) (ret := (some .boolean)) (by decide) rfl (Nat.le_of_ble_eq_true rfl) (fun p e s m below meth c A ls fx hl => ?_)
  obtain ⟨hx, hb, hr, hml, hown, hts, hlocks, hk, hP, hD, hA⟩ := fx
  have hown : s.vm.findClass RX3 = some m.cls := hown
  have hS : va_S A s.heap s.heap [] := va_S.rf
  have hP : va_P D vwCl [(h0, .inr (3, [.int (nu 0), .int (nu 1), .int (nu 2), .int (nu 5), .int (nu 6), .int (nu 3), .int (nu 4), .ref d0, .ref k0])), (d0, .inr (2, [.int (nI nD), .ref d1, .ref d2, .ref d3, .ref d4, .ref d5])), (d1, .inl (cI, 8, .inl (g 0))), (d2, .inl (cI, 8, .inl (g 1))), (t0, .inr (4, [.int (nI nT), .ref t1, .ref t2])), (t1, .inl (cI, 20, .inl (st 0))), (t2, .inl (cI, 20, .inl (st 1)))] s.heap := hP
  have hD : va_D A [(h0, .inr (3, [.int (nu 0), .int (nu 1), .int (nu 2), .int (nu 5), .int (nu 6), .int (nu 3), .int (nu 4), .ref d0, .ref k0])), (d0, .inr (2, [.int (nI nD), .ref d1, .ref d2, .ref d3, .ref d4, .ref d5])), (d1, .inl (cI, 8, .inl (g 0))), (d2, .inl (cI, 8, .inl (g 1))), (t0, .inr (4, [.int (nI nT), .ref t1, .ref t2])), (t1, .inl (cI, 20, .inl (st 0))), (t2, .inl (cI, 20, .inl (st 1)))] := hD
  have hl : lv_has ls 3 [(0, .ref h0), (1, .ref t0), (2, .int (nI k))] := hl
  refine lv_aload_n hx hb dX3_starSeen_0 rfl (lv_at hl 1 rfl) ?_
  refine lv_iload_n hx hb dX3_starSeen_1 rfl (lv_at hl 2 rfl) ?_
  refine frI (wc := [(t0, .inr (4, [.int (nI nT), .ref t1, .ref t2]))]) (wc' := [(t0, .inr (4, [.int (nI nT), .ref t1, .ref t2]))]) (w' := [(h0, .inr (3, [.int (nu 0), .int (nu 1), .int (nu 2), .int (nu 5), .int (nu 6), .int (nu 3), .int (nu 4), .ref d0, .ref k0])), (d0, .inr (2, [.int (nI nD), .ref d1, .ref d2, .ref d3, .ref d4, .ref d5])), (d1, .inl (cI, 8, .inl (g 0))), (d2, .inl (cI, 8, .inl (g 1))), (t0, .inr (4, [.int (nI nT), .ref t1, .ref t2])), (t1, .inl (cI, 20, .inl (st 0))), (t2, .inl (cI, 20, .inl (st 1)))]) hP hD hS hA [4] [0, 1, 2, 3, 5, 6] [0, 1, 2, 3, 6, 4, 5] rfl rfl rfl rfl rfl (va_runV (As := [.int (nI k)]) (rest := []) ⟨hx, hb, hml, hown, hts⟩ (tX4_has l D cI t0 t1 t2 nT (nI k) (by omega) _) (cwV 1 hts gX3_starSeen_X4_has rfl rfl rfl hX4_has ⟨Nat.le_of_ble_eq_true rfl, Nat.le_of_ble_eq_true rfl⟩) (preV_of hk hP hD [4] rfl rfl (recvO hk hP (ci := 4) (q0 := 4) rfl rfl)) rfl rfl hl.1 rfl (lv_room (Nat.le_of_ble_eq_true rfl)) dX3_starSeen_2 ⟨Nat.le_of_ble_eq_true rfl, Nat.le_of_ble_eq_true rfl⟩) (fun H locs hP hD hS => ?_)
  refine top_int (hasI_1 (by omega) (by omega)) ?_
  refine lv_if_eq (tgt := 38) hx hb dX3_starSeen_5 (by decide) (fun h => absurd h (by decide)) (fun _ => ?_)
  refine lv_aload_n hx hb dX3_starSeen_8 rfl (lv_at hl 0 rfl) ?_
  refine lv_aload_n hx hb dX3_starSeen_9 rfl (lv_at hl 1 rfl) ?_
  refine va_get (D := D) (ci := 4) (v := .ref t1) (C := RX4) (T := TX4) (N := 3) hx hb hts iX3_starSeen_X4 hown hk.1 hP 4 rfl rfl 1 (by decide) (hts _ mX3_starSeen_f118) (fun _ h9 => h9) rfl dX3_starSeen_10 ?_
  refine lv_iload_n hx hb dX3_starSeen_13 rfl (lv_at hl 2 rfl) ?_
  refine aldN hx hb hk hP 5 rfl k rfl (by omega) (Nat.le_of_ble_eq_true rfl) dX3_starSeen_14 ?_
  refine lv_aload_n hx hb dX3_starSeen_15 rfl (lv_at hl 0 rfl) ?_
  refine va_get (D := D) (ci := 3) (v := .int (nu 5)) (C := RX3) (T := TX3) (N := 9) hx hb hts iX3_starSeen_X3 hown hk.1 hP 0 rfl rfl 3 (by decide) (hts _ mX3_starSeen_f39) (fun _ h9 => h9) rfl dX3_starSeen_16 ?_
  refine frI (wc := []) (wc' := []) (w' := [(h0, .inr (3, [.int (nu 0), .int (nu 1), .int (nu 2), .int (nu 5), .int (nu 6), .int (nu 3), .int (nu 4), .ref d0, .ref k0])), (d0, .inr (2, [.int (nI nD), .ref d1, .ref d2, .ref d3, .ref d4, .ref d5])), (d1, .inl (cI, 8, .inl (g 0))), (d2, .inl (cI, 8, .inl (g 1))), (t0, .inr (4, [.int (nI nT), .ref t1, .ref t2])), (t1, .inl (cI, 20, .inl (st 0))), (t2, .inl (cI, 20, .inl (st 1)))]) hP hD hS hA [] [0, 1, 2, 3, 4, 5, 6] [0, 1, 2, 3, 4, 5, 6] rfl rfl rfl rfl rfl (va_runSN (As := [.int ((st 0) k), .int (nu 5)]) (rest := [.ref h0]) ⟨hx, hb, hml, hown, hts⟩ (tX5_turned l D cI (st 0 k) (nu 5)  _) ⟨va_cnB 2 hts gX3_starSeen_X5_turned_n64 rfl rfl rfl (show va_Nw (.methodLinkNest RX3 64 yX5_turned "StarConsole") s from hk.2 _ (List.mem_of_getElem? (i := 1) rfl)) (hts _ mX3_starSeen_iX5) ⟨hX5_turned.2.1, hX5_turned.2.2.1, hX5_turned.2.2.2⟩ ⟨Nat.le_of_ble_eq_true rfl, Nat.le_of_ble_eq_true rfl⟩, (hts _ mX3_starSeen_stX5_turned), trivial⟩ (preS_of hk hP hD [] rfl rfl) rfl rfl hl.1 rfl (lv_room (Nat.le_of_ble_eq_true rfl)) dX3_starSeen_19 ⟨Nat.le_of_ble_eq_true rfl, Nat.le_of_ble_eq_true rfl⟩) (fun H locs hP hD hS => ?_)
  refine lv_aload_n hx hb dX3_starSeen_22 rfl (lv_at hl 1 rfl) ?_
  refine va_get (D := D) (ci := 4) (v := .ref t2) (C := RX4) (T := TX4) (N := 3) hx hb hts iX3_starSeen_X4 hown hk.1 hP 4 rfl rfl 2 (by decide) (hts _ mX3_starSeen_f121) (fun _ h9 => h9) rfl dX3_starSeen_23 ?_
  refine lv_iload_n hx hb dX3_starSeen_26 rfl (lv_at hl 2 rfl) ?_
  refine aldN hx hb hk hP 6 rfl k rfl (by omega) (Nat.le_of_ble_eq_true rfl) dX3_starSeen_27 ?_
  refine frI (wc := [(h0, .inr (3, [.int (nu 0), .int (nu 1), .int (nu 2), .int (nu 5), .int (nu 6), .int (nu 3), .int (nu 4), .ref d0, .ref k0])), (d0, .inr (2, [.int (nI nD), .ref d1, .ref d2, .ref d3, .ref d4, .ref d5])), (d1, .inl (cI, 8, .inl (g 0))), (d2, .inl (cI, 8, .inl (g 1)))]) (wc' := [(h0, .inr (3, [.int (nu 0), .int (nu 1), .int (nu 2), .int (nu 5), .int (nu 6), .int (nu 3), .int (nu 4), .ref d0, .ref k0])), (d0, .inr (2, [.int (nI nD), .ref d1, .ref d2, .ref d3, .ref d4, .ref d5])), (d1, .inl (cI, 8, .inl (g 0))), (d2, .inl (cI, 8, .inl (g 1)))]) (w' := [(h0, .inr (3, [.int (nu 0), .int (nu 1), .int (nu 2), .int (nu 5), .int (nu 6), .int (nu 3), .int (nu 4), .ref d0, .ref k0])), (d0, .inr (2, [.int (nI nD), .ref d1, .ref d2, .ref d3, .ref d4, .ref d5])), (d1, .inl (cI, 8, .inl (g 0))), (d2, .inl (cI, 8, .inl (g 1))), (t0, .inr (4, [.int (nI nT), .ref t1, .ref t2])), (t1, .inl (cI, 20, .inl (st 0))), (t2, .inl (cI, 20, .inl (st 1)))]) hP hD hS hA [0, 1, 2, 3] [4, 5, 6] [3, 4, 5, 6, 0, 1, 2] rfl rfl rfl rfl rfl (va_runV (As := [.int (tnd (st 0 k) (nu 5)), .int ((st 1) k)]) (rest := []) ⟨hx, hb, hml, hown, hts⟩ (tX3_outshines l D cI h0 d0 d1 d2 d3 d4 d5 k0 nD nu g (tnd (st 0 k) (nu 5)) (st 1 k) (by omega) _) (cwV 2 hts gX3_starSeen_X3_outshines rfl rfl rfl hX3_outshines ⟨Nat.le_of_ble_eq_true rfl, Nat.le_of_ble_eq_true rfl⟩) (preV_of hk hP hD [0, 1, 2, 3] rfl rfl (recvO hk hP (ci := 3) (q0 := 0) rfl rfl)) rfl rfl hl.1 rfl (lv_room (Nat.le_of_ble_eq_true rfl)) dX3_starSeen_28 ⟨Nat.le_of_ble_eq_true rfl, Nat.le_of_ble_eq_true rfl⟩) (fun H locs hP hD hS => ?_)
  refine lv_if_eq (tgt := 38) hx hb dX3_starSeen_31 (by decide) (fun c31 => ?_) (fun c31 => ?_)
  · refine lv_iconst (v := 0) hx hb dX3_starSeen_38 (by decide) ?_
    exact retI hx hb hr hlocks hS hP hD dX3_starSeen_39 (by rw [ssI, if_pos c31]) rfl
  · refine lv_iconst (v := 1) hx hb dX3_starSeen_34 (by decide) ?_
    refine lv_goto (tgt := 39) hx hb dX3_starSeen_35 (by decide) ?_
    exact retI hx hb hr hlocks hS hP hD dX3_starSeen_39 (by rw [ssI, if_neg c31]) rfl

theorem mX3_cometSeen_f25 : (.fieldLink RX3 25 "StarConsole$Show" "comets" "LStarConsole$Comets;" : Cond) ∈ wsX3_cometSeen := by decide +kernel
theorem iX3_cometSeen_X3 : ∀ w ∈ wsX30, w ∈ wsX3_cometSeen := by decide +kernel
theorem mX3_cometSeen_f135 : (.fieldLink RX3 135 "StarConsole$Comets" "left" "[I" : Cond) ∈ wsX3_cometSeen := by decide +kernel
theorem iX3_cometSeen_X0 : ∀ w ∈ wsX00, w ∈ wsX3_cometSeen := by decide +kernel
theorem mX3_cometSeen_f129 : (.fieldLink RX3 129 "StarConsole$Comets" "angle" "[I" : Cond) ∈ wsX3_cometSeen := by decide +kernel
theorem hX3_cometSeen : yX3_cometSeen.cls = RX3 ∧ yX3_cometSeen.cls ≠ "java/lang/invoke/MethodHandle" ∧ yX3_cometSeen.cls ≠ "java/lang/invoke/VarHandle" ∧ (parseMethodDescriptor yX3_cometSeen.desc).map (fun d => d.parameters.length) = some 1 := by decide +kernel
set_option maxHeartbeats 4000000 in
set_option maxRecDepth 100000 in
theorem tX3_cometSeen (l : Launch) (D : va_G) (cI : ClassId) (h0 d0 d1 d2 d3 d4 d5 k0 k1 k2 k3 nD nK : Nat) (nu : Nat → Int32) (g ct : Mx) (i : Nat) (hn : nD ≤ 8) (hK : nK ≤ 12) (hk8 : i < nK) : CI l yX3_cometSeen wsX3_cometSeen ({ frames := 3, cells := 0, slots := 0, locals := 68 } : Room) D cI ([.ref h0, .int (nI i)] : List Value) [(h0, .inr (3, [.int (nu 0), .int (nu 1), .int (nu 2), .int (nu 5), .int (nu 6), .int (nu 3), .int (nu 4), .ref d0, .ref k0])), (d0, .inr (2, [.int (nI nD), .ref d1, .ref d2, .ref d3, .ref d4, .ref d5])), (d1, .inl (cI, 8, .inl (g 0))), (d2, .inl (cI, 8, .inl (g 1))), (k0, .inr (0, [.int (nI nK), .ref k1, .ref k2, .ref k3])), (k1, .inl (cI, 12, .inl (ct 0))), (k2, .inl (cI, 12, .inl (ct 1))), (k3, .inl (cI, 12, .inl (ct 2)))] (csI nD g ct i) [(h0, .inr (3, [.int (nu 0), .int (nu 1), .int (nu 2), .int (nu 5), .int (nu 6), .int (nu 3), .int (nu 4), .ref d0, .ref k0])), (d0, .inr (2, [.int (nI nD), .ref d1, .ref d2, .ref d3, .ref d4, .ref d5])), (d1, .inl (cI, 8, .inl (g 0))), (d2, .inl (cI, 8, .inl (g 1))), (k0, .inr (0, [.int (nI nK), .ref k1, .ref k2, .ref k3])), (k1, .inl (cI, 12, .inl (ct 0))), (k2, .inl (cI, 12, .inl (ct 1))), (k3, .inl (cI, 12, .inl (ct 2)))] := by
  refine entI (cc := cX3_cometSeen) (maxL := 2) (ret := (some .boolean)) (by decide) rfl (Nat.le_of_ble_eq_true rfl) (fun p e s m below meth c A ls fx hl => ?_)
  obtain ⟨hx, hb, hr, hml, hown, hts, hlocks, hk, hP, hD, hA⟩ := fx
  have hown : s.vm.findClass RX3 = some m.cls := hown
  have hS : va_S A s.heap s.heap [] := va_S.rf
  have hP : va_P D vwCl [(h0, .inr (3, [.int (nu 0), .int (nu 1), .int (nu 2), .int (nu 5), .int (nu 6), .int (nu 3), .int (nu 4), .ref d0, .ref k0])), (d0, .inr (2, [.int (nI nD), .ref d1, .ref d2, .ref d3, .ref d4, .ref d5])), (d1, .inl (cI, 8, .inl (g 0))), (d2, .inl (cI, 8, .inl (g 1))), (k0, .inr (0, [.int (nI nK), .ref k1, .ref k2, .ref k3])), (k1, .inl (cI, 12, .inl (ct 0))), (k2, .inl (cI, 12, .inl (ct 1))), (k3, .inl (cI, 12, .inl (ct 2)))] s.heap := hP
  have hD : va_D A [(h0, .inr (3, [.int (nu 0), .int (nu 1), .int (nu 2), .int (nu 5), .int (nu 6), .int (nu 3), .int (nu 4), .ref d0, .ref k0])), (d0, .inr (2, [.int (nI nD), .ref d1, .ref d2, .ref d3, .ref d4, .ref d5])), (d1, .inl (cI, 8, .inl (g 0))), (d2, .inl (cI, 8, .inl (g 1))), (k0, .inr (0, [.int (nI nK), .ref k1, .ref k2, .ref k3])), (k1, .inl (cI, 12, .inl (ct 0))), (k2, .inl (cI, 12, .inl (ct 1))), (k3, .inl (cI, 12, .inl (ct 2)))] := hD
  have hl : lv_has ls 2 [(0, .ref h0), (1, .int (nI i))] := hl
  refine lv_aload_n hx hb dX3_cometSeen_0 rfl (lv_at hl 0 rfl) ?_
  refine va_get (D := D) (ci := 3) (v := .ref k0) (C := RX3) (T := TX3) (N := 9) hx hb hts iX3_cometSeen_X3 hown hk.1 hP 0 rfl rfl 8 (by decide) (hts _ mX3_cometSeen_f25) (fun _ h9 => h9) rfl dX3_cometSeen_1 ?_
  refine lv_iload_n hx hb dX3_cometSeen_4 rfl (lv_at hl 1 rfl) ?_
  refine frI (wc := [(k0, .inr (0, [.int (nI nK), .ref k1, .ref k2, .ref k3]))]) (wc' := [(k0, .inr (0, [.int (nI nK), .ref k1, .ref k2, .ref k3]))]) (w' := [(h0, .inr (3, [.int (nu 0), .int (nu 1), .int (nu 2), .int (nu 5), .int (nu 6), .int (nu 3), .int (nu 4), .ref d0, .ref k0])), (d0, .inr (2, [.int (nI nD), .ref d1, .ref d2, .ref d3, .ref d4, .ref d5])), (d1, .inl (cI, 8, .inl (g 0))), (d2, .inl (cI, 8, .inl (g 1))), (k0, .inr (0, [.int (nI nK), .ref k1, .ref k2, .ref k3])), (k1, .inl (cI, 12, .inl (ct 0))), (k2, .inl (cI, 12, .inl (ct 1))), (k3, .inl (cI, 12, .inl (ct 2)))]) hP hD hS hA [4] [0, 1, 2, 3, 5, 6, 7] [0, 1, 2, 3, 7, 4, 5, 6] rfl rfl rfl rfl rfl (va_runV (As := [.int (nI i)]) (rest := []) ⟨hx, hb, hml, hown, hts⟩ (tX0_has l D cI k0 k1 k2 k3 nK (nI i) (by omega) _) (cwV 1 hts gX3_cometSeen_X0_has rfl rfl rfl hX0_has ⟨Nat.le_of_ble_eq_true rfl, Nat.le_of_ble_eq_true rfl⟩) (preV_of hk hP hD [4] rfl rfl (recvO hk hP (ci := 0) (q0 := 4) rfl rfl)) rfl rfl hl.1 rfl (lv_room (Nat.le_of_ble_eq_true rfl)) dX3_cometSeen_5 ⟨Nat.le_of_ble_eq_true rfl, Nat.le_of_ble_eq_true rfl⟩) (fun H locs hP hD hS => ?_)
  refine top_int (hasI_1 (by omega) (by omega)) ?_
  refine lv_if_eq (tgt := 45) hx hb dX3_cometSeen_8 (by decide) (fun h => absurd h (by decide)) (fun _ => ?_)
  refine lv_aload_n hx hb dX3_cometSeen_11 rfl (lv_at hl 0 rfl) ?_
  refine va_get (D := D) (ci := 3) (v := .ref k0) (C := RX3) (T := TX3) (N := 9) hx hb hts iX3_cometSeen_X3 hown hk.1 hP 0 rfl rfl 8 (by decide) (hts _ mX3_cometSeen_f25) (fun _ h9 => h9) rfl dX3_cometSeen_12 ?_
  refine va_get (D := D) (ci := 0) (v := .ref k3) (C := RX0) (T := TX0) (N := 4) hx hb hts iX3_cometSeen_X0 hown hk.1 hP 4 rfl rfl 3 (by decide) (hts _ mX3_cometSeen_f135) (fun _ h9 => h9) rfl dX3_cometSeen_15 ?_
  refine lv_iload_n hx hb dX3_cometSeen_18 rfl (lv_at hl 1 rfl) ?_
  refine aldN hx hb hk hP 7 rfl i rfl (by omega) (Nat.le_of_ble_eq_true rfl) dX3_cometSeen_19 ?_
  refine lv_if_le (tgt := 45) hx hb dX3_cometSeen_20 (by decide) (fun c20 => ?_) (fun c20 => ?_)
  · refine lv_iconst (v := 0) hx hb dX3_cometSeen_45 (by decide) ?_
    exact retI hx hb hr hlocks hS hP hD dX3_cometSeen_46 (by rw [csI, if_pos c20]) rfl
  · refine lv_aload_n hx hb dX3_cometSeen_23 rfl (lv_at hl 0 rfl) ?_
    refine lv_aload_n hx hb dX3_cometSeen_24 rfl (lv_at hl 0 rfl) ?_
    refine va_get (D := D) (ci := 3) (v := .ref k0) (C := RX3) (T := TX3) (N := 9) hx hb hts iX3_cometSeen_X3 hown hk.1 hP 0 rfl rfl 8 (by decide) (hts _ mX3_cometSeen_f25) (fun _ h9 => h9) rfl dX3_cometSeen_25 ?_
    refine va_get (D := D) (ci := 0) (v := .ref k1) (C := RX0) (T := TX0) (N := 4) hx hb hts iX3_cometSeen_X0 hown hk.1 hP 4 rfl rfl 1 (by decide) (hts _ mX3_cometSeen_f129) (fun _ h9 => h9) rfl dX3_cometSeen_28 ?_
    refine lv_iload_n hx hb dX3_cometSeen_31 rfl (lv_at hl 1 rfl) ?_
    refine aldN hx hb hk hP 5 rfl i rfl (by omega) (Nat.le_of_ble_eq_true rfl) dX3_cometSeen_32 ?_
    refine lv_bipush (v := 6) hx hb dX3_cometSeen_33 (by decide) ?_
    refine frI (wc := [(h0, .inr (3, [.int (nu 0), .int (nu 1), .int (nu 2), .int (nu 5), .int (nu 6), .int (nu 3), .int (nu 4), .ref d0, .ref k0])), (d0, .inr (2, [.int (nI nD), .ref d1, .ref d2, .ref d3, .ref d4, .ref d5])), (d1, .inl (cI, 8, .inl (g 0))), (d2, .inl (cI, 8, .inl (g 1)))]) (wc' := [(h0, .inr (3, [.int (nu 0), .int (nu 1), .int (nu 2), .int (nu 5), .int (nu 6), .int (nu 3), .int (nu 4), .ref d0, .ref k0])), (d0, .inr (2, [.int (nI nD), .ref d1, .ref d2, .ref d3, .ref d4, .ref d5])), (d1, .inl (cI, 8, .inl (g 0))), (d2, .inl (cI, 8, .inl (g 1)))]) (w' := [(h0, .inr (3, [.int (nu 0), .int (nu 1), .int (nu 2), .int (nu 5), .int (nu 6), .int (nu 3), .int (nu 4), .ref d0, .ref k0])), (d0, .inr (2, [.int (nI nD), .ref d1, .ref d2, .ref d3, .ref d4, .ref d5])), (d1, .inl (cI, 8, .inl (g 0))), (d2, .inl (cI, 8, .inl (g 1))), (k0, .inr (0, [.int (nI nK), .ref k1, .ref k2, .ref k3])), (k1, .inl (cI, 12, .inl (ct 0))), (k2, .inl (cI, 12, .inl (ct 1))), (k3, .inl (cI, 12, .inl (ct 2)))]) hP hD hS hA [0, 1, 2, 3] [4, 5, 6, 7] [4, 5, 6, 7, 0, 1, 2, 3] rfl rfl rfl rfl rfl (va_runV (As := [.int ((ct 0) i), .int 6]) (rest := []) ⟨hx, hb, hml, hown, hts⟩ (tX3_outshines l D cI h0 d0 d1 d2 d3 d4 d5 k0 nD nu g (ct 0 i) 6 (by omega) _) (cwV 2 hts gX3_cometSeen_X3_outshines rfl rfl rfl hX3_outshines ⟨Nat.le_of_ble_eq_true rfl, Nat.le_of_ble_eq_true rfl⟩) (preV_of hk hP hD [0, 1, 2, 3] rfl rfl (recvO hk hP (ci := 3) (q0 := 0) rfl rfl)) rfl rfl hl.1 rfl (lv_room (Nat.le_of_ble_eq_true rfl)) dX3_cometSeen_35 ⟨Nat.le_of_ble_eq_true rfl, Nat.le_of_ble_eq_true rfl⟩) (fun H locs hP hD hS => ?_)
    refine lv_if_eq (tgt := 45) hx hb dX3_cometSeen_38 (by decide) (fun c38 => ?_) (fun c38 => ?_)
    · refine lv_iconst (v := 0) hx hb dX3_cometSeen_45 (by decide) ?_
      exact retI hx hb hr hlocks hS hP hD dX3_cometSeen_46 (by rw [csI, if_neg c20, if_pos c38]) rfl
    · refine lv_iconst (v := 1) hx hb dX3_cometSeen_41 (by decide) ?_
      refine lv_goto (tgt := 46) hx hb dX3_cometSeen_42 (by decide) ?_
      exact retI hx hb hr hlocks hS hP hD dX3_cometSeen_46 (by rw [csI, if_neg c20, if_neg c38]) rfl

theorem mX3_starsSeen_f102 : (.fieldLink RX3 102 "StarConsole$Stars" "size" "I" : Cond) ∈ wsX3_starsSeen := by decide +kernel
theorem iX3_starsSeen_X4 : ∀ w ∈ wsX40, w ∈ wsX3_starsSeen := by decide +kernel
theorem hX3_starsSeen : yX3_starsSeen.cls = RX3 ∧ yX3_starsSeen.cls ≠ "java/lang/invoke/MethodHandle" ∧ yX3_starsSeen.cls ≠ "java/lang/invoke/VarHandle" ∧ (parseMethodDescriptor yX3_starsSeen.desc).map (fun d => d.parameters.length) = some 1 := by decide +kernel
set_option maxHeartbeats 4000000 in
set_option maxRecDepth 100000 in
theorem tX3_starsSeen (l : Launch) (D : va_G) (cI : ClassId) (h0 d0 d1 d2 d3 d4 d5 k0 t0 t1 t2 nD nT : Nat) (nu : Nat → Int32) (g st : Mx) (hn : nD ≤ 8) (hT : nT ≤ 20) : CI l yX3_starsSeen wsX3_starsSeen ({ frames := 4, cells := 0, slots := 0, locals := 90 } : Room) D cI ([.ref h0, .ref t0] : List Value) [(h0, .inr (3, [.int (nu 0), .int (nu 1), .int (nu 2), .int (nu 5), .int (nu 6), .int (nu 3), .int (nu 4), .ref d0, .ref k0])), (d0, .inr (2, [.int (nI nD), .ref d1, .ref d2, .ref d3, .ref d4, .ref d5])), (d1, .inl (cI, 8, .inl (g 0))), (d2, .inl (cI, 8, .inl (g 1))), (t0, .inr (4, [.int (nI nT), .ref t1, .ref t2])), (t1, .inl (cI, 20, .inl (st 0))), (t2, .inl (cI, 20, .inl (st 1)))] (nI (ssN nD g st (nu 5) nT)) [(h0, .inr (3, [.int (nu 0), .int (nu 1), .int (nu 2), .int (nu 5), .int (nu 6), .int (nu 3), .int (nu 4), .ref d0, .ref k0])), (d0, .inr (2, [.int (nI nD), .ref d1, .ref d2, .ref d3, .ref d4, .ref d5])), (d1, .inl (cI, 8, .inl (g 0))), (d2, .inl (cI, 8, .inl (g 1))), (t0, .inr (4, [.int (nI nT), .ref t1, .ref t2])), (t1, .inl (cI, 20, .inl (st 0))), (t2, .inl (cI, 20, .inl (st 1)))] := by
  refine entI (cc := cX3_starsSeen) (maxL := 4) (ret := (some .int)) (by decide) rfl (Nat.le_of_ble_eq_true rfl) (fun p e s m below meth c A ls fx hl => ?_)
  obtain ⟨hx, hb, hr, hml, hown, hts, hlocks, hk, hP, hD, hA⟩ := fx
  have hown : s.vm.findClass RX3 = some m.cls := hown
  have hS : va_S A s.heap s.heap [] := va_S.rf
  have hP : va_P D vwCl [(h0, .inr (3, [.int (nu 0), .int (nu 1), .int (nu 2), .int (nu 5), .int (nu 6), .int (nu 3), .int (nu 4), .ref d0, .ref k0])), (d0, .inr (2, [.int (nI nD), .ref d1, .ref d2, .ref d3, .ref d4, .ref d5])), (d1, .inl (cI, 8, .inl (g 0))), (d2, .inl (cI, 8, .inl (g 1))), (t0, .inr (4, [.int (nI nT), .ref t1, .ref t2])), (t1, .inl (cI, 20, .inl (st 0))), (t2, .inl (cI, 20, .inl (st 1)))] s.heap := hP
  have hD : va_D A [(h0, .inr (3, [.int (nu 0), .int (nu 1), .int (nu 2), .int (nu 5), .int (nu 6), .int (nu 3), .int (nu 4), .ref d0, .ref k0])), (d0, .inr (2, [.int (nI nD), .ref d1, .ref d2, .ref d3, .ref d4, .ref d5])), (d1, .inl (cI, 8, .inl (g 0))), (d2, .inl (cI, 8, .inl (g 1))), (t0, .inr (4, [.int (nI nT), .ref t1, .ref t2])), (t1, .inl (cI, 20, .inl (st 0))), (t2, .inl (cI, 20, .inl (st 1)))] := hD
  have hl : lv_has ls 4 [(0, .ref h0), (1, .ref t0)] := hl
  refine lv_iconst (v := 0) hx hb dX3_starsSeen_0 (by decide) ?_
  refine lv_istore_n (lv' := [(2, .int 0), (0, .ref h0), (1, .ref t0)]) hx hb dX3_starsSeen_1 rfl hl (by decide) rfl (fun ls hl => ?_)
  refine lv_iconst (v := 0) hx hb dX3_starsSeen_2 (by decide) ?_
  refine lv_istore_n (lv' := [(3, .int 0), (2, .int 0), (0, .ref h0), (1, .ref t0)]) hx hb dX3_starsSeen_3 rfl hl (by decide) rfl (fun ls hl => ?_)
  have key4 : ∀ (ku4 : Nat) (i : Nat), i ≤ nT → nT - i < ku4 → ∀ (H : Heap) (locs : List Loc), va_P D vwCl [(h0, .inr (3, [.int (nu 0), .int (nu 1), .int (nu 2), .int (nu 5), .int (nu 6), .int (nu 3), .int (nu 4), .ref d0, .ref k0])), (d0, .inr (2, [.int (nI nD), .ref d1, .ref d2, .ref d3, .ref d4, .ref d5])), (d1, .inl (cI, 8, .inl (g 0))), (d2, .inl (cI, 8, .inl (g 1))), (t0, .inr (4, [.int (nI nT), .ref t1, .ref t2])), (t1, .inl (cI, 20, .inl (st 0))), (t2, .inl (cI, 20, .inl (st 1)))] H → va_D A [(h0, .inr (3, [.int (nu 0), .int (nu 1), .int (nu 2), .int (nu 5), .int (nu 6), .int (nu 3), .int (nu 4), .ref d0, .ref k0])), (d0, .inr (2, [.int (nI nD), .ref d1, .ref d2, .ref d3, .ref d4, .ref d5])), (d1, .inl (cI, 8, .inl (g 0))), (d2, .inl (cI, 8, .inl (g 1))), (t0, .inr (4, [.int (nI nT), .ref t1, .ref t2])), (t1, .inl (cI, 20, .inl (st 0))), (t2, .inl (cI, 20, .inl (st 1)))] → va_S A s.heap H locs → ∀ ls : Array Slot, lv_has ls 4 [(3, .int (nI i)), (2, .int (nI (ssN nD g st (nu 5) i))), (0, .ref h0), (1, .ref t0)] → W p l e ({ frames := 4, cells := 0, slots := 0, locals := 90 } : Room) s m ([.ref h0, .ref t0] : List Value).toArray below meth c H locs 0 0 (MQ below (poI D A [(h0, .inr (3, [.int (nu 0), .int (nu 1), .int (nu 2), .int (nu 5), .int (nu 6), .int (nu 3), .int (nu 4), .ref d0, .ref k0])), (d0, .inr (2, [.int (nI nD), .ref d1, .ref d2, .ref d3, .ref d4, .ref d5])), (d1, .inl (cI, 8, .inl (g 0))), (d2, .inl (cI, 8, .inl (g 1))), (t0, .inr (4, [.int (nI nT), .ref t1, .ref t2])), (t1, .inl (cI, 20, .inl (st 0))), (t2, .inl (cI, 20, .inl (st 1)))] (nI (ssN nD g st (nu 5) nT))) ([.ref h0, .ref t0] : List Value).toArray s 0 0 A) (F0 m 4 ls []) := by
    intro ku4
    induction ku4 with
    | zero => intro i; intros; omega
    | succ ku4 ih4 =>
      intro i  hi4 hm4  H locs hP hD hS ls hl
      refine lv_iload_n hx hb dX3_starsSeen_4 rfl (lv_at hl 0 rfl) ?_
      refine lv_aload_n hx hb dX3_starsSeen_5 rfl (lv_at hl 3 rfl) ?_
      refine va_get (D := D) (ci := 4) (v := .int (nI nT)) (C := RX4) (T := TX4) (N := 3) hx hb hts iX3_starsSeen_X4 hown hk.1 hP 4 rfl rfl 0 (by decide) (hts _ mX3_starsSeen_f102) (fun _ h9 => h9) rfl dX3_starsSeen_6 ?_
      refine icgeN (i := i) (n := nT) (tgt := 30) hx hb (by omega) (by omega) dX3_starsSeen_9 (by decide) (fun c9 => ?_) (fun c9 => ?_)
      · obtain rfl : nT = i := by omega
        refine lv_iload_n hx hb dX3_starsSeen_30 rfl (lv_at hl 1 rfl) ?_
        exact retI hx hb hr hlocks hS hP hD dX3_starsSeen_31 (rfl) rfl
      · refine lv_aload_n hx hb dX3_starsSeen_12 rfl (lv_at hl 2 rfl) ?_
        refine lv_aload_n hx hb dX3_starsSeen_13 rfl (lv_at hl 3 rfl) ?_
        refine lv_iload_n hx hb dX3_starsSeen_14 rfl (lv_at hl 0 rfl) ?_
        refine frI (wc := [(h0, .inr (3, [.int (nu 0), .int (nu 1), .int (nu 2), .int (nu 5), .int (nu 6), .int (nu 3), .int (nu 4), .ref d0, .ref k0])), (d0, .inr (2, [.int (nI nD), .ref d1, .ref d2, .ref d3, .ref d4, .ref d5])), (d1, .inl (cI, 8, .inl (g 0))), (d2, .inl (cI, 8, .inl (g 1))), (t0, .inr (4, [.int (nI nT), .ref t1, .ref t2])), (t1, .inl (cI, 20, .inl (st 0))), (t2, .inl (cI, 20, .inl (st 1)))]) (wc' := [(h0, .inr (3, [.int (nu 0), .int (nu 1), .int (nu 2), .int (nu 5), .int (nu 6), .int (nu 3), .int (nu 4), .ref d0, .ref k0])), (d0, .inr (2, [.int (nI nD), .ref d1, .ref d2, .ref d3, .ref d4, .ref d5])), (d1, .inl (cI, 8, .inl (g 0))), (d2, .inl (cI, 8, .inl (g 1))), (t0, .inr (4, [.int (nI nT), .ref t1, .ref t2])), (t1, .inl (cI, 20, .inl (st 0))), (t2, .inl (cI, 20, .inl (st 1)))]) (w' := [(h0, .inr (3, [.int (nu 0), .int (nu 1), .int (nu 2), .int (nu 5), .int (nu 6), .int (nu 3), .int (nu 4), .ref d0, .ref k0])), (d0, .inr (2, [.int (nI nD), .ref d1, .ref d2, .ref d3, .ref d4, .ref d5])), (d1, .inl (cI, 8, .inl (g 0))), (d2, .inl (cI, 8, .inl (g 1))), (t0, .inr (4, [.int (nI nT), .ref t1, .ref t2])), (t1, .inl (cI, 20, .inl (st 0))), (t2, .inl (cI, 20, .inl (st 1)))]) hP hD hS hA [0, 1, 2, 3, 4, 5, 6] [] [0, 1, 2, 3, 4, 5, 6] rfl rfl rfl rfl rfl (va_runV (As := [.ref t0, .int (nI i)]) (rest := []) ⟨hx, hb, hml, hown, hts⟩ (tX3_starSeen l D cI h0 d0 d1 d2 d3 d4 d5 k0 t0 t1 t2 nD nT nu g st i (by omega) (by omega) (by omega) _) (cwV 2 hts gX3_starsSeen_X3_starSeen rfl rfl rfl hX3_starSeen ⟨Nat.le_of_ble_eq_true rfl, Nat.le_of_ble_eq_true rfl⟩) (preV_of hk hP hD [0, 1, 2, 3, 4, 5, 6] rfl rfl (recvO hk hP (ci := 3) (q0 := 0) rfl rfl)) rfl rfl hl.1 rfl (lv_room (Nat.le_of_ble_eq_true rfl)) dX3_starsSeen_15 ⟨Nat.le_of_ble_eq_true rfl, Nat.le_of_ble_eq_true rfl⟩) (fun H locs hP hD hS => ?_)
        refine lv_if_eq (tgt := 24) hx hb dX3_starsSeen_18 (by decide) (fun c18 => ?_) (fun c18 => ?_)
        · refine lv_iinc (v := nI (i + 1)) (lv' := [(3, .int (nI (i + 1))), (2, .int (nI (ssN nD g st (nu 5) i))), (0, .ref h0), (1, .ref t0)]) hx hb dX3_starsSeen_24 hl (k := 0) rfl (nI_inc i) (by decide) rfl (fun ls hl => ?_)
          refine lv_goto (tgt := 4) hx hb dX3_starsSeen_27 (by decide) ?_
          have ihx := ih4 (i + 1)  (by omega) (by omega)
          rw [show ssN nD g st (nu 5) (i + 1) = ssN nD g st (nu 5) i from if_pos c18] at ihx
          exact ihx _ _ hP hD hS _ (lv_sub hl [0, 1, 2, 3] rfl)
        · refine lv_iinc (v := nI (ssN nD g st (nu 5) i + 1)) (lv' := [(2, .int (nI (ssN nD g st (nu 5) i + 1))), (3, .int (nI i)), (0, .ref h0), (1, .ref t0)]) hx hb dX3_starsSeen_21 hl (k := 1) rfl (nI_inc (ssN nD g st (nu 5) i)) (by decide) rfl (fun ls hl => ?_)
          refine lv_iinc (v := nI (i + 1)) (lv' := [(3, .int (nI (i + 1))), (2, .int (nI (ssN nD g st (nu 5) i + 1))), (0, .ref h0), (1, .ref t0)]) hx hb dX3_starsSeen_24 hl (k := 1) rfl (nI_inc i) (by decide) rfl (fun ls hl => ?_)
          refine lv_goto (tgt := 4) hx hb dX3_starsSeen_27 (by decide) ?_
          have ihx := ih4 (i + 1)  (by omega) (by omega)
          rw [show ssN nD g st (nu 5) (i + 1) = ssN nD g st (nu 5) i + 1 from if_neg c18] at ihx
          exact ihx _ _ hP hD hS _ (lv_sub hl [0, 1, 2, 3] rfl)
  exact key4 (nT + 1) 0  (by omega) (by omega) _ _ hP hD hS _ (lv_sub hl [0, 1, 2, 3] rfl)

theorem mX3_cometsSeen_f25 : (.fieldLink RX3 25 "StarConsole$Show" "comets" "LStarConsole$Comets;" : Cond) ∈ wsX3_cometsSeen := by decide +kernel
theorem iX3_cometsSeen_X3 : ∀ w ∈ wsX30, w ∈ wsX3_cometsSeen := by decide +kernel
theorem mX3_cometsSeen_f105 : (.fieldLink RX3 105 "StarConsole$Comets" "size" "I" : Cond) ∈ wsX3_cometsSeen := by decide +kernel
theorem iX3_cometsSeen_X0 : ∀ w ∈ wsX00, w ∈ wsX3_cometsSeen := by decide +kernel
theorem hX3_cometsSeen : yX3_cometsSeen.cls = RX3 ∧ yX3_cometsSeen.cls ≠ "java/lang/invoke/MethodHandle" ∧ yX3_cometsSeen.cls ≠ "java/lang/invoke/VarHandle" ∧ (parseMethodDescriptor yX3_cometsSeen.desc).map (fun d => d.parameters.length) = some 0 := by decide +kernel
set_option maxHeartbeats 4000000 in
set_option maxRecDepth 100000 in
theorem tX3_cometsSeen (l : Launch) (D : va_G) (cI : ClassId) (h0 d0 d1 d2 d3 d4 d5 k0 k1 k2 k3 nD nK : Nat) (nu : Nat → Int32) (g ct : Mx) (hn : nD ≤ 8) (hK : nK ≤ 12) : CI l yX3_cometsSeen wsX3_cometsSeen ({ frames := 4, cells := 0, slots := 0, locals := 89 } : Room) D cI ([.ref h0] : List Value) [(h0, .inr (3, [.int (nu 0), .int (nu 1), .int (nu 2), .int (nu 5), .int (nu 6), .int (nu 3), .int (nu 4), .ref d0, .ref k0])), (d0, .inr (2, [.int (nI nD), .ref d1, .ref d2, .ref d3, .ref d4, .ref d5])), (d1, .inl (cI, 8, .inl (g 0))), (d2, .inl (cI, 8, .inl (g 1))), (k0, .inr (0, [.int (nI nK), .ref k1, .ref k2, .ref k3])), (k1, .inl (cI, 12, .inl (ct 0))), (k2, .inl (cI, 12, .inl (ct 1))), (k3, .inl (cI, 12, .inl (ct 2)))] (nI (csN nD g ct nK)) [(h0, .inr (3, [.int (nu 0), .int (nu 1), .int (nu 2), .int (nu 5), .int (nu 6), .int (nu 3), .int (nu 4), .ref d0, .ref k0])), (d0, .inr (2, [.int (nI nD), .ref d1, .ref d2, .ref d3, .ref d4, .ref d5])), (d1, .inl (cI, 8, .inl (g 0))), (d2, .inl (cI, 8, .inl (g 1))), (k0, .inr (0, [.int (nI nK), .ref k1, .ref k2, .ref k3])), (k1, .inl (cI, 12, .inl (ct 0))), (k2, .inl (cI, 12, .inl (ct 1))), (k3, .inl (cI, 12, .inl (ct 2)))] := by
  refine entI (cc := cX3_cometsSeen) (maxL := 3) (ret := (some .int)) (by decide) rfl (Nat.le_of_ble_eq_true rfl) (fun p e s m below meth c A ls fx hl => ?_)
  obtain ⟨hx, hb, hr, hml, hown, hts, hlocks, hk, hP, hD, hA⟩ := fx
  have hown : s.vm.findClass RX3 = some m.cls := hown
  have hS : va_S A s.heap s.heap [] := va_S.rf
  have hP : va_P D vwCl [(h0, .inr (3, [.int (nu 0), .int (nu 1), .int (nu 2), .int (nu 5), .int (nu 6), .int (nu 3), .int (nu 4), .ref d0, .ref k0])), (d0, .inr (2, [.int (nI nD), .ref d1, .ref d2, .ref d3, .ref d4, .ref d5])), (d1, .inl (cI, 8, .inl (g 0))), (d2, .inl (cI, 8, .inl (g 1))), (k0, .inr (0, [.int (nI nK), .ref k1, .ref k2, .ref k3])), (k1, .inl (cI, 12, .inl (ct 0))), (k2, .inl (cI, 12, .inl (ct 1))), (k3, .inl (cI, 12, .inl (ct 2)))] s.heap := hP
  have hD : va_D A [(h0, .inr (3, [.int (nu 0), .int (nu 1), .int (nu 2), .int (nu 5), .int (nu 6), .int (nu 3), .int (nu 4), .ref d0, .ref k0])), (d0, .inr (2, [.int (nI nD), .ref d1, .ref d2, .ref d3, .ref d4, .ref d5])), (d1, .inl (cI, 8, .inl (g 0))), (d2, .inl (cI, 8, .inl (g 1))), (k0, .inr (0, [.int (nI nK), .ref k1, .ref k2, .ref k3])), (k1, .inl (cI, 12, .inl (ct 0))), (k2, .inl (cI, 12, .inl (ct 1))), (k3, .inl (cI, 12, .inl (ct 2)))] := hD
  have hl : lv_has ls 3 [(0, .ref h0)] := hl
  refine lv_iconst (v := 0) hx hb dX3_cometsSeen_0 (by decide) ?_
  refine lv_istore_n (lv' := [(1, .int 0), (0, .ref h0)]) hx hb dX3_cometsSeen_1 rfl hl (by decide) rfl (fun ls hl => ?_)
  refine lv_iconst (v := 0) hx hb dX3_cometsSeen_2 (by decide) ?_
  refine lv_istore_n (lv' := [(2, .int 0), (1, .int 0), (0, .ref h0)]) hx hb dX3_cometsSeen_3 rfl hl (by decide) rfl (fun ls hl => ?_)
  have key4 : ∀ (ku4 : Nat) (i : Nat), i ≤ nK → nK - i < ku4 → ∀ (H : Heap) (locs : List Loc), va_P D vwCl [(h0, .inr (3, [.int (nu 0), .int (nu 1), .int (nu 2), .int (nu 5), .int (nu 6), .int (nu 3), .int (nu 4), .ref d0, .ref k0])), (d0, .inr (2, [.int (nI nD), .ref d1, .ref d2, .ref d3, .ref d4, .ref d5])), (d1, .inl (cI, 8, .inl (g 0))), (d2, .inl (cI, 8, .inl (g 1))), (k0, .inr (0, [.int (nI nK), .ref k1, .ref k2, .ref k3])), (k1, .inl (cI, 12, .inl (ct 0))), (k2, .inl (cI, 12, .inl (ct 1))), (k3, .inl (cI, 12, .inl (ct 2)))] H → va_D A [(h0, .inr (3, [.int (nu 0), .int (nu 1), .int (nu 2), .int (nu 5), .int (nu 6), .int (nu 3), .int (nu 4), .ref d0, .ref k0])), (d0, .inr (2, [.int (nI nD), .ref d1, .ref d2, .ref d3, .ref d4, .ref d5])), (d1, .inl (cI, 8, .inl (g 0))), (d2, .inl (cI, 8, .inl (g 1))), (k0, .inr (0, [.int (nI nK), .ref k1, .ref k2, .ref k3])), (k1, .inl (cI, 12, .inl (ct 0))), (k2, .inl (cI, 12, .inl (ct 1))), (k3, .inl (cI, 12, .inl (ct 2)))] → va_S A s.heap H locs → ∀ ls : Array Slot, lv_has ls 3 [(2, .int (nI i)), (1, .int (nI (csN nD g ct i))), (0, .ref h0)] → W p l e ({ frames := 4, cells := 0, slots := 0, locals := 89 } : Room) s m ([.ref h0] : List Value).toArray below meth c H locs 0 0 (MQ below (poI D A [(h0, .inr (3, [.int (nu 0), .int (nu 1), .int (nu 2), .int (nu 5), .int (nu 6), .int (nu 3), .int (nu 4), .ref d0, .ref k0])), (d0, .inr (2, [.int (nI nD), .ref d1, .ref d2, .ref d3, .ref d4, .ref d5])), (d1, .inl (cI, 8, .inl (g 0))), (d2, .inl (cI, 8, .inl (g 1))), (k0, .inr (0, [.int (nI nK), .ref k1, .ref k2, .ref k3])), (k1, .inl (cI, 12, .inl (ct 0))), (k2, .inl (cI, 12, .inl (ct 1))), (k3, .inl (cI, 12, .inl (ct 2)))] (nI (csN nD g ct nK))) ([.ref h0] : List Value).toArray s 0 0 A) (F0 m 4 ls []) := by
    intro ku4
    induction ku4 with
    | zero => intro i; intros; omega
    | succ ku4 ih4 =>
      intro i  hi4 hm4  H locs hP hD hS ls hl
      refine lv_iload_n hx hb dX3_cometsSeen_4 rfl (lv_at hl 0 rfl) ?_
      refine lv_aload_n hx hb dX3_cometsSeen_5 rfl (lv_at hl 2 rfl) ?_
      refine va_get (D := D) (ci := 3) (v := .ref k0) (C := RX3) (T := TX3) (N := 9) hx hb hts iX3_cometsSeen_X3 hown hk.1 hP 0 rfl rfl 8 (by decide) (hts _ mX3_cometsSeen_f25) (fun _ h9 => h9) rfl dX3_cometsSeen_6 ?_
      refine va_get (D := D) (ci := 0) (v := .int (nI nK)) (C := RX0) (T := TX0) (N := 4) hx hb hts iX3_cometsSeen_X0 hown hk.1 hP 4 rfl rfl 0 (by decide) (hts _ mX3_cometsSeen_f105) (fun _ h9 => h9) rfl dX3_cometsSeen_9 ?_
      refine icgeN (i := i) (n := nK) (tgt := 32) hx hb (by omega) (by omega) dX3_cometsSeen_12 (by decide) (fun c12 => ?_) (fun c12 => ?_)
      · obtain rfl : nK = i := by omega
        refine lv_iload_n hx hb dX3_cometsSeen_32 rfl (lv_at hl 1 rfl) ?_
        exact retI hx hb hr hlocks hS hP hD dX3_cometsSeen_33 (rfl) rfl
      · refine lv_aload_n hx hb dX3_cometsSeen_15 rfl (lv_at hl 2 rfl) ?_
        refine lv_iload_n hx hb dX3_cometsSeen_16 rfl (lv_at hl 0 rfl) ?_
        refine frI (wc := [(h0, .inr (3, [.int (nu 0), .int (nu 1), .int (nu 2), .int (nu 5), .int (nu 6), .int (nu 3), .int (nu 4), .ref d0, .ref k0])), (d0, .inr (2, [.int (nI nD), .ref d1, .ref d2, .ref d3, .ref d4, .ref d5])), (d1, .inl (cI, 8, .inl (g 0))), (d2, .inl (cI, 8, .inl (g 1))), (k0, .inr (0, [.int (nI nK), .ref k1, .ref k2, .ref k3])), (k1, .inl (cI, 12, .inl (ct 0))), (k2, .inl (cI, 12, .inl (ct 1))), (k3, .inl (cI, 12, .inl (ct 2)))]) (wc' := [(h0, .inr (3, [.int (nu 0), .int (nu 1), .int (nu 2), .int (nu 5), .int (nu 6), .int (nu 3), .int (nu 4), .ref d0, .ref k0])), (d0, .inr (2, [.int (nI nD), .ref d1, .ref d2, .ref d3, .ref d4, .ref d5])), (d1, .inl (cI, 8, .inl (g 0))), (d2, .inl (cI, 8, .inl (g 1))), (k0, .inr (0, [.int (nI nK), .ref k1, .ref k2, .ref k3])), (k1, .inl (cI, 12, .inl (ct 0))), (k2, .inl (cI, 12, .inl (ct 1))), (k3, .inl (cI, 12, .inl (ct 2)))]) (w' := [(h0, .inr (3, [.int (nu 0), .int (nu 1), .int (nu 2), .int (nu 5), .int (nu 6), .int (nu 3), .int (nu 4), .ref d0, .ref k0])), (d0, .inr (2, [.int (nI nD), .ref d1, .ref d2, .ref d3, .ref d4, .ref d5])), (d1, .inl (cI, 8, .inl (g 0))), (d2, .inl (cI, 8, .inl (g 1))), (k0, .inr (0, [.int (nI nK), .ref k1, .ref k2, .ref k3])), (k1, .inl (cI, 12, .inl (ct 0))), (k2, .inl (cI, 12, .inl (ct 1))), (k3, .inl (cI, 12, .inl (ct 2)))]) hP hD hS hA [0, 1, 2, 3, 4, 5, 6, 7] [] [0, 1, 2, 3, 4, 5, 6, 7] rfl rfl rfl rfl rfl (va_runV (As := [.int (nI i)]) (rest := []) ⟨hx, hb, hml, hown, hts⟩ (tX3_cometSeen l D cI h0 d0 d1 d2 d3 d4 d5 k0 k1 k2 k3 nD nK nu g ct i (by omega) (by omega) (by omega) _) (cwV 1 hts gX3_cometsSeen_X3_cometSeen rfl rfl rfl hX3_cometSeen ⟨Nat.le_of_ble_eq_true rfl, Nat.le_of_ble_eq_true rfl⟩) (preV_of hk hP hD [0, 1, 2, 3, 4, 5, 6, 7] rfl rfl (recvO hk hP (ci := 3) (q0 := 0) rfl rfl)) rfl rfl hl.1 rfl (lv_room (Nat.le_of_ble_eq_true rfl)) dX3_cometsSeen_17 ⟨Nat.le_of_ble_eq_true rfl, Nat.le_of_ble_eq_true rfl⟩) (fun H locs hP hD hS => ?_)
        refine lv_if_eq (tgt := 26) hx hb dX3_cometsSeen_20 (by decide) (fun c20 => ?_) (fun c20 => ?_)
        · refine lv_iinc (v := nI (i + 1)) (lv' := [(2, .int (nI (i + 1))), (1, .int (nI (csN nD g ct i))), (0, .ref h0)]) hx hb dX3_cometsSeen_26 hl (k := 0) rfl (nI_inc i) (by decide) rfl (fun ls hl => ?_)
          refine lv_goto (tgt := 4) hx hb dX3_cometsSeen_29 (by decide) ?_
          have ihx := ih4 (i + 1)  (by omega) (by omega)
          rw [show csN nD g ct (i + 1) = csN nD g ct i from if_pos c20] at ihx
          exact ihx _ _ hP hD hS _ (lv_sub hl [0, 1, 2] rfl)
        · refine lv_iinc (v := nI (csN nD g ct i + 1)) (lv' := [(1, .int (nI (csN nD g ct i + 1))), (2, .int (nI i)), (0, .ref h0)]) hx hb dX3_cometsSeen_23 hl (k := 1) rfl (nI_inc (csN nD g ct i)) (by decide) rfl (fun ls hl => ?_)
          refine lv_iinc (v := nI (i + 1)) (lv' := [(2, .int (nI (i + 1))), (1, .int (nI (csN nD g ct i + 1))), (0, .ref h0)]) hx hb dX3_cometsSeen_26 hl (k := 1) rfl (nI_inc i) (by decide) rfl (fun ls hl => ?_)
          refine lv_goto (tgt := 4) hx hb dX3_cometsSeen_29 (by decide) ?_
          have ihx := ih4 (i + 1)  (by omega) (by omega)
          rw [show csN nD g ct (i + 1) = csN nD g ct i + 1 from if_neg c20] at ihx
          exact ihx _ _ hP hD hS _ (lv_sub hl [0, 1, 2] rfl)
  exact key4 (nK + 1) 0  (by omega) (by omega) _ _ hP hD hS _ (lv_sub hl [0, 1, 2] rfl)

theorem mX3_factOfStar_f118 : (.fieldLink RX3 118 "StarConsole$Stars" "degree" "[I" : Cond) ∈ wsX3_factOfStar := by decide +kernel
theorem iX3_factOfStar_X4 : ∀ w ∈ wsX40, w ∈ wsX3_factOfStar := by decide +kernel
theorem mX3_factOfStar_f121 : (.fieldLink RX3 121 "StarConsole$Stars" "light" "[I" : Cond) ∈ wsX3_factOfStar := by decide +kernel
theorem mX3_factOfStar_f39 : (.fieldLink RX3 39 "StarConsole$Show" "ballAngle" "I" : Cond) ∈ wsX3_factOfStar := by decide +kernel
theorem iX3_factOfStar_X3 : ∀ w ∈ wsX30, w ∈ wsX3_factOfStar := by decide +kernel
theorem mX3_factOfStar_iX5 : (.initialized RX5 : Cond) ∈ wsX3_factOfStar := by decide +kernel
theorem mX3_factOfStar_stX5_turned : (.static yX5_turned : Cond) ∈ wsX3_factOfStar := by decide +kernel
theorem hX3_factOfStar : yX3_factOfStar.cls = RX3 ∧ yX3_factOfStar.cls ≠ "java/lang/invoke/MethodHandle" ∧ yX3_factOfStar.cls ≠ "java/lang/invoke/VarHandle" ∧ (parseMethodDescriptor yX3_factOfStar.desc).map (fun d => d.parameters.length) = some 3 := by decide +kernel
set_option maxHeartbeats 4000000 in
set_option maxRecDepth 100000 in
theorem tX3_factOfStar (l : Launch) (D : va_G) (cI : ClassId) (h0 d0 d1 d2 d3 d4 d5 k0 t0 t1 t2 nD nT : Nat) (nu : Nat → Int32) (g st : Mx) (k : Nat) (x : Int32) (hn : nD ≤ 8) (hT : nT ≤ 20) (hk8 : k < nT) : CI l yX3_factOfStar wsX3_factOfStar ({ frames := 4, cells := 0, slots := 0, locals := 90 } : Room) D cI ([.ref h0, .ref t0, .int (nI k), .int x] : List Value) [(h0, .inr (3, [.int (nu 0), .int (nu 1), .int (nu 2), .int (nu 5), .int (nu 6), .int (nu 3), .int (nu 4), .ref d0, .ref k0])), (d0, .inr (2, [.int (nI nD), .ref d1, .ref d2, .ref d3, .ref d4, .ref d5])), (d1, .inl (cI, 8, .inl (g 0))), (d2, .inl (cI, 8, .inl (g 1))), (t0, .inr (4, [.int (nI nT), .ref t1, .ref t2])), (t1, .inl (cI, 20, .inl (st 0))), (t2, .inl (cI, 20, .inl (st 1)))] (fcS nD g st (nu 5) k x) [(h0, .inr (3, [.int (nu 0), .int (nu 1), .int (nu 2), .int (nu 5), .int (nu 6), .int (nu 3), .int (nu 4), .ref d0, .ref k0])), (d0, .inr (2, [.int (nI nD), .ref d1, .ref d2, .ref d3, .ref d4, .ref d5])), (d1, .inl (cI, 8, .inl (g 0))), (d2, .inl (cI, 8, .inl (g 1))), (t0, .inr (4, [.int (nI nT), .ref t1, .ref t2])), (t1, .inl (cI, 20, .inl (st 0))), (t2, .inl (cI, 20, .inl (st 1)))] := by
  refine entI (cc := cX3_factOfStar) (maxL := 4) (ret := (some .int)) (by decide) rfl (Nat.le_of_ble_eq_true rfl) (fun p e s m below meth c A ls fx hl => ?_)
  obtain ⟨hx, hb, hr, hml, hown, hts, hlocks, hk, hP, hD, hA⟩ := fx
  have hown : s.vm.findClass RX3 = some m.cls := hown
  have hS : va_S A s.heap s.heap [] := va_S.rf
  have hP : va_P D vwCl [(h0, .inr (3, [.int (nu 0), .int (nu 1), .int (nu 2), .int (nu 5), .int (nu 6), .int (nu 3), .int (nu 4), .ref d0, .ref k0])), (d0, .inr (2, [.int (nI nD), .ref d1, .ref d2, .ref d3, .ref d4, .ref d5])), (d1, .inl (cI, 8, .inl (g 0))), (d2, .inl (cI, 8, .inl (g 1))), (t0, .inr (4, [.int (nI nT), .ref t1, .ref t2])), (t1, .inl (cI, 20, .inl (st 0))), (t2, .inl (cI, 20, .inl (st 1)))] s.heap := hP
  have hD : va_D A [(h0, .inr (3, [.int (nu 0), .int (nu 1), .int (nu 2), .int (nu 5), .int (nu 6), .int (nu 3), .int (nu 4), .ref d0, .ref k0])), (d0, .inr (2, [.int (nI nD), .ref d1, .ref d2, .ref d3, .ref d4, .ref d5])), (d1, .inl (cI, 8, .inl (g 0))), (d2, .inl (cI, 8, .inl (g 1))), (t0, .inr (4, [.int (nI nT), .ref t1, .ref t2])), (t1, .inl (cI, 20, .inl (st 0))), (t2, .inl (cI, 20, .inl (st 1)))] := hD
  have hl : lv_has ls 4 [(0, .ref h0), (1, .ref t0), (2, .int (nI k)), (3, .int x)] := hl
  refine lv_aload_n hx hb dX3_factOfStar_0 rfl (lv_at hl 1 rfl) ?_
  refine lv_iload_n hx hb dX3_factOfStar_1 rfl (lv_at hl 2 rfl) ?_
  refine frI (wc := [(t0, .inr (4, [.int (nI nT), .ref t1, .ref t2]))]) (wc' := [(t0, .inr (4, [.int (nI nT), .ref t1, .ref t2]))]) (w' := [(h0, .inr (3, [.int (nu 0), .int (nu 1), .int (nu 2), .int (nu 5), .int (nu 6), .int (nu 3), .int (nu 4), .ref d0, .ref k0])), (d0, .inr (2, [.int (nI nD), .ref d1, .ref d2, .ref d3, .ref d4, .ref d5])), (d1, .inl (cI, 8, .inl (g 0))), (d2, .inl (cI, 8, .inl (g 1))), (t0, .inr (4, [.int (nI nT), .ref t1, .ref t2])), (t1, .inl (cI, 20, .inl (st 0))), (t2, .inl (cI, 20, .inl (st 1)))]) hP hD hS hA [4] [0, 1, 2, 3, 5, 6] [0, 1, 2, 3, 6, 4, 5] rfl rfl rfl rfl rfl (va_runV (As := [.int (nI k)]) (rest := []) ⟨hx, hb, hml, hown, hts⟩ (tX4_has l D cI t0 t1 t2 nT (nI k) (by omega) _) (cwV 1 hts gX3_factOfStar_X4_has rfl rfl rfl hX4_has ⟨Nat.le_of_ble_eq_true rfl, Nat.le_of_ble_eq_true rfl⟩) (preV_of hk hP hD [4] rfl rfl (recvO hk hP (ci := 4) (q0 := 4) rfl rfl)) rfl rfl hl.1 rfl (lv_room (Nat.le_of_ble_eq_true rfl)) dX3_factOfStar_2 ⟨Nat.le_of_ble_eq_true rfl, Nat.le_of_ble_eq_true rfl⟩) (fun H locs hP hD hS => ?_)
  refine top_int (hasI_1 (by omega) (by omega)) ?_
  refine lv_if_ne (tgt := 10) hx hb dX3_factOfStar_5 (by decide) (fun _ => ?_) (fun h => absurd h (by decide))
  refine lv_iload_n hx hb dX3_factOfStar_10 rfl (lv_at hl 3 rfl) ?_
  by_cases e0 : x = 0
  · refine top_int e0 ?_
    refine lv_tableIn (off := 25) (tgt := 36) hx hb dX3_factOfStar_11 (by decide) (by decide) (by decide) (by decide) ?_
    refine lv_aload_n hx hb dX3_factOfStar_36 rfl (lv_at hl 1 rfl) ?_
    refine va_get (D := D) (ci := 4) (v := .ref t1) (C := RX4) (T := TX4) (N := 3) hx hb hts iX3_factOfStar_X4 hown hk.1 hP 4 rfl rfl 1 (by decide) (hts _ mX3_factOfStar_f118) (fun _ h9 => h9) rfl dX3_factOfStar_37 ?_
    refine lv_iload_n hx hb dX3_factOfStar_40 rfl (lv_at hl 2 rfl) ?_
    refine aldN hx hb hk hP 5 rfl k rfl (by omega) (Nat.le_of_ble_eq_true rfl) dX3_factOfStar_41 ?_
    exact retI hx hb hr hlocks hS hP hD dX3_factOfStar_42 (by rw [fcS, if_pos e0]) rfl
  by_cases e1 : x = 1
  · refine top_int e1 ?_
    refine lv_tableIn (off := 32) (tgt := 43) hx hb dX3_factOfStar_11 (by decide) (by decide) (by decide) (by decide) ?_
    refine lv_aload_n hx hb dX3_factOfStar_43 rfl (lv_at hl 1 rfl) ?_
    refine va_get (D := D) (ci := 4) (v := .ref t2) (C := RX4) (T := TX4) (N := 3) hx hb hts iX3_factOfStar_X4 hown hk.1 hP 4 rfl rfl 2 (by decide) (hts _ mX3_factOfStar_f121) (fun _ h9 => h9) rfl dX3_factOfStar_44 ?_
    refine lv_iload_n hx hb dX3_factOfStar_47 rfl (lv_at hl 2 rfl) ?_
    refine aldN hx hb hk hP 6 rfl k rfl (by omega) (Nat.le_of_ble_eq_true rfl) dX3_factOfStar_48 ?_
    exact retI hx hb hr hlocks hS hP hD dX3_factOfStar_49 (by rw [fcS, if_neg e0, if_pos e1]) rfl
  by_cases e2 : x = 2
  · refine top_int e2 ?_
    refine lv_tableIn (off := 39) (tgt := 50) hx hb dX3_factOfStar_11 (by decide) (by decide) (by decide) (by decide) ?_
    refine lv_aload_n hx hb dX3_factOfStar_50 rfl (lv_at hl 1 rfl) ?_
    refine va_get (D := D) (ci := 4) (v := .ref t1) (C := RX4) (T := TX4) (N := 3) hx hb hts iX3_factOfStar_X4 hown hk.1 hP 4 rfl rfl 1 (by decide) (hts _ mX3_factOfStar_f118) (fun _ h9 => h9) rfl dX3_factOfStar_51 ?_
    refine lv_iload_n hx hb dX3_factOfStar_54 rfl (lv_at hl 2 rfl) ?_
    refine aldN hx hb hk hP 5 rfl k rfl (by omega) (Nat.le_of_ble_eq_true rfl) dX3_factOfStar_55 ?_
    refine lv_aload_n hx hb dX3_factOfStar_56 rfl (lv_at hl 0 rfl) ?_
    refine va_get (D := D) (ci := 3) (v := .int (nu 5)) (C := RX3) (T := TX3) (N := 9) hx hb hts iX3_factOfStar_X3 hown hk.1 hP 0 rfl rfl 3 (by decide) (hts _ mX3_factOfStar_f39) (fun _ h9 => h9) rfl dX3_factOfStar_57 ?_
    refine frI (wc := []) (wc' := []) (w' := [(h0, .inr (3, [.int (nu 0), .int (nu 1), .int (nu 2), .int (nu 5), .int (nu 6), .int (nu 3), .int (nu 4), .ref d0, .ref k0])), (d0, .inr (2, [.int (nI nD), .ref d1, .ref d2, .ref d3, .ref d4, .ref d5])), (d1, .inl (cI, 8, .inl (g 0))), (d2, .inl (cI, 8, .inl (g 1))), (t0, .inr (4, [.int (nI nT), .ref t1, .ref t2])), (t1, .inl (cI, 20, .inl (st 0))), (t2, .inl (cI, 20, .inl (st 1)))]) hP hD hS hA [] [0, 1, 2, 3, 4, 5, 6] [0, 1, 2, 3, 4, 5, 6] rfl rfl rfl rfl rfl (va_runSN (As := [.int ((st 0) k), .int (nu 5)]) (rest := []) ⟨hx, hb, hml, hown, hts⟩ (tX5_turned l D cI (st 0 k) (nu 5)  _) ⟨va_cnB 2 hts gX3_factOfStar_X5_turned_n64 rfl rfl rfl (show va_Nw (.methodLinkNest RX3 64 yX5_turned "StarConsole") s from hk.2 _ (List.mem_of_getElem? (i := 1) rfl)) (hts _ mX3_factOfStar_iX5) ⟨hX5_turned.2.1, hX5_turned.2.2.1, hX5_turned.2.2.2⟩ ⟨Nat.le_of_ble_eq_true rfl, Nat.le_of_ble_eq_true rfl⟩, (hts _ mX3_factOfStar_stX5_turned), trivial⟩ (preS_of hk hP hD [] rfl rfl) rfl rfl hl.1 rfl (lv_room (Nat.le_of_ble_eq_true rfl)) dX3_factOfStar_60 ⟨Nat.le_of_ble_eq_true rfl, Nat.le_of_ble_eq_true rfl⟩) (fun H locs hP hD hS => ?_)
    exact retI hx hb hr hlocks hS hP hD dX3_factOfStar_63 (by rw [fcS, if_neg e0, if_neg e1, if_pos e2]) rfl
  refine lv_tableOut (tgt := 64) hx hb dX3_factOfStar_11 (tsw3 e0 e1 e2) (by decide) ?_
  refine lv_aload_n hx hb dX3_factOfStar_64 rfl (lv_at hl 0 rfl) ?_
  refine lv_aload_n hx hb dX3_factOfStar_65 rfl (lv_at hl 1 rfl) ?_
  refine lv_iload_n hx hb dX3_factOfStar_66 rfl (lv_at hl 2 rfl) ?_
  refine frI (wc := [(h0, .inr (3, [.int (nu 0), .int (nu 1), .int (nu 2), .int (nu 5), .int (nu 6), .int (nu 3), .int (nu 4), .ref d0, .ref k0])), (d0, .inr (2, [.int (nI nD), .ref d1, .ref d2, .ref d3, .ref d4, .ref d5])), (d1, .inl (cI, 8, .inl (g 0))), (d2, .inl (cI, 8, .inl (g 1))), (t0, .inr (4, [.int (nI nT), .ref t1, .ref t2])), (t1, .inl (cI, 20, .inl (st 0))), (t2, .inl (cI, 20, .inl (st 1)))]) (wc' := [(h0, .inr (3, [.int (nu 0), .int (nu 1), .int (nu 2), .int (nu 5), .int (nu 6), .int (nu 3), .int (nu 4), .ref d0, .ref k0])), (d0, .inr (2, [.int (nI nD), .ref d1, .ref d2, .ref d3, .ref d4, .ref d5])), (d1, .inl (cI, 8, .inl (g 0))), (d2, .inl (cI, 8, .inl (g 1))), (t0, .inr (4, [.int (nI nT), .ref t1, .ref t2])), (t1, .inl (cI, 20, .inl (st 0))), (t2, .inl (cI, 20, .inl (st 1)))]) (w' := [(h0, .inr (3, [.int (nu 0), .int (nu 1), .int (nu 2), .int (nu 5), .int (nu 6), .int (nu 3), .int (nu 4), .ref d0, .ref k0])), (d0, .inr (2, [.int (nI nD), .ref d1, .ref d2, .ref d3, .ref d4, .ref d5])), (d1, .inl (cI, 8, .inl (g 0))), (d2, .inl (cI, 8, .inl (g 1))), (t0, .inr (4, [.int (nI nT), .ref t1, .ref t2])), (t1, .inl (cI, 20, .inl (st 0))), (t2, .inl (cI, 20, .inl (st 1)))]) hP hD hS hA [0, 1, 2, 3, 4, 5, 6] [] [0, 1, 2, 3, 4, 5, 6] rfl rfl rfl rfl rfl (va_runV (As := [.ref t0, .int (nI k)]) (rest := []) ⟨hx, hb, hml, hown, hts⟩ (tX3_starSeen l D cI h0 d0 d1 d2 d3 d4 d5 k0 t0 t1 t2 nD nT nu g st k (by omega) (by omega) (by omega) _) (cwV 2 hts gX3_factOfStar_X3_starSeen rfl rfl rfl hX3_starSeen ⟨Nat.le_of_ble_eq_true rfl, Nat.le_of_ble_eq_true rfl⟩) (preV_of hk hP hD [0, 1, 2, 3, 4, 5, 6] rfl rfl (recvO hk hP (ci := 3) (q0 := 0) rfl rfl)) rfl rfl hl.1 rfl (lv_room (Nat.le_of_ble_eq_true rfl)) dX3_factOfStar_67 ⟨Nat.le_of_ble_eq_true rfl, Nat.le_of_ble_eq_true rfl⟩) (fun H locs hP hD hS => ?_)
  refine lv_if_eq (tgt := 77) hx hb dX3_factOfStar_70 (by decide) (fun c70 => ?_) (fun c70 => ?_)
  · refine lv_iconst (v := 0) hx hb dX3_factOfStar_77 (by decide) ?_
    exact retI hx hb hr hlocks hS hP hD dX3_factOfStar_78 (by rw [fcS, if_neg e0, if_neg e1, if_neg e2, c70]) rfl
  · refine lv_iconst (v := 1) hx hb dX3_factOfStar_73 (by decide) ?_
    refine lv_goto (tgt := 78) hx hb dX3_factOfStar_74 (by decide) ?_
    exact retI hx hb hr hlocks hS hP hD dX3_factOfStar_78 (by rw [fcS, if_neg e0, if_neg e1, if_neg e2]; exact ((ssI_b _ _ _ _ _).resolve_left c70).symm) rfl

theorem mX3_factOfComet_f25 : (.fieldLink RX3 25 "StarConsole$Show" "comets" "LStarConsole$Comets;" : Cond) ∈ wsX3_factOfComet := by decide +kernel
theorem iX3_factOfComet_X3 : ∀ w ∈ wsX30, w ∈ wsX3_factOfComet := by decide +kernel
theorem mX3_factOfComet_f129 : (.fieldLink RX3 129 "StarConsole$Comets" "angle" "[I" : Cond) ∈ wsX3_factOfComet := by decide +kernel
theorem iX3_factOfComet_X0 : ∀ w ∈ wsX00, w ∈ wsX3_factOfComet := by decide +kernel
theorem mX3_factOfComet_f132 : (.fieldLink RX3 132 "StarConsole$Comets" "speed" "[I" : Cond) ∈ wsX3_factOfComet := by decide +kernel
theorem mX3_factOfComet_f135 : (.fieldLink RX3 135 "StarConsole$Comets" "left" "[I" : Cond) ∈ wsX3_factOfComet := by decide +kernel
theorem hX3_factOfComet : yX3_factOfComet.cls = RX3 ∧ yX3_factOfComet.cls ≠ "java/lang/invoke/MethodHandle" ∧ yX3_factOfComet.cls ≠ "java/lang/invoke/VarHandle" ∧ (parseMethodDescriptor yX3_factOfComet.desc).map (fun d => d.parameters.length) = some 2 := by decide +kernel
set_option maxHeartbeats 4000000 in
set_option maxRecDepth 100000 in
theorem tX3_factOfComet (l : Launch) (D : va_G) (cI : ClassId) (h0 d0 d1 d2 d3 d4 d5 k0 k1 k2 k3 nD nK : Nat) (nu : Nat → Int32) (g ct : Mx) (i : Nat) (x : Int32) (hn : nD ≤ 8) (hK : nK ≤ 12) (hk8 : i < nK) : CI l yX3_factOfComet wsX3_factOfComet ({ frames := 4, cells := 0, slots := 0, locals := 89 } : Room) D cI ([.ref h0, .int (nI i), .int x] : List Value) [(h0, .inr (3, [.int (nu 0), .int (nu 1), .int (nu 2), .int (nu 5), .int (nu 6), .int (nu 3), .int (nu 4), .ref d0, .ref k0])), (d0, .inr (2, [.int (nI nD), .ref d1, .ref d2, .ref d3, .ref d4, .ref d5])), (d1, .inl (cI, 8, .inl (g 0))), (d2, .inl (cI, 8, .inl (g 1))), (k0, .inr (0, [.int (nI nK), .ref k1, .ref k2, .ref k3])), (k1, .inl (cI, 12, .inl (ct 0))), (k2, .inl (cI, 12, .inl (ct 1))), (k3, .inl (cI, 12, .inl (ct 2)))] (fcK nD g ct i x) [(h0, .inr (3, [.int (nu 0), .int (nu 1), .int (nu 2), .int (nu 5), .int (nu 6), .int (nu 3), .int (nu 4), .ref d0, .ref k0])), (d0, .inr (2, [.int (nI nD), .ref d1, .ref d2, .ref d3, .ref d4, .ref d5])), (d1, .inl (cI, 8, .inl (g 0))), (d2, .inl (cI, 8, .inl (g 1))), (k0, .inr (0, [.int (nI nK), .ref k1, .ref k2, .ref k3])), (k1, .inl (cI, 12, .inl (ct 0))), (k2, .inl (cI, 12, .inl (ct 1))), (k3, .inl (cI, 12, .inl (ct 2)))] := by
  refine entI (cc := cX3_factOfComet) (maxL := 3) (ret := (some .int)) (by decide) rfl (Nat.le_of_ble_eq_true rfl) (fun p e s m below meth c A ls fx hl => ?_)
  obtain ⟨hx, hb, hr, hml, hown, hts, hlocks, hk, hP, hD, hA⟩ := fx
  have hown : s.vm.findClass RX3 = some m.cls := hown
  have hS : va_S A s.heap s.heap [] := va_S.rf
  have hP : va_P D vwCl [(h0, .inr (3, [.int (nu 0), .int (nu 1), .int (nu 2), .int (nu 5), .int (nu 6), .int (nu 3), .int (nu 4), .ref d0, .ref k0])), (d0, .inr (2, [.int (nI nD), .ref d1, .ref d2, .ref d3, .ref d4, .ref d5])), (d1, .inl (cI, 8, .inl (g 0))), (d2, .inl (cI, 8, .inl (g 1))), (k0, .inr (0, [.int (nI nK), .ref k1, .ref k2, .ref k3])), (k1, .inl (cI, 12, .inl (ct 0))), (k2, .inl (cI, 12, .inl (ct 1))), (k3, .inl (cI, 12, .inl (ct 2)))] s.heap := hP
  have hD : va_D A [(h0, .inr (3, [.int (nu 0), .int (nu 1), .int (nu 2), .int (nu 5), .int (nu 6), .int (nu 3), .int (nu 4), .ref d0, .ref k0])), (d0, .inr (2, [.int (nI nD), .ref d1, .ref d2, .ref d3, .ref d4, .ref d5])), (d1, .inl (cI, 8, .inl (g 0))), (d2, .inl (cI, 8, .inl (g 1))), (k0, .inr (0, [.int (nI nK), .ref k1, .ref k2, .ref k3])), (k1, .inl (cI, 12, .inl (ct 0))), (k2, .inl (cI, 12, .inl (ct 1))), (k3, .inl (cI, 12, .inl (ct 2)))] := hD
  have hl : lv_has ls 3 [(0, .ref h0), (1, .int (nI i)), (2, .int x)] := hl
  refine lv_aload_n hx hb dX3_factOfComet_0 rfl (lv_at hl 0 rfl) ?_
  refine va_get (D := D) (ci := 3) (v := .ref k0) (C := RX3) (T := TX3) (N := 9) hx hb hts iX3_factOfComet_X3 hown hk.1 hP 0 rfl rfl 8 (by decide) (hts _ mX3_factOfComet_f25) (fun _ h9 => h9) rfl dX3_factOfComet_1 ?_
  refine lv_iload_n hx hb dX3_factOfComet_4 rfl (lv_at hl 1 rfl) ?_
  refine frI (wc := [(k0, .inr (0, [.int (nI nK), .ref k1, .ref k2, .ref k3]))]) (wc' := [(k0, .inr (0, [.int (nI nK), .ref k1, .ref k2, .ref k3]))]) (w' := [(h0, .inr (3, [.int (nu 0), .int (nu 1), .int (nu 2), .int (nu 5), .int (nu 6), .int (nu 3), .int (nu 4), .ref d0, .ref k0])), (d0, .inr (2, [.int (nI nD), .ref d1, .ref d2, .ref d3, .ref d4, .ref d5])), (d1, .inl (cI, 8, .inl (g 0))), (d2, .inl (cI, 8, .inl (g 1))), (k0, .inr (0, [.int (nI nK), .ref k1, .ref k2, .ref k3])), (k1, .inl (cI, 12, .inl (ct 0))), (k2, .inl (cI, 12, .inl (ct 1))), (k3, .inl (cI, 12, .inl (ct 2)))]) hP hD hS hA [4] [0, 1, 2, 3, 5, 6, 7] [0, 1, 2, 3, 7, 4, 5, 6] rfl rfl rfl rfl rfl (va_runV (As := [.int (nI i)]) (rest := []) ⟨hx, hb, hml, hown, hts⟩ (tX0_has l D cI k0 k1 k2 k3 nK (nI i) (by omega) _) (cwV 1 hts gX3_factOfComet_X0_has rfl rfl rfl hX0_has ⟨Nat.le_of_ble_eq_true rfl, Nat.le_of_ble_eq_true rfl⟩) (preV_of hk hP hD [4] rfl rfl (recvO hk hP (ci := 0) (q0 := 4) rfl rfl)) rfl rfl hl.1 rfl (lv_room (Nat.le_of_ble_eq_true rfl)) dX3_factOfComet_5 ⟨Nat.le_of_ble_eq_true rfl, Nat.le_of_ble_eq_true rfl⟩) (fun H locs hP hD hS => ?_)
  refine top_int (hasI_1 (by omega) (by omega)) ?_
  refine lv_if_ne (tgt := 13) hx hb dX3_factOfComet_8 (by decide) (fun _ => ?_) (fun h => absurd h (by decide))
  refine lv_iload_n hx hb dX3_factOfComet_13 rfl (lv_at hl 2 rfl) ?_
  by_cases e0 : x = 0
  · refine top_int e0 ?_
    refine lv_tableIn (off := 26) (tgt := 40) hx hb dX3_factOfComet_14 (by decide) (by decide) (by decide) (by decide) ?_
    refine lv_aload_n hx hb dX3_factOfComet_40 rfl (lv_at hl 0 rfl) ?_
    refine va_get (D := D) (ci := 3) (v := .ref k0) (C := RX3) (T := TX3) (N := 9) hx hb hts iX3_factOfComet_X3 hown hk.1 hP 0 rfl rfl 8 (by decide) (hts _ mX3_factOfComet_f25) (fun _ h9 => h9) rfl dX3_factOfComet_41 ?_
    refine va_get (D := D) (ci := 0) (v := .ref k1) (C := RX0) (T := TX0) (N := 4) hx hb hts iX3_factOfComet_X0 hown hk.1 hP 4 rfl rfl 1 (by decide) (hts _ mX3_factOfComet_f129) (fun _ h9 => h9) rfl dX3_factOfComet_44 ?_
    refine lv_iload_n hx hb dX3_factOfComet_47 rfl (lv_at hl 1 rfl) ?_
    refine aldN hx hb hk hP 5 rfl i rfl (by omega) (Nat.le_of_ble_eq_true rfl) dX3_factOfComet_48 ?_
    exact retI hx hb hr hlocks hS hP hD dX3_factOfComet_49 (by rw [fcK, if_pos e0]) rfl
  by_cases e1 : x = 1
  · refine top_int e1 ?_
    refine lv_tableIn (off := 36) (tgt := 50) hx hb dX3_factOfComet_14 (by decide) (by decide) (by decide) (by decide) ?_
    refine lv_aload_n hx hb dX3_factOfComet_50 rfl (lv_at hl 0 rfl) ?_
    refine va_get (D := D) (ci := 3) (v := .ref k0) (C := RX3) (T := TX3) (N := 9) hx hb hts iX3_factOfComet_X3 hown hk.1 hP 0 rfl rfl 8 (by decide) (hts _ mX3_factOfComet_f25) (fun _ h9 => h9) rfl dX3_factOfComet_51 ?_
    refine va_get (D := D) (ci := 0) (v := .ref k2) (C := RX0) (T := TX0) (N := 4) hx hb hts iX3_factOfComet_X0 hown hk.1 hP 4 rfl rfl 2 (by decide) (hts _ mX3_factOfComet_f132) (fun _ h9 => h9) rfl dX3_factOfComet_54 ?_
    refine lv_iload_n hx hb dX3_factOfComet_57 rfl (lv_at hl 1 rfl) ?_
    refine aldN hx hb hk hP 6 rfl i rfl (by omega) (Nat.le_of_ble_eq_true rfl) dX3_factOfComet_58 ?_
    exact retI hx hb hr hlocks hS hP hD dX3_factOfComet_59 (by rw [fcK, if_neg e0, if_pos e1]) rfl
  by_cases e2 : x = 2
  · refine top_int e2 ?_
    refine lv_tableIn (off := 46) (tgt := 60) hx hb dX3_factOfComet_14 (by decide) (by decide) (by decide) (by decide) ?_
    refine lv_aload_n hx hb dX3_factOfComet_60 rfl (lv_at hl 0 rfl) ?_
    refine va_get (D := D) (ci := 3) (v := .ref k0) (C := RX3) (T := TX3) (N := 9) hx hb hts iX3_factOfComet_X3 hown hk.1 hP 0 rfl rfl 8 (by decide) (hts _ mX3_factOfComet_f25) (fun _ h9 => h9) rfl dX3_factOfComet_61 ?_
    refine va_get (D := D) (ci := 0) (v := .ref k3) (C := RX0) (T := TX0) (N := 4) hx hb hts iX3_factOfComet_X0 hown hk.1 hP 4 rfl rfl 3 (by decide) (hts _ mX3_factOfComet_f135) (fun _ h9 => h9) rfl dX3_factOfComet_64 ?_
    refine lv_iload_n hx hb dX3_factOfComet_67 rfl (lv_at hl 1 rfl) ?_
    refine aldN hx hb hk hP 7 rfl i rfl (by omega) (Nat.le_of_ble_eq_true rfl) dX3_factOfComet_68 ?_
    exact retI hx hb hr hlocks hS hP hD dX3_factOfComet_69 (by rw [fcK, if_neg e0, if_neg e1, if_pos e2]) rfl
  refine lv_tableOut (tgt := 70) hx hb dX3_factOfComet_14 (tsw3 e0 e1 e2) (by decide) ?_
  refine lv_aload_n hx hb dX3_factOfComet_70 rfl (lv_at hl 0 rfl) ?_
  refine lv_iload_n hx hb dX3_factOfComet_71 rfl (lv_at hl 1 rfl) ?_
  refine frI (wc := [(h0, .inr (3, [.int (nu 0), .int (nu 1), .int (nu 2), .int (nu 5), .int (nu 6), .int (nu 3), .int (nu 4), .ref d0, .ref k0])), (d0, .inr (2, [.int (nI nD), .ref d1, .ref d2, .ref d3, .ref d4, .ref d5])), (d1, .inl (cI, 8, .inl (g 0))), (d2, .inl (cI, 8, .inl (g 1))), (k0, .inr (0, [.int (nI nK), .ref k1, .ref k2, .ref k3])), (k1, .inl (cI, 12, .inl (ct 0))), (k2, .inl (cI, 12, .inl (ct 1))), (k3, .inl (cI, 12, .inl (ct 2)))]) (wc' := [(h0, .inr (3, [.int (nu 0), .int (nu 1), .int (nu 2), .int (nu 5), .int (nu 6), .int (nu 3), .int (nu 4), .ref d0, .ref k0])), (d0, .inr (2, [.int (nI nD), .ref d1, .ref d2, .ref d3, .ref d4, .ref d5])), (d1, .inl (cI, 8, .inl (g 0))), (d2, .inl (cI, 8, .inl (g 1))), (k0, .inr (0, [.int (nI nK), .ref k1, .ref k2, .ref k3])), (k1, .inl (cI, 12, .inl (ct 0))), (k2, .inl (cI, 12, .inl (ct 1))), (k3, .inl (cI, 12, .inl (ct 2)))]) (w' := [(h0, .inr (3, [.int (nu 0), .int (nu 1), .int (nu 2), .int (nu 5), .int (nu 6), .int (nu 3), .int (nu 4), .ref d0, .ref k0])), (d0, .inr (2, [.int (nI nD), .ref d1, .ref d2, .ref d3, .ref d4, .ref d5])), (d1, .inl (cI, 8, .inl (g 0))), (d2, .inl (cI, 8, .inl (g 1))), (k0, .inr (0, [.int (nI nK), .ref k1, .ref k2, .ref k3])), (k1, .inl (cI, 12, .inl (ct 0))), (k2, .inl (cI, 12, .inl (ct 1))), (k3, .inl (cI, 12, .inl (ct 2)))]) hP hD hS hA [0, 1, 2, 3, 4, 5, 6, 7] [] [0, 1, 2, 3, 4, 5, 6, 7] rfl rfl rfl rfl rfl (va_runV (As := [.int (nI i)]) (rest := []) ⟨hx, hb, hml, hown, hts⟩ (tX3_cometSeen l D cI h0 d0 d1 d2 d3 d4 d5 k0 k1 k2 k3 nD nK nu g ct i (by omega) (by omega) (by omega) _) (cwV 1 hts gX3_factOfComet_X3_cometSeen rfl rfl rfl hX3_cometSeen ⟨Nat.le_of_ble_eq_true rfl, Nat.le_of_ble_eq_true rfl⟩) (preV_of hk hP hD [0, 1, 2, 3, 4, 5, 6, 7] rfl rfl (recvO hk hP (ci := 3) (q0 := 0) rfl rfl)) rfl rfl hl.1 rfl (lv_room (Nat.le_of_ble_eq_true rfl)) dX3_factOfComet_72 ⟨Nat.le_of_ble_eq_true rfl, Nat.le_of_ble_eq_true rfl⟩) (fun H locs hP hD hS => ?_)
  refine lv_if_eq (tgt := 82) hx hb dX3_factOfComet_75 (by decide) (fun c75 => ?_) (fun c75 => ?_)
  · refine lv_iconst (v := 0) hx hb dX3_factOfComet_82 (by decide) ?_
    exact retI hx hb hr hlocks hS hP hD dX3_factOfComet_83 (by rw [fcK, if_neg e0, if_neg e1, if_neg e2, c75]) rfl
  · refine lv_iconst (v := 1) hx hb dX3_factOfComet_78 (by decide) ?_
    refine lv_goto (tgt := 83) hx hb dX3_factOfComet_79 (by decide) ?_
    exact retI hx hb hr hlocks hS hP hD dX3_factOfComet_83 (by rw [fcK, if_neg e0, if_neg e1, if_neg e2]; exact ((csI_b _ _ _ _).resolve_left c75).symm) rfl

theorem mX3_fact_f29 : (.fieldLink RX3 29 "StarConsole$Show" "tick" "I" : Cond) ∈ wsX3_fact := by decide +kernel
theorem iX3_fact_X3 : ∀ w ∈ wsX30, w ∈ wsX3_fact := by decide +kernel
theorem mX3_fact_f32 : (.fieldLink RX3 32 "StarConsole$Show" "clock" "I" : Cond) ∈ wsX3_fact := by decide +kernel
theorem mX3_fact_f35 : (.fieldLink RX3 35 "StarConsole$Show" "clockRuns" "Z" : Cond) ∈ wsX3_fact := by decide +kernel
theorem mX3_fact_f18 : (.fieldLink RX3 18 "StarConsole$Show" "dimmers" "LStarConsole$Dimmers;" : Cond) ∈ wsX3_fact := by decide +kernel
theorem mX3_fact_f101 : (.fieldLink RX3 101 "StarConsole$Dimmers" "size" "I" : Cond) ∈ wsX3_fact := by decide +kernel
theorem iX3_fact_X2 : ∀ w ∈ wsX20, w ∈ wsX3_fact := by decide +kernel
theorem mX3_fact_f102 : (.fieldLink RX3 102 "StarConsole$Stars" "size" "I" : Cond) ∈ wsX3_fact := by decide +kernel
theorem iX3_fact_X4 : ∀ w ∈ wsX40, w ∈ wsX3_fact := by decide +kernel
theorem mX3_fact_f25 : (.fieldLink RX3 25 "StarConsole$Show" "comets" "LStarConsole$Comets;" : Cond) ∈ wsX3_fact := by decide +kernel
theorem mX3_fact_f105 : (.fieldLink RX3 105 "StarConsole$Comets" "size" "I" : Cond) ∈ wsX3_fact := by decide +kernel
theorem iX3_fact_X0 : ∀ w ∈ wsX00, w ∈ wsX3_fact := by decide +kernel
theorem mX3_fact_f72 : (.fieldLink RX3 72 "StarConsole$Cues" "size" "I" : Cond) ∈ wsX3_fact := by decide +kernel
theorem iX3_fact_X1 : ∀ w ∈ wsX10, w ∈ wsX3_fact := by decide +kernel
theorem mX3_fact_f9 : (.fieldLink RX3 9 "StarConsole$Show" "line" "I" : Cond) ∈ wsX3_fact := by decide +kernel
theorem mX3_fact_f45 : (.fieldLink RX3 45 "StarConsole$Show" "speechLeft" "I" : Cond) ∈ wsX3_fact := by decide +kernel
theorem mX3_fact_f39 : (.fieldLink RX3 39 "StarConsole$Show" "ballAngle" "I" : Cond) ∈ wsX3_fact := by decide +kernel
theorem mX3_fact_f42 : (.fieldLink RX3 42 "StarConsole$Show" "ballSpeed" "I" : Cond) ∈ wsX3_fact := by decide +kernel
theorem hX3_fact : yX3_fact.cls = RX3 ∧ yX3_fact.cls ≠ "java/lang/invoke/MethodHandle" ∧ yX3_fact.cls ≠ "java/lang/invoke/VarHandle" ∧ (parseMethodDescriptor yX3_fact.desc).map (fun d => d.parameters.length) = some 3 := by decide +kernel
set_option maxHeartbeats 4000000 in
set_option maxRecDepth 100000 in
theorem tX3_fact (l : Launch) (D : va_G) (cI : ClassId) (h0 d0 d1 d2 d3 d4 d5 k0 k1 k2 k3 t0 t1 t2 u0 u1 u2 u3 u4 nD nT nC : Nat) (st : Mx) (S : SH) (x : Int32) (hn : nD ≤ 8) (hT : nT ≤ 20) (hK : S.2.2.1 ≤ 12) (hB : S.1 2 = 0 ∨ S.1 2 = 1) : CI l yX3_fact wsX3_fact ({ frames := 5, cells := 0, slots := 0, locals := 113 } : Room) D cI ([.ref h0, .int x, .ref t0, .ref u0] : List Value) [(h0, .inr (3, [.int (S.1 0), .int (S.1 1), .int (S.1 2), .int (S.1 5), .int (S.1 6), .int (S.1 3), .int (S.1 4), .ref d0, .ref k0])), (d0, .inr (2, [.int (nI nD), .ref d1, .ref d2, .ref d3, .ref d4, .ref d5])), (d1, .inl (cI, 8, .inl (S.2.1 0))), (d2, .inl (cI, 8, .inl (S.2.1 1))), (k0, .inr (0, [.int (nI S.2.2.1), .ref k1, .ref k2, .ref k3])), (k1, .inl (cI, 12, .inl (S.2.2.2 0))), (k2, .inl (cI, 12, .inl (S.2.2.2 1))), (k3, .inl (cI, 12, .inl (S.2.2.2 2))), (t0, .inr (4, [.int (nI nT), .ref t1, .ref t2])), (t1, .inl (cI, 20, .inl (st 0))), (t2, .inl (cI, 20, .inl (st 1))), (u0, .inr (1, [.int (nI nC), .ref u1, .ref u2, .ref u3, .ref u4]))] (fcN nD nT nC st S x) [(h0, .inr (3, [.int (S.1 0), .int (S.1 1), .int (S.1 2), .int (S.1 5), .int (S.1 6), .int (S.1 3), .int (S.1 4), .ref d0, .ref k0])), (d0, .inr (2, [.int (nI nD), .ref d1, .ref d2, .ref d3, .ref d4, .ref d5])), (d1, .inl (cI, 8, .inl (S.2.1 0))), (d2, .inl (cI, 8, .inl (S.2.1 1))), (k0, .inr (0, [.int (nI S.2.2.1), .ref k1, .ref k2, .ref k3])), (k1, .inl (cI, 12, .inl (S.2.2.2 0))), (k2, .inl (cI, 12, .inl (S.2.2.2 1))), (k3, .inl (cI, 12, .inl (S.2.2.2 2))), (t0, .inr (4, [.int (nI nT), .ref t1, .ref t2])), (t1, .inl (cI, 20, .inl (st 0))), (t2, .inl (cI, 20, .inl (st 1))), (u0, .inr (1, [.int (nI nC), .ref u1, .ref u2, .ref u3, .ref u4]))] := by
  refine entI (cc := cX3_fact) (maxL := 4) (ret := (some .int)) (by decide) rfl (Nat.le_of_ble_eq_true rfl) (fun p e s m below meth c A ls fx hl => ?_)
  obtain ⟨hx, hb, hr, hml, hown, hts, hlocks, hk, hP, hD, hA⟩ := fx
  have hown : s.vm.findClass RX3 = some m.cls := hown
  have hS : va_S A s.heap s.heap [] := va_S.rf
  have hP : va_P D vwCl [(h0, .inr (3, [.int (S.1 0), .int (S.1 1), .int (S.1 2), .int (S.1 5), .int (S.1 6), .int (S.1 3), .int (S.1 4), .ref d0, .ref k0])), (d0, .inr (2, [.int (nI nD), .ref d1, .ref d2, .ref d3, .ref d4, .ref d5])), (d1, .inl (cI, 8, .inl (S.2.1 0))), (d2, .inl (cI, 8, .inl (S.2.1 1))), (k0, .inr (0, [.int (nI S.2.2.1), .ref k1, .ref k2, .ref k3])), (k1, .inl (cI, 12, .inl (S.2.2.2 0))), (k2, .inl (cI, 12, .inl (S.2.2.2 1))), (k3, .inl (cI, 12, .inl (S.2.2.2 2))), (t0, .inr (4, [.int (nI nT), .ref t1, .ref t2])), (t1, .inl (cI, 20, .inl (st 0))), (t2, .inl (cI, 20, .inl (st 1))), (u0, .inr (1, [.int (nI nC), .ref u1, .ref u2, .ref u3, .ref u4]))] s.heap := hP
  have hD : va_D A [(h0, .inr (3, [.int (S.1 0), .int (S.1 1), .int (S.1 2), .int (S.1 5), .int (S.1 6), .int (S.1 3), .int (S.1 4), .ref d0, .ref k0])), (d0, .inr (2, [.int (nI nD), .ref d1, .ref d2, .ref d3, .ref d4, .ref d5])), (d1, .inl (cI, 8, .inl (S.2.1 0))), (d2, .inl (cI, 8, .inl (S.2.1 1))), (k0, .inr (0, [.int (nI S.2.2.1), .ref k1, .ref k2, .ref k3])), (k1, .inl (cI, 12, .inl (S.2.2.2 0))), (k2, .inl (cI, 12, .inl (S.2.2.2 1))), (k3, .inl (cI, 12, .inl (S.2.2.2 2))), (t0, .inr (4, [.int (nI nT), .ref t1, .ref t2])), (t1, .inl (cI, 20, .inl (st 0))), (t2, .inl (cI, 20, .inl (st 1))), (u0, .inr (1, [.int (nI nC), .ref u1, .ref u2, .ref u3, .ref u4]))] := hD
  have hl : lv_has ls 4 [(0, .ref h0), (1, .int x), (2, .ref t0), (3, .ref u0)] := hl
  refine lv_iload_n hx hb dX3_fact_0 rfl (lv_at hl 1 rfl) ?_
  by_cases e0 : x = 0
  · refine top_int e0 ?_
    refine lv_tableIn (off := 63) (tgt := 64) hx hb dX3_fact_1 (by decide) (by decide) (by decide) (by decide) ?_
    refine lv_aload_n hx hb dX3_fact_64 rfl (lv_at hl 0 rfl) ?_
    refine va_get (D := D) (ci := 3) (v := .int (S.1 0)) (C := RX3) (T := TX3) (N := 9) hx hb hts iX3_fact_X3 hown hk.1 hP 0 rfl rfl 0 (by decide) (hts _ mX3_fact_f29) (fun _ h9 => h9) rfl dX3_fact_65 ?_
    exact retI hx hb hr hlocks hS hP hD dX3_fact_68 (by rw [fcN, if_pos e0]) rfl
  by_cases e1 : x = 1
  · refine top_int e1 ?_
    refine lv_tableIn (off := 68) (tgt := 69) hx hb dX3_fact_1 (by decide) (by decide) (by decide) (by decide) ?_
    refine lv_aload_n hx hb dX3_fact_69 rfl (lv_at hl 0 rfl) ?_
    refine va_get (D := D) (ci := 3) (v := .int (S.1 1)) (C := RX3) (T := TX3) (N := 9) hx hb hts iX3_fact_X3 hown hk.1 hP 0 rfl rfl 1 (by decide) (hts _ mX3_fact_f32) (fun _ h9 => h9) rfl dX3_fact_70 ?_
    exact retI hx hb hr hlocks hS hP hD dX3_fact_73 (by rw [fcN, if_neg e0, if_pos e1]) rfl
  by_cases e2 : x = 2
  · refine top_int e2 ?_
    refine lv_tableIn (off := 73) (tgt := 74) hx hb dX3_fact_1 (by decide) (by decide) (by decide) (by decide) ?_
    refine lv_aload_n hx hb dX3_fact_74 rfl (lv_at hl 0 rfl) ?_
    refine va_get (D := D) (ci := 3) (v := .int (S.1 2)) (C := RX3) (T := TX3) (N := 9) hx hb hts iX3_fact_X3 hown hk.1 hP 0 rfl rfl 2 (by decide) (hts _ mX3_fact_f35) (fun _ h9 => h9) rfl dX3_fact_75 ?_
    refine lv_if_eq (tgt := 85) hx hb dX3_fact_78 (by decide) (fun c78 => ?_) (fun c78 => ?_)
    · refine lv_iconst (v := 0) hx hb dX3_fact_85 (by decide) ?_
      exact retI hx hb hr hlocks hS hP hD dX3_fact_86 (by rw [fcN, if_neg e0, if_neg e1, if_pos e2, c78]) rfl
    · refine lv_iconst (v := 1) hx hb dX3_fact_81 (by decide) ?_
      refine lv_goto (tgt := 86) hx hb dX3_fact_82 (by decide) ?_
      exact retI hx hb hr hlocks hS hP hD dX3_fact_86 (by rw [fcN, if_neg e0, if_neg e1, if_pos e2]; exact (hB.resolve_left c78).symm) rfl
  by_cases e3 : x = 3
  · refine top_int e3 ?_
    refine lv_tableIn (off := 86) (tgt := 87) hx hb dX3_fact_1 (by decide) (by decide) (by decide) (by decide) ?_
    refine lv_aload_n hx hb dX3_fact_87 rfl (lv_at hl 0 rfl) ?_
    refine va_get (D := D) (ci := 3) (v := .ref d0) (C := RX3) (T := TX3) (N := 9) hx hb hts iX3_fact_X3 hown hk.1 hP 0 rfl rfl 7 (by decide) (hts _ mX3_fact_f18) (fun _ h9 => h9) rfl dX3_fact_88 ?_
    refine va_get (D := D) (ci := 2) (v := .int (nI nD)) (C := RX2) (T := TX2) (N := 6) hx hb hts iX3_fact_X2 hown hk.1 hP 1 rfl rfl 0 (by decide) (hts _ mX3_fact_f101) (fun _ h9 => h9) rfl dX3_fact_91 ?_
    exact retI hx hb hr hlocks hS hP hD dX3_fact_94 (by rw [fcN, if_neg e0, if_neg e1, if_neg e2, if_pos e3]) rfl
  by_cases e4 : x = 4
  · refine top_int e4 ?_
    refine lv_tableIn (off := 94) (tgt := 95) hx hb dX3_fact_1 (by decide) (by decide) (by decide) (by decide) ?_
    refine lv_aload_n hx hb dX3_fact_95 rfl (lv_at hl 2 rfl) ?_
    refine va_get (D := D) (ci := 4) (v := .int (nI nT)) (C := RX4) (T := TX4) (N := 3) hx hb hts iX3_fact_X4 hown hk.1 hP 8 rfl rfl 0 (by decide) (hts _ mX3_fact_f102) (fun _ h9 => h9) rfl dX3_fact_96 ?_
    exact retI hx hb hr hlocks hS hP hD dX3_fact_99 (by rw [fcN, if_neg e0, if_neg e1, if_neg e2, if_neg e3, if_pos e4]) rfl
  by_cases e5 : x = 5
  · refine top_int e5 ?_
    refine lv_tableIn (off := 99) (tgt := 100) hx hb dX3_fact_1 (by decide) (by decide) (by decide) (by decide) ?_
    refine lv_aload_n hx hb dX3_fact_100 rfl (lv_at hl 0 rfl) ?_
    refine va_get (D := D) (ci := 3) (v := .ref k0) (C := RX3) (T := TX3) (N := 9) hx hb hts iX3_fact_X3 hown hk.1 hP 0 rfl rfl 8 (by decide) (hts _ mX3_fact_f25) (fun _ h9 => h9) rfl dX3_fact_101 ?_
    refine va_get (D := D) (ci := 0) (v := .int (nI S.2.2.1)) (C := RX0) (T := TX0) (N := 4) hx hb hts iX3_fact_X0 hown hk.1 hP 4 rfl rfl 0 (by decide) (hts _ mX3_fact_f105) (fun _ h9 => h9) rfl dX3_fact_104 ?_
    exact retI hx hb hr hlocks hS hP hD dX3_fact_107 (by rw [fcN, if_neg e0, if_neg e1, if_neg e2, if_neg e3, if_neg e4, if_pos e5]) rfl
  by_cases e6 : x = 6
  · refine top_int e6 ?_
    refine lv_tableIn (off := 107) (tgt := 108) hx hb dX3_fact_1 (by decide) (by decide) (by decide) (by decide) ?_
    refine lv_aload_n hx hb dX3_fact_108 rfl (lv_at hl 3 rfl) ?_
    refine va_get (D := D) (ci := 1) (v := .int (nI nC)) (C := RX1) (T := TX1) (N := 5) hx hb hts iX3_fact_X1 hown hk.1 hP 11 rfl rfl 0 (by decide) (hts _ mX3_fact_f72) (fun _ h9 => h9) rfl dX3_fact_109 ?_
    exact retI hx hb hr hlocks hS hP hD dX3_fact_112 (by rw [fcN, if_neg e0, if_neg e1, if_neg e2, if_neg e3, if_neg e4, if_neg e5, if_pos e6]) rfl
  by_cases e7 : x = 7
  · refine top_int e7 ?_
    refine lv_tableIn (off := 112) (tgt := 113) hx hb dX3_fact_1 (by decide) (by decide) (by decide) (by decide) ?_
    refine lv_aload_n hx hb dX3_fact_113 rfl (lv_at hl 0 rfl) ?_
    refine lv_aload_n hx hb dX3_fact_114 rfl (lv_at hl 2 rfl) ?_
    refine frI (wc := [(h0, .inr (3, [.int (S.1 0), .int (S.1 1), .int (S.1 2), .int (S.1 5), .int (S.1 6), .int (S.1 3), .int (S.1 4), .ref d0, .ref k0])), (d0, .inr (2, [.int (nI nD), .ref d1, .ref d2, .ref d3, .ref d4, .ref d5])), (d1, .inl (cI, 8, .inl (S.2.1 0))), (d2, .inl (cI, 8, .inl (S.2.1 1))), (t0, .inr (4, [.int (nI nT), .ref t1, .ref t2])), (t1, .inl (cI, 20, .inl (st 0))), (t2, .inl (cI, 20, .inl (st 1)))]) (wc' := [(h0, .inr (3, [.int (S.1 0), .int (S.1 1), .int (S.1 2), .int (S.1 5), .int (S.1 6), .int (S.1 3), .int (S.1 4), .ref d0, .ref k0])), (d0, .inr (2, [.int (nI nD), .ref d1, .ref d2, .ref d3, .ref d4, .ref d5])), (d1, .inl (cI, 8, .inl (S.2.1 0))), (d2, .inl (cI, 8, .inl (S.2.1 1))), (t0, .inr (4, [.int (nI nT), .ref t1, .ref t2])), (t1, .inl (cI, 20, .inl (st 0))), (t2, .inl (cI, 20, .inl (st 1)))]) (w' := [(h0, .inr (3, [.int (S.1 0), .int (S.1 1), .int (S.1 2), .int (S.1 5), .int (S.1 6), .int (S.1 3), .int (S.1 4), .ref d0, .ref k0])), (d0, .inr (2, [.int (nI nD), .ref d1, .ref d2, .ref d3, .ref d4, .ref d5])), (d1, .inl (cI, 8, .inl (S.2.1 0))), (d2, .inl (cI, 8, .inl (S.2.1 1))), (k0, .inr (0, [.int (nI S.2.2.1), .ref k1, .ref k2, .ref k3])), (k1, .inl (cI, 12, .inl (S.2.2.2 0))), (k2, .inl (cI, 12, .inl (S.2.2.2 1))), (k3, .inl (cI, 12, .inl (S.2.2.2 2))), (t0, .inr (4, [.int (nI nT), .ref t1, .ref t2])), (t1, .inl (cI, 20, .inl (st 0))), (t2, .inl (cI, 20, .inl (st 1))), (u0, .inr (1, [.int (nI nC), .ref u1, .ref u2, .ref u3, .ref u4]))]) hP hD hS hA [0, 1, 2, 3, 8, 9, 10] [4, 5, 6, 7, 11] [5, 6, 7, 8, 0, 1, 2, 3, 9, 10, 11, 4] rfl rfl rfl rfl rfl (va_runV (As := [.ref t0]) (rest := []) ⟨hx, hb, hml, hown, hts⟩ (tX3_starsSeen l D cI h0 d0 d1 d2 d3 d4 d5 k0 t0 t1 t2 nD nT S.1 S.2.1 st (by omega) (by omega) _) (cwV 1 hts gX3_fact_X3_starsSeen rfl rfl rfl hX3_starsSeen ⟨Nat.le_of_ble_eq_true rfl, Nat.le_of_ble_eq_true rfl⟩) (preV_of hk hP hD [0, 1, 2, 3, 8, 9, 10] rfl rfl (recvO hk hP (ci := 3) (q0 := 0) rfl rfl)) rfl rfl hl.1 rfl (lv_room (Nat.le_of_ble_eq_true rfl)) dX3_fact_115 ⟨Nat.le_of_ble_eq_true rfl, Nat.le_of_ble_eq_true rfl⟩) (fun H locs hP hD hS => ?_)
    exact retI hx hb hr hlocks hS hP hD dX3_fact_118 (by rw [fcN, if_neg e0, if_neg e1, if_neg e2, if_neg e3, if_neg e4, if_neg e5, if_neg e6, if_pos e7]) rfl
  by_cases e8 : x = 8
  · refine top_int e8 ?_
    refine lv_tableIn (off := 118) (tgt := 119) hx hb dX3_fact_1 (by decide) (by decide) (by decide) (by decide) ?_
    refine lv_aload_n hx hb dX3_fact_119 rfl (lv_at hl 0 rfl) ?_
    refine frI (wc := [(h0, .inr (3, [.int (S.1 0), .int (S.1 1), .int (S.1 2), .int (S.1 5), .int (S.1 6), .int (S.1 3), .int (S.1 4), .ref d0, .ref k0])), (d0, .inr (2, [.int (nI nD), .ref d1, .ref d2, .ref d3, .ref d4, .ref d5])), (d1, .inl (cI, 8, .inl (S.2.1 0))), (d2, .inl (cI, 8, .inl (S.2.1 1))), (k0, .inr (0, [.int (nI S.2.2.1), .ref k1, .ref k2, .ref k3])), (k1, .inl (cI, 12, .inl (S.2.2.2 0))), (k2, .inl (cI, 12, .inl (S.2.2.2 1))), (k3, .inl (cI, 12, .inl (S.2.2.2 2)))]) (wc' := [(h0, .inr (3, [.int (S.1 0), .int (S.1 1), .int (S.1 2), .int (S.1 5), .int (S.1 6), .int (S.1 3), .int (S.1 4), .ref d0, .ref k0])), (d0, .inr (2, [.int (nI nD), .ref d1, .ref d2, .ref d3, .ref d4, .ref d5])), (d1, .inl (cI, 8, .inl (S.2.1 0))), (d2, .inl (cI, 8, .inl (S.2.1 1))), (k0, .inr (0, [.int (nI S.2.2.1), .ref k1, .ref k2, .ref k3])), (k1, .inl (cI, 12, .inl (S.2.2.2 0))), (k2, .inl (cI, 12, .inl (S.2.2.2 1))), (k3, .inl (cI, 12, .inl (S.2.2.2 2)))]) (w' := [(h0, .inr (3, [.int (S.1 0), .int (S.1 1), .int (S.1 2), .int (S.1 5), .int (S.1 6), .int (S.1 3), .int (S.1 4), .ref d0, .ref k0])), (d0, .inr (2, [.int (nI nD), .ref d1, .ref d2, .ref d3, .ref d4, .ref d5])), (d1, .inl (cI, 8, .inl (S.2.1 0))), (d2, .inl (cI, 8, .inl (S.2.1 1))), (k0, .inr (0, [.int (nI S.2.2.1), .ref k1, .ref k2, .ref k3])), (k1, .inl (cI, 12, .inl (S.2.2.2 0))), (k2, .inl (cI, 12, .inl (S.2.2.2 1))), (k3, .inl (cI, 12, .inl (S.2.2.2 2))), (t0, .inr (4, [.int (nI nT), .ref t1, .ref t2])), (t1, .inl (cI, 20, .inl (st 0))), (t2, .inl (cI, 20, .inl (st 1))), (u0, .inr (1, [.int (nI nC), .ref u1, .ref u2, .ref u3, .ref u4]))]) hP hD hS hA [0, 1, 2, 3, 4, 5, 6, 7] [8, 9, 10, 11] [4, 5, 6, 7, 8, 9, 10, 11, 0, 1, 2, 3] rfl rfl rfl rfl rfl (va_runV (As := []) (rest := []) ⟨hx, hb, hml, hown, hts⟩ (tX3_cometsSeen l D cI h0 d0 d1 d2 d3 d4 d5 k0 k1 k2 k3 nD S.2.2.1 S.1 S.2.1 S.2.2.2 (by omega) (by omega) _) (cwV 0 hts gX3_fact_X3_cometsSeen rfl rfl rfl hX3_cometsSeen ⟨Nat.le_of_ble_eq_true rfl, Nat.le_of_ble_eq_true rfl⟩) (preV_of hk hP hD [0, 1, 2, 3, 4, 5, 6, 7] rfl rfl (recvO hk hP (ci := 3) (q0 := 0) rfl rfl)) rfl rfl hl.1 rfl (lv_room (Nat.le_of_ble_eq_true rfl)) dX3_fact_120 ⟨Nat.le_of_ble_eq_true rfl, Nat.le_of_ble_eq_true rfl⟩) (fun H locs hP hD hS => ?_)
    exact retI hx hb hr hlocks hS hP hD dX3_fact_123 (by rw [fcN, if_neg e0, if_neg e1, if_neg e2, if_neg e3, if_neg e4, if_neg e5, if_neg e6, if_neg e7, if_pos e8]) rfl
  by_cases e9 : x = 9
  · refine top_int e9 ?_
    refine lv_tableIn (off := 123) (tgt := 124) hx hb dX3_fact_1 (by decide) (by decide) (by decide) (by decide) ?_
    refine lv_aload_n hx hb dX3_fact_124 rfl (lv_at hl 0 rfl) ?_
    refine va_get (D := D) (ci := 3) (v := .int (S.1 3)) (C := RX3) (T := TX3) (N := 9) hx hb hts iX3_fact_X3 hown hk.1 hP 0 rfl rfl 5 (by decide) (hts _ mX3_fact_f9) (fun _ h9 => h9) rfl dX3_fact_125 ?_
    exact retI hx hb hr hlocks hS hP hD dX3_fact_128 (by rw [fcN, if_neg e0, if_neg e1, if_neg e2, if_neg e3, if_neg e4, if_neg e5, if_neg e6, if_neg e7, if_neg e8, if_pos e9]) rfl
  by_cases e10 : x = 10
  · refine top_int e10 ?_
    refine lv_tableIn (off := 128) (tgt := 129) hx hb dX3_fact_1 (by decide) (by decide) (by decide) (by decide) ?_
    refine lv_aload_n hx hb dX3_fact_129 rfl (lv_at hl 0 rfl) ?_
    refine va_get (D := D) (ci := 3) (v := .int (S.1 4)) (C := RX3) (T := TX3) (N := 9) hx hb hts iX3_fact_X3 hown hk.1 hP 0 rfl rfl 6 (by decide) (hts _ mX3_fact_f45) (fun _ h9 => h9) rfl dX3_fact_130 ?_
    exact retI hx hb hr hlocks hS hP hD dX3_fact_133 (by rw [fcN, if_neg e0, if_neg e1, if_neg e2, if_neg e3, if_neg e4, if_neg e5, if_neg e6, if_neg e7, if_neg e8, if_neg e9, if_pos e10]) rfl
  by_cases e11 : x = 11
  · refine top_int e11 ?_
    refine lv_tableIn (off := 133) (tgt := 134) hx hb dX3_fact_1 (by decide) (by decide) (by decide) (by decide) ?_
    refine lv_aload_n hx hb dX3_fact_134 rfl (lv_at hl 0 rfl) ?_
    refine va_get (D := D) (ci := 3) (v := .int (S.1 5)) (C := RX3) (T := TX3) (N := 9) hx hb hts iX3_fact_X3 hown hk.1 hP 0 rfl rfl 3 (by decide) (hts _ mX3_fact_f39) (fun _ h9 => h9) rfl dX3_fact_135 ?_
    exact retI hx hb hr hlocks hS hP hD dX3_fact_138 (by rw [fcN, if_neg e0, if_neg e1, if_neg e2, if_neg e3, if_neg e4, if_neg e5, if_neg e6, if_neg e7, if_neg e8, if_neg e9, if_neg e10, if_pos e11]) rfl
  refine lv_tableOut (tgt := 139) hx hb dX3_fact_1 (tsw12 e0 e1 e2 e3 e4 e5 e6 e7 e8 e9 e10 e11) (by decide) ?_
  refine lv_aload_n hx hb dX3_fact_139 rfl (lv_at hl 0 rfl) ?_
  refine va_get (D := D) (ci := 3) (v := .int (S.1 6)) (C := RX3) (T := TX3) (N := 9) hx hb hts iX3_fact_X3 hown hk.1 hP 0 rfl rfl 4 (by decide) (hts _ mX3_fact_f42) (fun _ h9 => h9) rfl dX3_fact_140 ?_
  exact retI hx hb hr hlocks hS hP hD dX3_fact_143 (by rw [fcN, if_neg e0, if_neg e1, if_neg e2, if_neg e3, if_neg e4, if_neg e5, if_neg e6, if_neg e7, if_neg e8, if_neg e9, if_neg e10, if_neg e11]) rfl
