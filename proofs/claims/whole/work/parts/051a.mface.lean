theorem mX6_thrown_f25 : (.fieldLink RX6 25 "StarConsoleModel" "thrown" "I" : Cond) ∈ wsX6_thrown := by decide +kernel
theorem iX6_thrown_X6 : ∀ w ∈ wsX60, w ∈ wsX6_thrown := by decide +kernel

theorem hX6_thrown : yX6_thrown.cls = RX6 ∧ yX6_thrown.cls ≠ "java/lang/invoke/MethodHandle" ∧ yX6_thrown.cls ≠ "java/lang/invoke/VarHandle" ∧ (parseMethodDescriptor yX6_thrown.desc).map (fun d => d.parameters.length) = some 0 := by decide +kernel
set_option maxHeartbeats 4000000 in
set_option maxRecDepth 100000 in
theorem tX6_thrown (l : Launch) (D : va_G) (cI : ClassId) (m0 m1 m2 m3 m4 m5 nD nT nC : Nat) (th : Int32)  : CI l yX6_thrown wsX6_thrown ({ frames := 0, cells := 0, slots := 0, locals := 0 } : Room) D cI ([.ref m0] : List Value) [(m0, .inr (6, [.int th, .int (nI nD), .int (nI nT), .int (nI nC), .ref m1, .ref m2, .ref m3, .ref m4, .ref m5]))] th [(m0, .inr (6, [.int th, .int (nI nD), .int (nI nT), .int (nI nC), .ref m1, .ref m2, .ref m3, .ref m4, .ref m5]))] := by
  refine entI (cc := cX6_thrown) (maxL := 1) (ret := (some .int)) (by decide) rfl (Nat.le_of_ble_eq_true rfl) (fun p e s m below meth c A ls fx hl => ?_)
  have fx0 := fx
  obtain ⟨hx, hb, hr, hml, hown, hts, hlocks, hk, hP, hD, hA⟩ := fx
  have hown : s.vm.findClass RX6 = some m.cls := hown
  have hS : va_S A s.heap s.heap [] := va_S.rf
  have hP : va_P D vwCl [(m0, .inr (6, [.int th, .int (nI nD), .int (nI nT), .int (nI nC), .ref m1, .ref m2, .ref m3, .ref m4, .ref m5]))] s.heap := hP
  have hD : va_D A [(m0, .inr (6, [.int th, .int (nI nD), .int (nI nT), .int (nI nC), .ref m1, .ref m2, .ref m3, .ref m4, .ref m5]))] := hD
  have hl : lv_has ls 1 [(0, .ref m0)] := hl
  refine lv_aload_n hx hb dX6_thrown_0 rfl (lv_at hl 0 rfl) ?_
  refine va_get (D := D) (ci := 6) (v := .int th) (C := RX6) (T := TX6) (N := 9) hx hb hts iX6_thrown_X6 hown hk.1 hP 0 rfl rfl 0 (by decide) (hts _ mX6_thrown_f25) (fun _ h9 => h9) rfl dX6_thrown_1 ?_
  exact retI hx hb hr hlocks hS hP hD dX6_thrown_4 (rfl) rfl

theorem mX6_lamp_f25 : (.fieldLink RX6 25 "StarConsoleModel" "thrown" "I" : Cond) ∈ wsX6_lamp := by decide +kernel
theorem iX6_lamp_X6 : ∀ w ∈ wsX60, w ∈ wsX6_lamp := by decide +kernel

theorem hX6_lamp : yX6_lamp.cls = RX6 ∧ yX6_lamp.cls ≠ "java/lang/invoke/MethodHandle" ∧ yX6_lamp.cls ≠ "java/lang/invoke/VarHandle" ∧ (parseMethodDescriptor yX6_lamp.desc).map (fun d => d.parameters.length) = some 2 := by decide +kernel
set_option maxHeartbeats 4000000 in
set_option maxRecDepth 100000 in
theorem tX6_lamp (l : Launch) (D : va_G) (cI : ClassId) (m0 m1 m2 m3 m4 m5 nD nT nC : Nat) (th : Int32) (g : Mx) (d x : Int32) (hn : nD ≤ 8) : CI l yX6_lamp wsX6_lamp ({ frames := 2, cells := 0, slots := 0, locals := 43 } : Room) D cI ([.ref m0, .int d, .int x] : List Value) [(m0, .inr (6, [.int th, .int (nI nD), .int (nI nT), .int (nI nC), .ref m1, .ref m2, .ref m3, .ref m4, .ref m5])), (m1, .inl (cI, 40, .inl (fl 5 g)))] (sel (kLamp nD d x) (g 4 (ix d)) 0) [(m0, .inr (6, [.int (kLamp nD d x), .int (nI nD), .int (nI nT), .int (nI nC), .ref m1, .ref m2, .ref m3, .ref m4, .ref m5])), (m1, .inl (cI, 40, .inl (fl 5 (sel (kLamp nD d x) (laF g (ix d) x) g))))] := by
  refine entI (cc := cX6_lamp) (maxL := 4) (ret := (some .int)) (by decide) rfl (Nat.le_of_ble_eq_true rfl) (fun p e s m below meth c A ls fx hl => ?_)
  have fx0 := fx
  obtain ⟨hx, hb, hr, hml, hown, hts, hlocks, hk, hP, hD, hA⟩ := fx
  have hown : s.vm.findClass RX6 = some m.cls := hown
  have hS : va_S A s.heap s.heap [] := va_S.rf
  have hP : va_P D vwCl [(m0, .inr (6, [.int th, .int (nI nD), .int (nI nT), .int (nI nC), .ref m1, .ref m2, .ref m3, .ref m4, .ref m5])), (m1, .inl (cI, 40, .inl (fl 5 g)))] s.heap := hP
  have hD : va_D A [(m0, .inr (6, [.int th, .int (nI nD), .int (nI nT), .int (nI nC), .ref m1, .ref m2, .ref m3, .ref m4, .ref m5])), (m1, .inl (cI, 40, .inl (fl 5 g)))] := hD
  have hl : lv_has ls 4 [(0, .ref m0), (1, .int d), (2, .int x)] := hl
  refine lv_aload_n hx hb dX6_lamp_0 rfl (lv_at hl 0 rfl) ?_
  refine lv_iconst (v := 0) hx hb dX6_lamp_1 (by decide) ?_
  refine va_put (D := D) (ci := 6) (v := .int 0) (ty := .int) (C := RX6) (T := TX6) (N := 9) hx hb hts iX6_lamp_X6 tyX6 tyX6_ok nmX6 hown hk.1 hP hD hS 0 rfl rfl 0 (by decide) (hts _ mX6_lamp_f25) (fun _ h9 => h9) rfl (by decide +kernel) rfl rfl (Nat.le_of_ble_eq_true rfl) dX6_lamp_2 (fun H locs hP hD hS => ?_)
  have hP : va_P D vwCl [(m0, .inr (6, [.int 0, .int (nI nD), .int (nI nT), .int (nI nC), .ref m1, .ref m2, .ref m3, .ref m4, .ref m5])), (m1, .inl (cI, 40, .inl (fl 5 g)))] H := hP
  have hD : va_D A [(m0, .inr (6, [.int 0, .int (nI nD), .int (nI nT), .int (nI nC), .ref m1, .ref m2, .ref m3, .ref m4, .ref m5])), (m1, .inl (cI, 40, .inl (fl 5 g)))] := hD
  refine lv_aload_n hx hb dX6_lamp_5 rfl (lv_at hl 0 rfl) ?_
  refine lv_iload_n hx hb dX6_lamp_6 rfl (lv_at hl 1 rfl) ?_
  refine frI (wc := [(m0, .inr (6, [.int 0, .int (nI nD), .int (nI nT), .int (nI nC), .ref m1, .ref m2, .ref m3, .ref m4, .ref m5]))]) (wc' := [(m0, .inr (6, [.int 0, .int (nI nD), .int (nI nT), .int (nI nC), .ref m1, .ref m2, .ref m3, .ref m4, .ref m5]))]) (w' := [(m0, .inr (6, [.int 0, .int (nI nD), .int (nI nT), .int (nI nC), .ref m1, .ref m2, .ref m3, .ref m4, .ref m5])), (m1, .inl (cI, 40, .inl (fl 5 g)))]) hP hD hS hA [0] [1] [1, 0] rfl rfl rfl rfl rfl (va_runV (As := [.int d]) (rest := []) ⟨hx, hb, hml, hown, hts⟩ (tX6_isDimmer l D cI m0 m1 m2 m3 m4 m5 nD nT nC 0 d (by omega) _) (cwV 1 hts gX6_lamp_X6_isDimmer rfl rfl rfl hX6_isDimmer ⟨Nat.le_of_ble_eq_true rfl, Nat.le_of_ble_eq_true rfl⟩) (preV_of hk hP hD [0] rfl rfl (recvO hk hP (ci := 6) (q0 := 0) rfl rfl)) rfl rfl hl.1 rfl (lv_room (Nat.le_of_ble_eq_true rfl)) dX6_lamp_7 ⟨Nat.le_of_ble_eq_true rfl, Nat.le_of_ble_eq_true rfl⟩) (fun H locs hP hD hS => ?_)
  refine lv_if_ne (tgt := 19) hx hb dX6_lamp_10 (by decide) (fun c10 => ?_) (fun c10 => ?_)
  · refine lv_iload_n hx hb dX6_lamp_19 rfl (lv_at hl 2 rfl) ?_
    refine lv_iconst (v := 0) hx hb dX6_lamp_20 (by decide) ?_
    refine lv_sipush (v := 9999) hx hb dX6_lamp_21 (by decide) ?_
    refine frI (wc := []) (wc' := []) (w' := [(m0, .inr (6, [.int 0, .int (nI nD), .int (nI nT), .int (nI nC), .ref m1, .ref m2, .ref m3, .ref m4, .ref m5])), (m1, .inl (cI, 40, .inl (fl 5 g)))]) hP hD hS hA [] [0, 1] [0, 1] rfl rfl rfl rfl rfl (va_runS (As := [.int x, .int 0, .int 9999]) (rest := []) ⟨hx, hb, hml, hown, hts⟩ (tX6_isIn l D cI x 0 9999  _) (va_cwS 3 hts gX6_lamp_X6_isIn rfl rfl rfl hX6_isIn.2 ⟨Nat.le_of_ble_eq_true rfl, Nat.le_of_ble_eq_true rfl⟩) (preS_of hk hP hD [] rfl rfl) rfl rfl hl.1 rfl (lv_room (Nat.le_of_ble_eq_true rfl)) dX6_lamp_24 ⟨Nat.le_of_ble_eq_true rfl, Nat.le_of_ble_eq_true rfl⟩) (fun H locs hP hD hS => ?_)
    refine lv_if_ne (tgt := 36) hx hb dX6_lamp_27 (by decide) (fun c27 => ?_) (fun c27 => ?_)
    · obtain ⟨j, hj, rfl⟩ := hasI_k c10
      rw [show kLamp nD (nI j) x = 0 from by rw [kLamp, if_neg c10, if_neg c27]]
      rw [ix_n (show j < 1000 by omega)]
      refine lv_aload_n hx hb dX6_lamp_36 rfl (lv_at hl 0 rfl) ?_
      refine lv_iload_n hx hb dX6_lamp_37 rfl (lv_at hl 1 rfl) ?_
      refine lv_iconst (v := 4) hx hb dX6_lamp_38 (by decide) ?_
      refine frI (wc := [(m0, .inr (6, [.int 0, .int (nI nD), .int (nI nT), .int (nI nC), .ref m1, .ref m2, .ref m3, .ref m4, .ref m5])), (m1, .inl (cI, 40, .inl (fl 5 g)))]) (wc' := [(m0, .inr (6, [.int 0, .int (nI nD), .int (nI nT), .int (nI nC), .ref m1, .ref m2, .ref m3, .ref m4, .ref m5])), (m1, .inl (cI, 40, .inl (fl 5 g)))]) (w' := [(m0, .inr (6, [.int 0, .int (nI nD), .int (nI nT), .int (nI nC), .ref m1, .ref m2, .ref m3, .ref m4, .ref m5])), (m1, .inl (cI, 40, .inl (fl 5 g)))]) hP hD hS hA [0, 1] [] [0, 1] rfl rfl rfl rfl rfl (va_runV (As := [.int (nI j), .int 4]) (rest := []) ⟨hx, hb, hml, hown, hts⟩ (tX6_la l D cI m0 m1 m2 m3 m4 m5 nD nT nC 0 g j 4 (by omega) (by omega) _) (cwV 2 hts gX6_lamp_X6_la rfl rfl rfl hX6_la ⟨Nat.le_of_ble_eq_true rfl, Nat.le_of_ble_eq_true rfl⟩) (preV_of hk hP hD [0, 1] rfl rfl (recvO hk hP (ci := 6) (q0 := 0) rfl rfl)) rfl rfl hl.1 rfl (lv_room (Nat.le_of_ble_eq_true rfl)) dX6_lamp_39 ⟨Nat.le_of_ble_eq_true rfl, Nat.le_of_ble_eq_true rfl⟩) (fun H locs hP hD hS => ?_)
      refine lv_istore_n (lv' := [(3, .int (g 4 j)), (0, .ref m0), (1, .int (nI j)), (2, .int x)]) hx hb dX6_lamp_42 rfl hl (by decide) rfl (fun ls hl => ?_)
      refine lv_aload_n hx hb dX6_lamp_43 rfl (lv_at hl 1 rfl) ?_
      refine lv_iload_n hx hb dX6_lamp_44 rfl (lv_at hl 2 rfl) ?_
      refine lv_iconst (v := 4) hx hb dX6_lamp_45 (by decide) ?_
      refine lv_iload_n hx hb dX6_lamp_46 rfl (lv_at hl 3 rfl) ?_
      refine frV (wc := [(m0, .inr (6, [.int 0, .int (nI nD), .int (nI nT), .int (nI nC), .ref m1, .ref m2, .ref m3, .ref m4, .ref m5])), (m1, .inl (cI, 40, .inl (fl 5 g)))]) (wc' := [(m0, .inr (6, [.int 0, .int (nI nD), .int (nI nT), .int (nI nC), .ref m1, .ref m2, .ref m3, .ref m4, .ref m5])), (m1, .inl (cI, 40, .inl (fl 5 (um g 4 j x))))]) (w' := [(m0, .inr (6, [.int 0, .int (nI nD), .int (nI nT), .int (nI nC), .ref m1, .ref m2, .ref m3, .ref m4, .ref m5])), (m1, .inl (cI, 40, .inl (fl 5 (um g 4 j x))))]) hP hD hS hA [0, 1] [] [0, 1] rfl rfl rfl rfl rfl (va_runV (As := [.int (nI j), .int 4, .int x]) (rest := []) ⟨hx, hb, hml, hown, hts⟩ (tX6_put l D cI m0 m1 m2 m3 m4 m5 nD nT nC 0 g j 4 x (by omega) (by omega) _) (cwV 3 hts gX6_lamp_X6_put rfl rfl rfl hX6_put ⟨Nat.le_of_ble_eq_true rfl, Nat.le_of_ble_eq_true rfl⟩) (preV_of hk hP hD [0, 1] rfl rfl (recvO hk hP (ci := 6) (q0 := 0) rfl rfl)) rfl rfl hl.1 rfl (lv_room (Nat.le_of_ble_eq_true rfl)) dX6_lamp_47 ⟨Nat.le_of_ble_eq_true rfl, Nat.le_of_ble_eq_true rfl⟩) (fun H locs hP hD hS => ?_)
      refine lv_iload_n hx hb dX6_lamp_50 rfl (lv_at hl 3 rfl) ?_
      refine lv_if_ne (tgt := 61) hx hb dX6_lamp_51 (by decide) (fun c51 => ?_) (fun c51 => ?_)
      · rw [show laF g j x = um g 4 j x from if_neg c51]
        refine lv_iload_n hx hb dX6_lamp_61 rfl (lv_at hl 0 rfl) ?_
        exact retI hx hb hr hlocks hS hP hD dX6_lamp_62 (rfl) rfl
      · refine lv_aload_n hx hb dX6_lamp_54 rfl (lv_at hl 1 rfl) ?_
        refine lv_iload_n hx hb dX6_lamp_55 rfl (lv_at hl 2 rfl) ?_
        refine lv_iconst (v := 1) hx hb dX6_lamp_56 (by decide) ?_
        refine lv_iconst (v := 0) hx hb dX6_lamp_57 (by decide) ?_
        refine frV (wc := [(m0, .inr (6, [.int 0, .int (nI nD), .int (nI nT), .int (nI nC), .ref m1, .ref m2, .ref m3, .ref m4, .ref m5])), (m1, .inl (cI, 40, .inl (fl 5 (um g 4 j x))))]) (wc' := [(m0, .inr (6, [.int 0, .int (nI nD), .int (nI nT), .int (nI nC), .ref m1, .ref m2, .ref m3, .ref m4, .ref m5])), (m1, .inl (cI, 40, .inl (fl 5 (um (um g 4 j x) 1 j 0))))]) (w' := [(m0, .inr (6, [.int 0, .int (nI nD), .int (nI nT), .int (nI nC), .ref m1, .ref m2, .ref m3, .ref m4, .ref m5])), (m1, .inl (cI, 40, .inl (fl 5 (um (um g 4 j x) 1 j 0))))]) hP hD hS hA [0, 1] [] [0, 1] rfl rfl rfl rfl rfl (va_runV (As := [.int (nI j), .int 1, .int 0]) (rest := []) ⟨hx, hb, hml, hown, hts⟩ (tX6_put l D cI m0 m1 m2 m3 m4 m5 nD nT nC 0 (um g 4 j x) j 1 0 (by omega) (by omega) _) (cwV 3 hts gX6_lamp_X6_put rfl rfl rfl hX6_put ⟨Nat.le_of_ble_eq_true rfl, Nat.le_of_ble_eq_true rfl⟩) (preV_of hk hP hD [0, 1] rfl rfl (recvO hk hP (ci := 6) (q0 := 0) rfl rfl)) rfl rfl hl.1 rfl (lv_room (Nat.le_of_ble_eq_true rfl)) dX6_lamp_58 ⟨Nat.le_of_ble_eq_true rfl, Nat.le_of_ble_eq_true rfl⟩) (fun H locs hP hD hS => ?_)
        rw [show laF g j x = um (um g 4 j x) 1 j 0 from if_pos c51]
        refine lv_iload_n hx hb dX6_lamp_61 rfl (lv_at hl 0 rfl) ?_
        exact retI hx hb hr hlocks hS hP hD dX6_lamp_62 (rfl) rfl
    · rw [show kLamp nD d x = 2 from by rw [kLamp, if_neg c10, if_pos c27]]
      refine lv_aload_n hx hb dX6_lamp_30 rfl (lv_at hl 0 rfl) ?_
      refine lv_iconst (v := 2) hx hb dX6_lamp_31 (by decide) ?_
      refine frI (wc := [(m0, .inr (6, [.int 0, .int (nI nD), .int (nI nT), .int (nI nC), .ref m1, .ref m2, .ref m3, .ref m4, .ref m5]))]) (wc' := [(m0, .inr (6, [.int 2, .int (nI nD), .int (nI nT), .int (nI nC), .ref m1, .ref m2, .ref m3, .ref m4, .ref m5]))]) (w' := [(m0, .inr (6, [.int 2, .int (nI nD), .int (nI nT), .int (nI nC), .ref m1, .ref m2, .ref m3, .ref m4, .ref m5])), (m1, .inl (cI, 40, .inl (fl 5 g)))]) hP hD hS hA [0] [1] [1, 0] rfl rfl rfl rfl rfl (va_runV (As := [.int 2]) (rest := []) ⟨hx, hb, hml, hown, hts⟩ (tX6_fail l D cI m0 m1 m2 m3 m4 m5 nD nT nC 0 2  _) (cwV 1 hts gX6_lamp_X6_fail rfl rfl rfl hX6_fail ⟨Nat.le_of_ble_eq_true rfl, Nat.le_of_ble_eq_true rfl⟩) (preV_of hk hP hD [0] rfl rfl (recvO hk hP (ci := 6) (q0 := 0) rfl rfl)) rfl rfl hl.1 rfl (lv_room (Nat.le_of_ble_eq_true rfl)) dX6_lamp_32 ⟨Nat.le_of_ble_eq_true rfl, Nat.le_of_ble_eq_true rfl⟩) (fun H locs hP hD hS => ?_)
      exact retI hx hb hr hlocks hS hP hD dX6_lamp_35 (rfl) rfl
  · rw [show kLamp nD d x = 1 from by rw [kLamp, if_pos c10]]
    refine lv_aload_n hx hb dX6_lamp_13 rfl (lv_at hl 0 rfl) ?_
    refine lv_iconst (v := 1) hx hb dX6_lamp_14 (by decide) ?_
    refine frI (wc := [(m0, .inr (6, [.int 0, .int (nI nD), .int (nI nT), .int (nI nC), .ref m1, .ref m2, .ref m3, .ref m4, .ref m5]))]) (wc' := [(m0, .inr (6, [.int 1, .int (nI nD), .int (nI nT), .int (nI nC), .ref m1, .ref m2, .ref m3, .ref m4, .ref m5]))]) (w' := [(m0, .inr (6, [.int 1, .int (nI nD), .int (nI nT), .int (nI nC), .ref m1, .ref m2, .ref m3, .ref m4, .ref m5])), (m1, .inl (cI, 40, .inl (fl 5 g)))]) hP hD hS hA [0] [1] [1, 0] rfl rfl rfl rfl rfl (va_runV (As := [.int 1]) (rest := []) ⟨hx, hb, hml, hown, hts⟩ (tX6_fail l D cI m0 m1 m2 m3 m4 m5 nD nT nC 0 1  _) (cwV 1 hts gX6_lamp_X6_fail rfl rfl rfl hX6_fail ⟨Nat.le_of_ble_eq_true rfl, Nat.le_of_ble_eq_true rfl⟩) (preV_of hk hP hD [0] rfl rfl (recvO hk hP (ci := 6) (q0 := 0) rfl rfl)) rfl rfl hl.1 rfl (lv_room (Nat.le_of_ble_eq_true rfl)) dX6_lamp_15 ⟨Nat.le_of_ble_eq_true rfl, Nat.le_of_ble_eq_true rfl⟩) (fun H locs hP hD hS => ?_)
    exact retI hx hb hr hlocks hS hP hD dX6_lamp_18 (rfl) rfl

theorem mX6_star_f25 : (.fieldLink RX6 25 "StarConsoleModel" "thrown" "I" : Cond) ∈ wsX6_star := by decide +kernel
theorem iX6_star_X6 : ∀ w ∈ wsX60, w ∈ wsX6_star := by decide +kernel
theorem mX6_star_f58 : (.fieldLink RX6 58 "StarConsoleModel" "stars" "I" : Cond) ∈ wsX6_star := by decide +kernel
theorem mX6_star_f13 : (.fieldLink RX6 13 "StarConsoleModel" "sky" "[I" : Cond) ∈ wsX6_star := by decide +kernel

theorem hX6_star : yX6_star.cls = RX6 ∧ yX6_star.cls ≠ "java/lang/invoke/MethodHandle" ∧ yX6_star.cls ≠ "java/lang/invoke/VarHandle" ∧ (parseMethodDescriptor yX6_star.desc).map (fun d => d.parameters.length) = some 2 := by decide +kernel
set_option maxHeartbeats 4000000 in
set_option maxRecDepth 100000 in
theorem tX6_star (l : Launch) (D : va_G) (cI : ClassId) (m0 m1 m2 m3 m4 m5 nD nT nC : Nat) (th : Int32) (st : Mx) (a b : Int32) (hT : nT ≤ 20) : CI l yX6_star wsX6_star ({ frames := 1, cells := 0, slots := 0, locals := 22 } : Room) D cI ([.ref m0, .int a, .int b] : List Value) [(m0, .inr (6, [.int th, .int (nI nD), .int (nI nT), .int (nI nC), .ref m1, .ref m2, .ref m3, .ref m4, .ref m5])), (m2, .inl (cI, 40, .inl (fl 2 st)))] (sel (kStar nT a b) (nI nT) 0) [(m0, .inr (6, [.int (kStar nT a b), .int (nI nD), .int (nI (sel (kStar nT a b) (nT + 1) nT)), .int (nI nC), .ref m1, .ref m2, .ref m3, .ref m4, .ref m5])), (m2, .inl (cI, 40, .inl (fl 2 (sel (kStar nT a b) (sAdd st nT a b) st))))] := by
  refine entI (cc := cX6_star) (maxL := 3) (ret := (some .int)) (by decide) rfl (Nat.le_of_ble_eq_true rfl) (fun p e s m below meth c A ls fx hl => ?_)
  have fx0 := fx
  obtain ⟨hx, hb, hr, hml, hown, hts, hlocks, hk, hP, hD, hA⟩ := fx
  have hown : s.vm.findClass RX6 = some m.cls := hown
  have hS : va_S A s.heap s.heap [] := va_S.rf
  have hP : va_P D vwCl [(m0, .inr (6, [.int th, .int (nI nD), .int (nI nT), .int (nI nC), .ref m1, .ref m2, .ref m3, .ref m4, .ref m5])), (m2, .inl (cI, 40, .inl (fl 2 st)))] s.heap := hP
  have hD : va_D A [(m0, .inr (6, [.int th, .int (nI nD), .int (nI nT), .int (nI nC), .ref m1, .ref m2, .ref m3, .ref m4, .ref m5])), (m2, .inl (cI, 40, .inl (fl 2 st)))] := hD
  have hl : lv_has ls 3 [(0, .ref m0), (1, .int a), (2, .int b)] := hl
  refine lv_aload_n hx hb dX6_star_0 rfl (lv_at hl 0 rfl) ?_
  refine lv_iconst (v := 0) hx hb dX6_star_1 (by decide) ?_
  refine va_put (D := D) (ci := 6) (v := .int 0) (ty := .int) (C := RX6) (T := TX6) (N := 9) hx hb hts iX6_star_X6 tyX6 tyX6_ok nmX6 hown hk.1 hP hD hS 0 rfl rfl 0 (by decide) (hts _ mX6_star_f25) (fun _ h9 => h9) rfl (by decide +kernel) rfl rfl (Nat.le_of_ble_eq_true rfl) dX6_star_2 (fun H locs hP hD hS => ?_)
  have hP : va_P D vwCl [(m0, .inr (6, [.int 0, .int (nI nD), .int (nI nT), .int (nI nC), .ref m1, .ref m2, .ref m3, .ref m4, .ref m5])), (m2, .inl (cI, 40, .inl (fl 2 st)))] H := hP
  have hD : va_D A [(m0, .inr (6, [.int 0, .int (nI nD), .int (nI nT), .int (nI nC), .ref m1, .ref m2, .ref m3, .ref m4, .ref m5])), (m2, .inl (cI, 40, .inl (fl 2 st)))] := hD
  refine lv_iload_n hx hb dX6_star_5 rfl (lv_at hl 1 rfl) ?_
  refine lv_iconst (v := 0) hx hb dX6_star_6 (by decide) ?_
  refine lv_sipush (v := 359) hx hb dX6_star_7 (by decide) ?_
  refine frI (wc := []) (wc' := []) (w' := [(m0, .inr (6, [.int 0, .int (nI nD), .int (nI nT), .int (nI nC), .ref m1, .ref m2, .ref m3, .ref m4, .ref m5])), (m2, .inl (cI, 40, .inl (fl 2 st)))]) hP hD hS hA [] [0, 1] [0, 1] rfl rfl rfl rfl rfl (va_runS (As := [.int a, .int 0, .int 359]) (rest := []) ⟨hx, hb, hml, hown, hts⟩ (tX6_isIn l D cI a 0 359  _) (va_cwS 3 hts gX6_star_X6_isIn rfl rfl rfl hX6_isIn.2 ⟨Nat.le_of_ble_eq_true rfl, Nat.le_of_ble_eq_true rfl⟩) (preS_of hk hP hD [] rfl rfl) rfl rfl hl.1 rfl (lv_room (Nat.le_of_ble_eq_true rfl)) dX6_star_10 ⟨Nat.le_of_ble_eq_true rfl, Nat.le_of_ble_eq_true rfl⟩) (fun H locs hP hD hS => ?_)
  refine lv_if_eq (tgt := 26) hx hb dX6_star_13 (by decide) (fun c13 => ?_) (fun c13 => ?_)
  · rw [show kStar nT a b = 1 from by rw [kStar, if_pos c13]]
    refine lv_aload_n hx hb dX6_star_26 rfl (lv_at hl 0 rfl) ?_
    refine lv_iconst (v := 1) hx hb dX6_star_27 (by decide) ?_
    refine frI (wc := [(m0, .inr (6, [.int 0, .int (nI nD), .int (nI nT), .int (nI nC), .ref m1, .ref m2, .ref m3, .ref m4, .ref m5]))]) (wc' := [(m0, .inr (6, [.int 1, .int (nI nD), .int (nI nT), .int (nI nC), .ref m1, .ref m2, .ref m3, .ref m4, .ref m5]))]) (w' := [(m0, .inr (6, [.int 1, .int (nI nD), .int (nI nT), .int (nI nC), .ref m1, .ref m2, .ref m3, .ref m4, .ref m5])), (m2, .inl (cI, 40, .inl (fl 2 st)))]) hP hD hS hA [0] [1] [1, 0] rfl rfl rfl rfl rfl (va_runV (As := [.int 1]) (rest := []) ⟨hx, hb, hml, hown, hts⟩ (tX6_fail l D cI m0 m1 m2 m3 m4 m5 nD nT nC 0 1  _) (cwV 1 hts gX6_star_X6_fail rfl rfl rfl hX6_fail ⟨Nat.le_of_ble_eq_true rfl, Nat.le_of_ble_eq_true rfl⟩) (preV_of hk hP hD [0] rfl rfl (recvO hk hP (ci := 6) (q0 := 0) rfl rfl)) rfl rfl hl.1 rfl (lv_room (Nat.le_of_ble_eq_true rfl)) dX6_star_28 ⟨Nat.le_of_ble_eq_true rfl, Nat.le_of_ble_eq_true rfl⟩) (fun H locs hP hD hS => ?_)
    exact retI hx hb hr hlocks hS hP hD dX6_star_31 (rfl) rfl
  · refine lv_iload_n hx hb dX6_star_16 rfl (lv_at hl 2 rfl) ?_
    refine lv_iconst (v := 1) hx hb dX6_star_17 (by decide) ?_
    refine lv_bipush (v := 9) hx hb dX6_star_18 (by decide) ?_
    refine frI (wc := []) (wc' := []) (w' := [(m0, .inr (6, [.int 0, .int (nI nD), .int (nI nT), .int (nI nC), .ref m1, .ref m2, .ref m3, .ref m4, .ref m5])), (m2, .inl (cI, 40, .inl (fl 2 st)))]) hP hD hS hA [] [0, 1] [0, 1] rfl rfl rfl rfl rfl (va_runS (As := [.int b, .int 1, .int 9]) (rest := []) ⟨hx, hb, hml, hown, hts⟩ (tX6_isIn l D cI b 1 9  _) (va_cwS 3 hts gX6_star_X6_isIn rfl rfl rfl hX6_isIn.2 ⟨Nat.le_of_ble_eq_true rfl, Nat.le_of_ble_eq_true rfl⟩) (preS_of hk hP hD [] rfl rfl) rfl rfl hl.1 rfl (lv_room (Nat.le_of_ble_eq_true rfl)) dX6_star_20 ⟨Nat.le_of_ble_eq_true rfl, Nat.le_of_ble_eq_true rfl⟩) (fun H locs hP hD hS => ?_)
    refine lv_if_ne (tgt := 32) hx hb dX6_star_23 (by decide) (fun c23 => ?_) (fun c23 => ?_)
    · refine lv_aload_n hx hb dX6_star_32 rfl (lv_at hl 0 rfl) ?_
      refine va_get (D := D) (ci := 6) (v := .int (nI nT)) (C := RX6) (T := TX6) (N := 9) hx hb hts iX6_star_X6 hown hk.1 hP 0 rfl rfl 2 (by decide) (hts _ mX6_star_f58) (fun _ h9 => h9) rfl dX6_star_33 ?_
      refine lv_bipush (v := 20) hx hb dX6_star_36 (by decide) ?_
      refine icneN (i := nT) (n := 20) (tgt := 47) hx hb (by omega) (by omega) dX6_star_38 (by decide) (fun c38 => ?_) (fun c38 => ?_)
      · rw [show kStar nT a b = 0 from by rw [kStar, if_neg c13, if_neg c23, if_neg (by omega)]]
        refine lv_aload_n hx hb dX6_star_47 rfl (lv_at hl 0 rfl) ?_
        refine va_get (D := D) (ci := 6) (v := .ref m2) (C := RX6) (T := TX6) (N := 9) hx hb hts iX6_star_X6 hown hk.1 hP 0 rfl rfl 5 (by decide) (hts _ mX6_star_f13) (fun _ h9 => h9) rfl dX6_star_48 ?_
        refine lv_iconst (v := 2) hx hb dX6_star_51 (by decide) ?_
        refine lv_aload_n hx hb dX6_star_52 rfl (lv_at hl 0 rfl) ?_
        refine va_get (D := D) (ci := 6) (v := .int (nI nT)) (C := RX6) (T := TX6) (N := 9) hx hb hts iX6_star_X6 hown hk.1 hP 0 rfl rfl 2 (by decide) (hts _ mX6_star_f58) (fun _ h9 => h9) rfl dX6_star_53 ?_
        refine lv_imul hx hb dX6_star_56 ?_
        refine top_int (nmulE (a := 2) (b := nT) rfl rfl) ?_
        refine lv_iload_n hx hb dX6_star_57 rfl (lv_at hl 1 rfl) ?_
        refine astN hx hb hk hP hD hS 1 rfl (2 * nT) rfl (by omega) (Nat.le_of_ble_eq_true rfl) dX6_star_58 (fun H locs hP hD hS => ?_)
        rw [fl_w0 (b := 2) (d := nT) (by omega)] at hP hD
        have hP : va_P D vwCl [(m0, .inr (6, [.int 0, .int (nI nD), .int (nI nT), .int (nI nC), .ref m1, .ref m2, .ref m3, .ref m4, .ref m5])), (m2, .inl (cI, 40, .inl (fl 2 (um st 0 nT a))))] H := hP
        have hD : va_D A [(m0, .inr (6, [.int 0, .int (nI nD), .int (nI nT), .int (nI nC), .ref m1, .ref m2, .ref m3, .ref m4, .ref m5])), (m2, .inl (cI, 40, .inl (fl 2 (um st 0 nT a))))] := hD
        refine lv_aload_n hx hb dX6_star_59 rfl (lv_at hl 0 rfl) ?_
        refine va_get (D := D) (ci := 6) (v := .ref m2) (C := RX6) (T := TX6) (N := 9) hx hb hts iX6_star_X6 hown hk.1 hP 0 rfl rfl 5 (by decide) (hts _ mX6_star_f13) (fun _ h9 => h9) rfl dX6_star_60 ?_
        refine lv_iconst (v := 2) hx hb dX6_star_63 (by decide) ?_
        refine lv_aload_n hx hb dX6_star_64 rfl (lv_at hl 0 rfl) ?_
        refine va_get (D := D) (ci := 6) (v := .int (nI nT)) (C := RX6) (T := TX6) (N := 9) hx hb hts iX6_star_X6 hown hk.1 hP 0 rfl rfl 2 (by decide) (hts _ mX6_star_f58) (fun _ h9 => h9) rfl dX6_star_65 ?_
        refine lv_imul hx hb dX6_star_68 ?_
        refine top_int (nmulE (a := 2) (b := nT) rfl rfl) ?_
        refine lv_iconst (v := 1) hx hb dX6_star_69 (by decide) ?_
        refine lv_iadd hx hb dX6_star_70 ?_
        refine top_int (naddE (a := 2 * nT) (b := 1) rfl rfl) ?_
        refine lv_iload_n hx hb dX6_star_71 rfl (lv_at hl 2 rfl) ?_
        refine astN hx hb hk hP hD hS 1 rfl ((2 * nT) + 1) rfl (by omega) (Nat.le_of_ble_eq_true rfl) dX6_star_72 (fun H locs hP hD hS => ?_)
        rw [fl_w (b := 2) (d := nT) (w := 1) (by omega)] at hP hD
        have hP : va_P D vwCl [(m0, .inr (6, [.int 0, .int (nI nD), .int (nI nT), .int (nI nC), .ref m1, .ref m2, .ref m3, .ref m4, .ref m5])), (m2, .inl (cI, 40, .inl (fl 2 (um (um st 0 nT a) 1 nT b))))] H := hP
        have hD : va_D A [(m0, .inr (6, [.int 0, .int (nI nD), .int (nI nT), .int (nI nC), .ref m1, .ref m2, .ref m3, .ref m4, .ref m5])), (m2, .inl (cI, 40, .inl (fl 2 (um (um st 0 nT a) 1 nT b))))] := hD
        refine lv_aload_n hx hb dX6_star_73 rfl (lv_at hl 0 rfl) ?_
        refine lv_dup hx hb dX6_star_74 rfl ?_
        refine va_get (D := D) (ci := 6) (v := .int (nI nT)) (C := RX6) (T := TX6) (N := 9) hx hb hts iX6_star_X6 hown hk.1 hP 0 rfl rfl 2 (by decide) (hts _ mX6_star_f58) (fun _ h9 => h9) rfl dX6_star_75 ?_
        refine lv_iconst (v := 1) hx hb dX6_star_78 (by decide) ?_
        refine lv_iadd hx hb dX6_star_79 ?_
        refine top_int (naddE (a := nT) (b := 1) rfl rfl) ?_
        refine va_put (D := D) (ci := 6) (v := .int (nI (nT + 1))) (ty := .int) (C := RX6) (T := TX6) (N := 9) hx hb hts iX6_star_X6 tyX6 tyX6_ok nmX6 hown hk.1 hP hD hS 0 rfl rfl 2 (by decide) (hts _ mX6_star_f58) (fun _ h9 => h9) rfl (by decide +kernel) rfl rfl (Nat.le_of_ble_eq_true rfl) dX6_star_80 (fun H locs hP hD hS => ?_)
        have hP : va_P D vwCl [(m0, .inr (6, [.int 0, .int (nI nD), .int (nI (nT + 1)), .int (nI nC), .ref m1, .ref m2, .ref m3, .ref m4, .ref m5])), (m2, .inl (cI, 40, .inl (fl 2 (um (um st 0 nT a) 1 nT b))))] H := hP
        have hD : va_D A [(m0, .inr (6, [.int 0, .int (nI nD), .int (nI (nT + 1)), .int (nI nC), .ref m1, .ref m2, .ref m3, .ref m4, .ref m5])), (m2, .inl (cI, 40, .inl (fl 2 (um (um st 0 nT a) 1 nT b))))] := hD
        refine lv_aload_n hx hb dX6_star_83 rfl (lv_at hl 0 rfl) ?_
        refine va_get (D := D) (ci := 6) (v := .int (nI (nT + 1))) (C := RX6) (T := TX6) (N := 9) hx hb hts iX6_star_X6 hown hk.1 hP 0 rfl rfl 2 (by decide) (hts _ mX6_star_f58) (fun _ h9 => h9) rfl dX6_star_84 ?_
        refine lv_iconst (v := 1) hx hb dX6_star_87 (by decide) ?_
        refine lv_isub hx hb dX6_star_88 ?_
        refine top_int (show nI (nT + 1) - 1 = nI nT from nI_pred nT) ?_
        exact retI hx hb hr hlocks hS hP hD dX6_star_89 (rfl) rfl
      · rw [show kStar nT a b = 2 from by rw [kStar, if_neg c13, if_neg c23, if_pos (by omega)]]
        refine lv_aload_n hx hb dX6_star_41 rfl (lv_at hl 0 rfl) ?_
        refine lv_iconst (v := 2) hx hb dX6_star_42 (by decide) ?_
        refine frI (wc := [(m0, .inr (6, [.int 0, .int (nI nD), .int (nI nT), .int (nI nC), .ref m1, .ref m2, .ref m3, .ref m4, .ref m5]))]) (wc' := [(m0, .inr (6, [.int 2, .int (nI nD), .int (nI nT), .int (nI nC), .ref m1, .ref m2, .ref m3, .ref m4, .ref m5]))]) (w' := [(m0, .inr (6, [.int 2, .int (nI nD), .int (nI nT), .int (nI nC), .ref m1, .ref m2, .ref m3, .ref m4, .ref m5])), (m2, .inl (cI, 40, .inl (fl 2 st)))]) hP hD hS hA [0] [1] [1, 0] rfl rfl rfl rfl rfl (va_runV (As := [.int 2]) (rest := []) ⟨hx, hb, hml, hown, hts⟩ (tX6_fail l D cI m0 m1 m2 m3 m4 m5 nD nT nC 0 2  _) (cwV 1 hts gX6_star_X6_fail rfl rfl rfl hX6_fail ⟨Nat.le_of_ble_eq_true rfl, Nat.le_of_ble_eq_true rfl⟩) (preV_of hk hP hD [0] rfl rfl (recvO hk hP (ci := 6) (q0 := 0) rfl rfl)) rfl rfl hl.1 rfl (lv_room (Nat.le_of_ble_eq_true rfl)) dX6_star_43 ⟨Nat.le_of_ble_eq_true rfl, Nat.le_of_ble_eq_true rfl⟩) (fun H locs hP hD hS => ?_)
        exact retI hx hb hr hlocks hS hP hD dX6_star_46 (rfl) rfl
    · rw [show kStar nT a b = 1 from by rw [kStar, if_neg c13, if_pos c23]]
      refine lv_aload_n hx hb dX6_star_26 rfl (lv_at hl 0 rfl) ?_
      refine lv_iconst (v := 1) hx hb dX6_star_27 (by decide) ?_
      refine frI (wc := [(m0, .inr (6, [.int 0, .int (nI nD), .int (nI nT), .int (nI nC), .ref m1, .ref m2, .ref m3, .ref m4, .ref m5]))]) (wc' := [(m0, .inr (6, [.int 1, .int (nI nD), .int (nI nT), .int (nI nC), .ref m1, .ref m2, .ref m3, .ref m4, .ref m5]))]) (w' := [(m0, .inr (6, [.int 1, .int (nI nD), .int (nI nT), .int (nI nC), .ref m1, .ref m2, .ref m3, .ref m4, .ref m5])), (m2, .inl (cI, 40, .inl (fl 2 st)))]) hP hD hS hA [0] [1] [1, 0] rfl rfl rfl rfl rfl (va_runV (As := [.int 1]) (rest := []) ⟨hx, hb, hml, hown, hts⟩ (tX6_fail l D cI m0 m1 m2 m3 m4 m5 nD nT nC 0 1  _) (cwV 1 hts gX6_star_X6_fail rfl rfl rfl hX6_fail ⟨Nat.le_of_ble_eq_true rfl, Nat.le_of_ble_eq_true rfl⟩) (preV_of hk hP hD [0] rfl rfl (recvO hk hP (ci := 6) (q0 := 0) rfl rfl)) rfl rfl hl.1 rfl (lv_room (Nat.le_of_ble_eq_true rfl)) dX6_star_28 ⟨Nat.le_of_ble_eq_true rfl, Nat.le_of_ble_eq_true rfl⟩) (fun H locs hP hD hS => ?_)
      exact retI hx hb hr hlocks hS hP hD dX6_star_31 (rfl) rfl



theorem hX6_isCue : yX6_isCue.cls = RX6 ∧ yX6_isCue.cls ≠ "java/lang/invoke/MethodHandle" ∧ yX6_isCue.cls ≠ "java/lang/invoke/VarHandle" ∧ (parseMethodDescriptor yX6_isCue.desc).map (fun d => d.parameters.length) = some 3 := by decide +kernel
set_option maxHeartbeats 4000000 in
set_option maxRecDepth 100000 in
theorem tX6_isCue (l : Launch) (D : va_G) (cI : ClassId) (m0 m1 m2 m3 m4 m5 nD nT nC : Nat) (th : Int32) (kd a b : Int32) (hn : nD ≤ 8) : CI l yX6_isCue wsX6_isCue ({ frames := 2, cells := 0, slots := 0, locals := 43 } : Room) D cI ([.ref m0, .int kd, .int a, .int b] : List Value) [(m0, .inr (6, [.int th, .int (nI nD), .int (nI nT), .int (nI nC), .ref m1, .ref m2, .ref m3, .ref m4, .ref m5]))] (suI nD kd a b) [(m0, .inr (6, [.int th, .int (nI nD), .int (nI nT), .int (nI nC), .ref m1, .ref m2, .ref m3, .ref m4, .ref m5]))] := by
  refine entI (cc := cX6_isCue) (maxL := 4) (ret := (some .boolean)) (by decide) rfl (Nat.le_of_ble_eq_true rfl) (fun p e s m below meth c A ls fx hl => ?_)
  have fx0 := fx
  obtain ⟨hx, hb, hr, hml, hown, hts, hlocks, hk, hP, hD, hA⟩ := fx
  have hown : s.vm.findClass RX6 = some m.cls := hown
  have hS : va_S A s.heap s.heap [] := va_S.rf
  have hP : va_P D vwCl [(m0, .inr (6, [.int th, .int (nI nD), .int (nI nT), .int (nI nC), .ref m1, .ref m2, .ref m3, .ref m4, .ref m5]))] s.heap := hP
  have hD : va_D A [(m0, .inr (6, [.int th, .int (nI nD), .int (nI nT), .int (nI nC), .ref m1, .ref m2, .ref m3, .ref m4, .ref m5]))] := hD
  have hl : lv_has ls 4 [(0, .ref m0), (1, .int kd), (2, .int a), (3, .int b)] := hl
  refine lv_iload_n hx hb dX6_isCue_0 rfl (lv_at hl 1 rfl) ?_
  by_cases e0 : kd = 0
  · refine top_int e0 ?_
    refine lv_tableIn (off := 35) (tgt := 36) hx hb dX6_isCue_1 (by decide) (by decide) (by decide) (by decide) ?_
    refine lv_aload_n hx hb dX6_isCue_36 rfl (lv_at hl 0 rfl) ?_
    refine lv_iload_n hx hb dX6_isCue_37 rfl (lv_at hl 2 rfl) ?_
    refine frI (wc := [(m0, .inr (6, [.int th, .int (nI nD), .int (nI nT), .int (nI nC), .ref m1, .ref m2, .ref m3, .ref m4, .ref m5]))]) (wc' := [(m0, .inr (6, [.int th, .int (nI nD), .int (nI nT), .int (nI nC), .ref m1, .ref m2, .ref m3, .ref m4, .ref m5]))]) (w' := [(m0, .inr (6, [.int th, .int (nI nD), .int (nI nT), .int (nI nC), .ref m1, .ref m2, .ref m3, .ref m4, .ref m5]))]) hP hD hS hA [0] [] [0] rfl rfl rfl rfl rfl (va_runV (As := [.int a]) (rest := []) ⟨hx, hb, hml, hown, hts⟩ (tX6_isDimmer l D cI m0 m1 m2 m3 m4 m5 nD nT nC th a (by omega) _) (cwV 1 hts gX6_isCue_X6_isDimmer rfl rfl rfl hX6_isDimmer ⟨Nat.le_of_ble_eq_true rfl, Nat.le_of_ble_eq_true rfl⟩) (preV_of hk hP hD [0] rfl rfl (recvO hk hP (ci := 6) (q0 := 0) rfl rfl)) rfl rfl hl.1 rfl (lv_room (Nat.le_of_ble_eq_true rfl)) dX6_isCue_38 ⟨Nat.le_of_ble_eq_true rfl, Nat.le_of_ble_eq_true rfl⟩) (fun H locs hP hD hS => ?_)
    refine lv_if_eq (tgt := 58) hx hb dX6_isCue_41 (by decide) (fun c41 => ?_) (fun c41 => ?_)
    · refine lv_iconst (v := 0) hx hb dX6_isCue_58 (by decide) ?_
      exact retI hx hb hr hlocks hS hP hD dX6_isCue_59 (by rw [suI, if_pos e0, if_pos c41]) rfl
    · refine lv_iload_n hx hb dX6_isCue_44 rfl (lv_at hl 3 rfl) ?_
      refine lv_iconst (v := 0) hx hb dX6_isCue_45 (by decide) ?_
      refine lv_bipush (v := 100) hx hb dX6_isCue_46 (by decide) ?_
      refine frI (wc := []) (wc' := []) (w' := [(m0, .inr (6, [.int th, .int (nI nD), .int (nI nT), .int (nI nC), .ref m1, .ref m2, .ref m3, .ref m4, .ref m5]))]) hP hD hS hA [] [0] [0] rfl rfl rfl rfl rfl (va_runS (As := [.int b, .int 0, .int 100]) (rest := []) ⟨hx, hb, hml, hown, hts⟩ (tX6_isIn l D cI b 0 100  _) (va_cwS 3 hts gX6_isCue_X6_isIn rfl rfl rfl hX6_isIn.2 ⟨Nat.le_of_ble_eq_true rfl, Nat.le_of_ble_eq_true rfl⟩) (preS_of hk hP hD [] rfl rfl) rfl rfl hl.1 rfl (lv_room (Nat.le_of_ble_eq_true rfl)) dX6_isCue_48 ⟨Nat.le_of_ble_eq_true rfl, Nat.le_of_ble_eq_true rfl⟩) (fun H locs hP hD hS => ?_)
      refine lv_if_eq (tgt := 58) hx hb dX6_isCue_51 (by decide) (fun c51 => ?_) (fun c51 => ?_)
      · refine lv_iconst (v := 0) hx hb dX6_isCue_58 (by decide) ?_
        exact retI hx hb hr hlocks hS hP hD dX6_isCue_59 (by rw [suI, if_pos e0, if_neg c41, if_pos c51]) rfl
      · refine lv_iconst (v := 1) hx hb dX6_isCue_54 (by decide) ?_
        refine lv_goto (tgt := 59) hx hb dX6_isCue_55 (by decide) ?_
        exact retI hx hb hr hlocks hS hP hD dX6_isCue_59 (by rw [suI, if_pos e0, if_neg c41, if_neg c51]) rfl
  by_cases e1 : kd = 1
  · refine top_int e1 ?_
    refine lv_tableIn (off := 59) (tgt := 60) hx hb dX6_isCue_1 (by decide) (by decide) (by decide) (by decide) ?_
    refine lv_iload_n hx hb dX6_isCue_60 rfl (lv_at hl 2 rfl) ?_
    refine lv_if_ne (tgt := 79) hx hb dX6_isCue_61 (by decide) (fun c61 => ?_) (fun c61 => ?_)
    · refine lv_iconst (v := 0) hx hb dX6_isCue_79 (by decide) ?_
      exact retI hx hb hr hlocks hS hP hD dX6_isCue_80 (by rw [suI, if_neg e0, if_pos e1, if_neg c61]) rfl
    · refine lv_iload_n hx hb dX6_isCue_64 rfl (lv_at hl 3 rfl) ?_
      refine lv_bipush (v := (-30)) hx hb dX6_isCue_65 (by decide) ?_
      refine lv_bipush (v := 30) hx hb dX6_isCue_67 (by decide) ?_
      refine frI (wc := []) (wc' := []) (w' := [(m0, .inr (6, [.int th, .int (nI nD), .int (nI nT), .int (nI nC), .ref m1, .ref m2, .ref m3, .ref m4, .ref m5]))]) hP hD hS hA [] [0] [0] rfl rfl rfl rfl rfl (va_runS (As := [.int b, .int (-30), .int 30]) (rest := []) ⟨hx, hb, hml, hown, hts⟩ (tX6_isIn l D cI b ((-30)) 30  _) (va_cwS 3 hts gX6_isCue_X6_isIn rfl rfl rfl hX6_isIn.2 ⟨Nat.le_of_ble_eq_true rfl, Nat.le_of_ble_eq_true rfl⟩) (preS_of hk hP hD [] rfl rfl) rfl rfl hl.1 rfl (lv_room (Nat.le_of_ble_eq_true rfl)) dX6_isCue_69 ⟨Nat.le_of_ble_eq_true rfl, Nat.le_of_ble_eq_true rfl⟩) (fun H locs hP hD hS => ?_)
      refine lv_if_eq (tgt := 79) hx hb dX6_isCue_72 (by decide) (fun c72 => ?_) (fun c72 => ?_)
      · refine lv_iconst (v := 0) hx hb dX6_isCue_79 (by decide) ?_
        exact retI hx hb hr hlocks hS hP hD dX6_isCue_80 (by rw [suI, if_neg e0, if_pos e1, if_pos c61, if_pos c72]) rfl
      · refine lv_iconst (v := 1) hx hb dX6_isCue_75 (by decide) ?_
        refine lv_goto (tgt := 80) hx hb dX6_isCue_76 (by decide) ?_
        exact retI hx hb hr hlocks hS hP hD dX6_isCue_80 (by rw [suI, if_neg e0, if_pos e1, if_pos c61, if_neg c72]) rfl
  by_cases e2 : kd = 2
  · refine top_int e2 ?_
    refine lv_tableIn (off := 80) (tgt := 81) hx hb dX6_isCue_1 (by decide) (by decide) (by decide) (by decide) ?_
    refine lv_iload_n hx hb dX6_isCue_81 rfl (lv_at hl 2 rfl) ?_
    refine lv_iconst (v := 0) hx hb dX6_isCue_82 (by decide) ?_
    refine lv_sipush (v := 359) hx hb dX6_isCue_83 (by decide) ?_
    refine frI (wc := []) (wc' := []) (w' := [(m0, .inr (6, [.int th, .int (nI nD), .int (nI nT), .int (nI nC), .ref m1, .ref m2, .ref m3, .ref m4, .ref m5]))]) hP hD hS hA [] [0] [0] rfl rfl rfl rfl rfl (va_runS (As := [.int a, .int 0, .int 359]) (rest := []) ⟨hx, hb, hml, hown, hts⟩ (tX6_isIn l D cI a 0 359  _) (va_cwS 3 hts gX6_isCue_X6_isIn rfl rfl rfl hX6_isIn.2 ⟨Nat.le_of_ble_eq_true rfl, Nat.le_of_ble_eq_true rfl⟩) (preS_of hk hP hD [] rfl rfl) rfl rfl hl.1 rfl (lv_room (Nat.le_of_ble_eq_true rfl)) dX6_isCue_86 ⟨Nat.le_of_ble_eq_true rfl, Nat.le_of_ble_eq_true rfl⟩) (fun H locs hP hD hS => ?_)
    refine lv_if_eq (tgt := 107) hx hb dX6_isCue_89 (by decide) (fun c89 => ?_) (fun c89 => ?_)
    · refine lv_iconst (v := 0) hx hb dX6_isCue_107 (by decide) ?_
      exact retI hx hb hr hlocks hS hP hD dX6_isCue_108 (by rw [suI, if_neg e0, if_neg e1, if_pos e2, if_pos c89]) rfl
    · refine lv_iload_n hx hb dX6_isCue_92 rfl (lv_at hl 3 rfl) ?_
      refine lv_bipush (v := (-20)) hx hb dX6_isCue_93 (by decide) ?_
      refine lv_bipush (v := 20) hx hb dX6_isCue_95 (by decide) ?_
      refine frI (wc := []) (wc' := []) (w' := [(m0, .inr (6, [.int th, .int (nI nD), .int (nI nT), .int (nI nC), .ref m1, .ref m2, .ref m3, .ref m4, .ref m5]))]) hP hD hS hA [] [0] [0] rfl rfl rfl rfl rfl (va_runS (As := [.int b, .int (-20), .int 20]) (rest := []) ⟨hx, hb, hml, hown, hts⟩ (tX6_isIn l D cI b ((-20)) 20  _) (va_cwS 3 hts gX6_isCue_X6_isIn rfl rfl rfl hX6_isIn.2 ⟨Nat.le_of_ble_eq_true rfl, Nat.le_of_ble_eq_true rfl⟩) (preS_of hk hP hD [] rfl rfl) rfl rfl hl.1 rfl (lv_room (Nat.le_of_ble_eq_true rfl)) dX6_isCue_97 ⟨Nat.le_of_ble_eq_true rfl, Nat.le_of_ble_eq_true rfl⟩) (fun H locs hP hD hS => ?_)
      refine lv_if_eq (tgt := 107) hx hb dX6_isCue_100 (by decide) (fun c100 => ?_) (fun c100 => ?_)
      · refine lv_iconst (v := 0) hx hb dX6_isCue_107 (by decide) ?_
        exact retI hx hb hr hlocks hS hP hD dX6_isCue_108 (by rw [suI, if_neg e0, if_neg e1, if_pos e2, if_neg c89, if_pos c100]) rfl
      · refine lv_iconst (v := 1) hx hb dX6_isCue_103 (by decide) ?_
        refine lv_goto (tgt := 108) hx hb dX6_isCue_104 (by decide) ?_
        exact retI hx hb hr hlocks hS hP hD dX6_isCue_108 (by rw [suI, if_neg e0, if_neg e1, if_pos e2, if_neg c89, if_neg c100]) rfl
  by_cases e3 : kd = 3
  · refine top_int e3 ?_
    refine lv_tableIn (off := 108) (tgt := 109) hx hb dX6_isCue_1 (by decide) (by decide) (by decide) (by decide) ?_
    refine lv_iload_n hx hb dX6_isCue_109 rfl (lv_at hl 2 rfl) ?_
    refine lv_iconst (v := 0) hx hb dX6_isCue_110 (by decide) ?_
    refine lv_bipush (v := 99) hx hb dX6_isCue_111 (by decide) ?_
    refine frI (wc := []) (wc' := []) (w' := [(m0, .inr (6, [.int th, .int (nI nD), .int (nI nT), .int (nI nC), .ref m1, .ref m2, .ref m3, .ref m4, .ref m5]))]) hP hD hS hA [] [0] [0] rfl rfl rfl rfl rfl (va_runS (As := [.int a, .int 0, .int 99]) (rest := []) ⟨hx, hb, hml, hown, hts⟩ (tX6_isIn l D cI a 0 99  _) (va_cwS 3 hts gX6_isCue_X6_isIn rfl rfl rfl hX6_isIn.2 ⟨Nat.le_of_ble_eq_true rfl, Nat.le_of_ble_eq_true rfl⟩) (preS_of hk hP hD [] rfl rfl) rfl rfl hl.1 rfl (lv_room (Nat.le_of_ble_eq_true rfl)) dX6_isCue_113 ⟨Nat.le_of_ble_eq_true rfl, Nat.le_of_ble_eq_true rfl⟩) (fun H locs hP hD hS => ?_)
    refine lv_if_eq (tgt := 133) hx hb dX6_isCue_116 (by decide) (fun c116 => ?_) (fun c116 => ?_)
    · refine lv_iconst (v := 0) hx hb dX6_isCue_133 (by decide) ?_
      exact retI hx hb hr hlocks hS hP hD dX6_isCue_134 (by rw [suI, if_neg e0, if_neg e1, if_neg e2, if_pos e3, if_pos c116]) rfl
    · refine lv_iload_n hx hb dX6_isCue_119 rfl (lv_at hl 3 rfl) ?_
      refine lv_iconst (v := 1) hx hb dX6_isCue_120 (by decide) ?_
      refine lv_bipush (v := 60) hx hb dX6_isCue_121 (by decide) ?_
      refine frI (wc := []) (wc' := []) (w' := [(m0, .inr (6, [.int th, .int (nI nD), .int (nI nT), .int (nI nC), .ref m1, .ref m2, .ref m3, .ref m4, .ref m5]))]) hP hD hS hA [] [0] [0] rfl rfl rfl rfl rfl (va_runS (As := [.int b, .int 1, .int 60]) (rest := []) ⟨hx, hb, hml, hown, hts⟩ (tX6_isIn l D cI b 1 60  _) (va_cwS 3 hts gX6_isCue_X6_isIn rfl rfl rfl hX6_isIn.2 ⟨Nat.le_of_ble_eq_true rfl, Nat.le_of_ble_eq_true rfl⟩) (preS_of hk hP hD [] rfl rfl) rfl rfl hl.1 rfl (lv_room (Nat.le_of_ble_eq_true rfl)) dX6_isCue_123 ⟨Nat.le_of_ble_eq_true rfl, Nat.le_of_ble_eq_true rfl⟩) (fun H locs hP hD hS => ?_)
      refine lv_if_eq (tgt := 133) hx hb dX6_isCue_126 (by decide) (fun c126 => ?_) (fun c126 => ?_)
      · refine lv_iconst (v := 0) hx hb dX6_isCue_133 (by decide) ?_
        exact retI hx hb hr hlocks hS hP hD dX6_isCue_134 (by rw [suI, if_neg e0, if_neg e1, if_neg e2, if_pos e3, if_neg c116, if_pos c126]) rfl
      · refine lv_iconst (v := 1) hx hb dX6_isCue_129 (by decide) ?_
        refine lv_goto (tgt := 134) hx hb dX6_isCue_130 (by decide) ?_
        exact retI hx hb hr hlocks hS hP hD dX6_isCue_134 (by rw [suI, if_neg e0, if_neg e1, if_neg e2, if_pos e3, if_neg c116, if_neg c126]) rfl
  by_cases e4 : kd = 4
  · refine top_int e4 ?_
    refine lv_tableIn (off := 134) (tgt := 135) hx hb dX6_isCue_1 (by decide) (by decide) (by decide) (by decide) ?_
    refine lv_iload_n hx hb dX6_isCue_135 rfl (lv_at hl 2 rfl) ?_
    refine lv_if_ne (tgt := 147) hx hb dX6_isCue_136 (by decide) (fun c136 => ?_) (fun c136 => ?_)
    · refine lv_iconst (v := 0) hx hb dX6_isCue_147 (by decide) ?_
      exact retI hx hb hr hlocks hS hP hD dX6_isCue_148 (by rw [suI, if_neg e0, if_neg e1, if_neg e2, if_neg e3, if_pos e4, if_neg c136]) rfl
    · refine lv_iload_n hx hb dX6_isCue_139 rfl (lv_at hl 3 rfl) ?_
      refine lv_if_ne (tgt := 147) hx hb dX6_isCue_140 (by decide) (fun c140 => ?_) (fun c140 => ?_)
      · refine lv_iconst (v := 0) hx hb dX6_isCue_147 (by decide) ?_
        exact retI hx hb hr hlocks hS hP hD dX6_isCue_148 (by rw [suI, if_neg e0, if_neg e1, if_neg e2, if_neg e3, if_pos e4, if_pos c136, if_neg c140]) rfl
      · refine lv_iconst (v := 1) hx hb dX6_isCue_143 (by decide) ?_
        refine lv_goto (tgt := 148) hx hb dX6_isCue_144 (by decide) ?_
        exact retI hx hb hr hlocks hS hP hD dX6_isCue_148 (by rw [suI, if_neg e0, if_neg e1, if_neg e2, if_neg e3, if_pos e4, if_pos c136, if_pos c140]) rfl
  refine lv_tableOut (tgt := 149) hx hb dX6_isCue_1 (tsw5 e0 e1 e2 e3 e4) (by decide) ?_
  refine lv_iconst (v := 0) hx hb dX6_isCue_149 (by decide) ?_
  exact retI hx hb hr hlocks hS hP hD dX6_isCue_150 (by rw [suI, if_neg e0, if_neg e1, if_neg e2, if_neg e3, if_neg e4]) rfl

theorem mX6_run_f25 : (.fieldLink RX6 25 "StarConsoleModel" "thrown" "I" : Cond) ∈ wsX6_run := by decide +kernel
theorem iX6_run_X6 : ∀ w ∈ wsX60, w ∈ wsX6_run := by decide +kernel
theorem mX6_run_f22 : (.fieldLink RX6 22 "StarConsoleModel" "numbers" "[I" : Cond) ∈ wsX6_run := by decide +kernel

theorem hX6_run : yX6_run.cls = RX6 ∧ yX6_run.cls ≠ "java/lang/invoke/MethodHandle" ∧ yX6_run.cls ≠ "java/lang/invoke/VarHandle" ∧ (parseMethodDescriptor yX6_run.desc).map (fun d => d.parameters.length) = some 0 := by decide +kernel
set_option maxHeartbeats 4000000 in
set_option maxRecDepth 100000 in
theorem tX6_run (l : Launch) (D : va_G) (cI : ClassId) (m0 m1 m2 m3 m4 m5 nD nT nC : Nat) (th : Int32) (nu : Nat → Int32) (nK : Nat) (hB : nu 2 = 0 ∨ nu 2 = 1) : CI l yX6_run wsX6_run ({ frames := 0, cells := 0, slots := 0, locals := 0 } : Room) D cI ([.ref m0] : List Value) [(m0, .inr (6, [.int th, .int (nI nD), .int (nI nT), .int (nI nC), .ref m1, .ref m2, .ref m3, .ref m4, .ref m5])), (m5, .inl (cI, 8, .inl (numA nu nK)))] (swI (nu 2)) [(m0, .inr (6, [.int 0, .int (nI nD), .int (nI nT), .int (nI nC), .ref m1, .ref m2, .ref m3, .ref m4, .ref m5])), (m5, .inl (cI, 8, .inl (numA (un nu 2 (swI (nu 2))) nK)))] := by
  refine entI (cc := cX6_run) (maxL := 1) (ret := (some .boolean)) (by decide) rfl (Nat.le_of_ble_eq_true rfl) (fun p e s m below meth c A ls fx hl => ?_)
  have fx0 := fx
  obtain ⟨hx, hb, hr, hml, hown, hts, hlocks, hk, hP, hD, hA⟩ := fx
  have hown : s.vm.findClass RX6 = some m.cls := hown
  have hS : va_S A s.heap s.heap [] := va_S.rf
  have hP : va_P D vwCl [(m0, .inr (6, [.int th, .int (nI nD), .int (nI nT), .int (nI nC), .ref m1, .ref m2, .ref m3, .ref m4, .ref m5])), (m5, .inl (cI, 8, .inl (numA nu nK)))] s.heap := hP
  have hD : va_D A [(m0, .inr (6, [.int th, .int (nI nD), .int (nI nT), .int (nI nC), .ref m1, .ref m2, .ref m3, .ref m4, .ref m5])), (m5, .inl (cI, 8, .inl (numA nu nK)))] := hD
  have hl : lv_has ls 1 [(0, .ref m0)] := hl
  refine lv_aload_n hx hb dX6_run_0 rfl (lv_at hl 0 rfl) ?_
  refine lv_iconst (v := 0) hx hb dX6_run_1 (by decide) ?_
  refine va_put (D := D) (ci := 6) (v := .int 0) (ty := .int) (C := RX6) (T := TX6) (N := 9) hx hb hts iX6_run_X6 tyX6 tyX6_ok nmX6 hown hk.1 hP hD hS 0 rfl rfl 0 (by decide) (hts _ mX6_run_f25) (fun _ h9 => h9) rfl (by decide +kernel) rfl rfl (Nat.le_of_ble_eq_true rfl) dX6_run_2 (fun H locs hP hD hS => ?_)
  have hP : va_P D vwCl [(m0, .inr (6, [.int 0, .int (nI nD), .int (nI nT), .int (nI nC), .ref m1, .ref m2, .ref m3, .ref m4, .ref m5])), (m5, .inl (cI, 8, .inl (numA nu nK)))] H := hP
  have hD : va_D A [(m0, .inr (6, [.int 0, .int (nI nD), .int (nI nT), .int (nI nC), .ref m1, .ref m2, .ref m3, .ref m4, .ref m5])), (m5, .inl (cI, 8, .inl (numA nu nK)))] := hD
  refine lv_aload_n hx hb dX6_run_5 rfl (lv_at hl 0 rfl) ?_
  refine va_get (D := D) (ci := 6) (v := .ref m5) (C := RX6) (T := TX6) (N := 9) hx hb hts iX6_run_X6 hown hk.1 hP 0 rfl rfl 8 (by decide) (hts _ mX6_run_f22) (fun _ h9 => h9) rfl dX6_run_6 ?_
  refine lv_iconst (v := 2) hx hb dX6_run_9 (by decide) ?_
  refine lv_iconst (v := 1) hx hb dX6_run_10 (by decide) ?_
  refine lv_aload_n hx hb dX6_run_11 rfl (lv_at hl 0 rfl) ?_
  refine va_get (D := D) (ci := 6) (v := .ref m5) (C := RX6) (T := TX6) (N := 9) hx hb hts iX6_run_X6 hown hk.1 hP 0 rfl rfl 8 (by decide) (hts _ mX6_run_f22) (fun _ h9 => h9) rfl dX6_run_12 ?_
  refine lv_iconst (v := 2) hx hb dX6_run_15 (by decide) ?_
  refine aldN hx hb hk hP 1 rfl 2 rfl (by omega) (Nat.le_of_ble_eq_true rfl) dX6_run_16 ?_
  refine top_int (show _ = (nu 2 : Int32) from rfl) ?_
  refine lv_isub hx hb dX6_run_17 ?_
  refine top_int (show _ = swI (nu 2) from by rcases hB with h | h <;> rw [h] <;> rfl) ?_
  refine astN hx hb hk hP hD hS 1 rfl 2 rfl (by omega) (Nat.le_of_ble_eq_true rfl) dX6_run_18 (fun H locs hP hD hS => ?_)
  rw [nu_w (k := 2) rfl] at hP hD
  have hP : va_P D vwCl [(m0, .inr (6, [.int 0, .int (nI nD), .int (nI nT), .int (nI nC), .ref m1, .ref m2, .ref m3, .ref m4, .ref m5])), (m5, .inl (cI, 8, .inl (numA (un nu 2 (swI (nu 2))) nK)))] H := hP
  have hD : va_D A [(m0, .inr (6, [.int 0, .int (nI nD), .int (nI nT), .int (nI nC), .ref m1, .ref m2, .ref m3, .ref m4, .ref m5])), (m5, .inl (cI, 8, .inl (numA (un nu 2 (swI (nu 2))) nK)))] := hD
  refine lv_aload_n hx hb dX6_run_19 rfl (lv_at hl 0 rfl) ?_
  refine va_get (D := D) (ci := 6) (v := .ref m5) (C := RX6) (T := TX6) (N := 9) hx hb hts iX6_run_X6 hown hk.1 hP 0 rfl rfl 8 (by decide) (hts _ mX6_run_f22) (fun _ h9 => h9) rfl dX6_run_20 ?_
  refine lv_iconst (v := 2) hx hb dX6_run_23 (by decide) ?_
  refine aldN hx hb hk hP 1 rfl 2 rfl (by omega) (Nat.le_of_ble_eq_true rfl) dX6_run_24 ?_
  refine top_int (show _ = ((un nu 2 (swI (nu 2))) 2 : Int32) from rfl) ?_
  refine lv_iconst (v := 1) hx hb dX6_run_25 (by decide) ?_
  refine lv_icmp_ne (tgt := 33) hx hb dX6_run_26 (by decide) (fun c26 => ?_) (fun c26 => ?_)
  · refine lv_iconst (v := 0) hx hb dX6_run_33 (by decide) ?_
    exact retI hx hb hr hlocks hS hP hD dX6_run_34 (by rcases hB with h | h <;> rw [h] at c26 ⊢ <;> first | rfl | exact absurd rfl c26) rfl
  · refine lv_iconst (v := 1) hx hb dX6_run_29 (by decide) ?_
    refine lv_goto (tgt := 34) hx hb dX6_run_30 (by decide) ?_
    exact retI hx hb hr hlocks hS hP hD dX6_run_34 (c26.symm) rfl

theorem mX6_jump_f25 : (.fieldLink RX6 25 "StarConsoleModel" "thrown" "I" : Cond) ∈ wsX6_jump := by decide +kernel
theorem iX6_jump_X6 : ∀ w ∈ wsX60, w ∈ wsX6_jump := by decide +kernel
theorem mX6_jump_f22 : (.fieldLink RX6 22 "StarConsoleModel" "numbers" "[I" : Cond) ∈ wsX6_jump := by decide +kernel

theorem hX6_jump : yX6_jump.cls = RX6 ∧ yX6_jump.cls ≠ "java/lang/invoke/MethodHandle" ∧ yX6_jump.cls ≠ "java/lang/invoke/VarHandle" ∧ (parseMethodDescriptor yX6_jump.desc).map (fun d => d.parameters.length) = some 1 := by decide +kernel
set_option maxHeartbeats 4000000 in
set_option maxRecDepth 100000 in
theorem tX6_jump (l : Launch) (D : va_G) (cI : ClassId) (m0 m1 m2 m3 m4 m5 nD nT nC : Nat) (th : Int32) (nu : Nat → Int32) (nK : Nat) (ti : Int32)  : CI l yX6_jump wsX6_jump ({ frames := 1, cells := 0, slots := 0, locals := 22 } : Room) D cI ([.ref m0, .int ti] : List Value) [(m0, .inr (6, [.int th, .int (nI nD), .int (nI nT), .int (nI nC), .ref m1, .ref m2, .ref m3, .ref m4, .ref m5])), (m5, .inl (cI, 8, .inl (numA nu nK)))] (sel (kJump ti) (nu 1) 0) [(m0, .inr (6, [.int (kJump ti), .int (nI nD), .int (nI nT), .int (nI nC), .ref m1, .ref m2, .ref m3, .ref m4, .ref m5])), (m5, .inl (cI, 8, .inl (numA (sel (kJump ti) (un nu 1 ti) nu) nK)))] := by
  refine entI (cc := cX6_jump) (maxL := 3) (ret := (some .int)) (by decide) rfl (Nat.le_of_ble_eq_true rfl) (fun p e s m below meth c A ls fx hl => ?_)
  have fx0 := fx
  obtain ⟨hx, hb, hr, hml, hown, hts, hlocks, hk, hP, hD, hA⟩ := fx
  have hown : s.vm.findClass RX6 = some m.cls := hown
  have hS : va_S A s.heap s.heap [] := va_S.rf
  have hP : va_P D vwCl [(m0, .inr (6, [.int th, .int (nI nD), .int (nI nT), .int (nI nC), .ref m1, .ref m2, .ref m3, .ref m4, .ref m5])), (m5, .inl (cI, 8, .inl (numA nu nK)))] s.heap := hP
  have hD : va_D A [(m0, .inr (6, [.int th, .int (nI nD), .int (nI nT), .int (nI nC), .ref m1, .ref m2, .ref m3, .ref m4, .ref m5])), (m5, .inl (cI, 8, .inl (numA nu nK)))] := hD
  have hl : lv_has ls 3 [(0, .ref m0), (1, .int ti)] := hl
  refine lv_aload_n hx hb dX6_jump_0 rfl (lv_at hl 0 rfl) ?_
  refine lv_iconst (v := 0) hx hb dX6_jump_1 (by decide) ?_
  refine va_put (D := D) (ci := 6) (v := .int 0) (ty := .int) (C := RX6) (T := TX6) (N := 9) hx hb hts iX6_jump_X6 tyX6 tyX6_ok nmX6 hown hk.1 hP hD hS 0 rfl rfl 0 (by decide) (hts _ mX6_jump_f25) (fun _ h9 => h9) rfl (by decide +kernel) rfl rfl (Nat.le_of_ble_eq_true rfl) dX6_jump_2 (fun H locs hP hD hS => ?_)
  have hP : va_P D vwCl [(m0, .inr (6, [.int 0, .int (nI nD), .int (nI nT), .int (nI nC), .ref m1, .ref m2, .ref m3, .ref m4, .ref m5])), (m5, .inl (cI, 8, .inl (numA nu nK)))] H := hP
  have hD : va_D A [(m0, .inr (6, [.int 0, .int (nI nD), .int (nI nT), .int (nI nC), .ref m1, .ref m2, .ref m3, .ref m4, .ref m5])), (m5, .inl (cI, 8, .inl (numA nu nK)))] := hD
  refine lv_iload_n hx hb dX6_jump_5 rfl (lv_at hl 1 rfl) ?_
  refine lv_iconst (v := 0) hx hb dX6_jump_6 (by decide) ?_
  refine lv_sipush (v := 1000) hx hb dX6_jump_7 (by decide) ?_
  refine frI (wc := []) (wc' := []) (w' := [(m0, .inr (6, [.int 0, .int (nI nD), .int (nI nT), .int (nI nC), .ref m1, .ref m2, .ref m3, .ref m4, .ref m5])), (m5, .inl (cI, 8, .inl (numA nu nK)))]) hP hD hS hA [] [0, 1] [0, 1] rfl rfl rfl rfl rfl (va_runS (As := [.int ti, .int 0, .int 1000]) (rest := []) ⟨hx, hb, hml, hown, hts⟩ (tX6_isIn l D cI ti 0 1000  _) (va_cwS 3 hts gX6_jump_X6_isIn rfl rfl rfl hX6_isIn.2 ⟨Nat.le_of_ble_eq_true rfl, Nat.le_of_ble_eq_true rfl⟩) (preS_of hk hP hD [] rfl rfl) rfl rfl hl.1 rfl (lv_room (Nat.le_of_ble_eq_true rfl)) dX6_jump_10 ⟨Nat.le_of_ble_eq_true rfl, Nat.le_of_ble_eq_true rfl⟩) (fun H locs hP hD hS => ?_)
  refine lv_if_ne (tgt := 22) hx hb dX6_jump_13 (by decide) (fun c13 => ?_) (fun c13 => ?_)
  · rw [show kJump ti = 0 from by rw [kJump, if_neg c13]]
    refine lv_aload_n hx hb dX6_jump_22 rfl (lv_at hl 0 rfl) ?_
    refine va_get (D := D) (ci := 6) (v := .ref m5) (C := RX6) (T := TX6) (N := 9) hx hb hts iX6_jump_X6 hown hk.1 hP 0 rfl rfl 8 (by decide) (hts _ mX6_jump_f22) (fun _ h9 => h9) rfl dX6_jump_23 ?_
    refine lv_iconst (v := 1) hx hb dX6_jump_26 (by decide) ?_
    refine aldN hx hb hk hP 1 rfl 1 rfl (by omega) (Nat.le_of_ble_eq_true rfl) dX6_jump_27 ?_
    refine top_int (show _ = (nu 1 : Int32) from rfl) ?_
    refine lv_istore_n (lv' := [(2, .int (nu 1)), (0, .ref m0), (1, .int ti)]) hx hb dX6_jump_28 rfl hl (by decide) rfl (fun ls hl => ?_)
    refine lv_aload_n hx hb dX6_jump_29 rfl (lv_at hl 1 rfl) ?_
    refine va_get (D := D) (ci := 6) (v := .ref m5) (C := RX6) (T := TX6) (N := 9) hx hb hts iX6_jump_X6 hown hk.1 hP 0 rfl rfl 8 (by decide) (hts _ mX6_jump_f22) (fun _ h9 => h9) rfl dX6_jump_30 ?_
    refine lv_iconst (v := 1) hx hb dX6_jump_33 (by decide) ?_
    refine lv_iload_n hx hb dX6_jump_34 rfl (lv_at hl 2 rfl) ?_
    refine astN hx hb hk hP hD hS 1 rfl 1 rfl (by omega) (Nat.le_of_ble_eq_true rfl) dX6_jump_35 (fun H locs hP hD hS => ?_)
    rw [nu_w (k := 1) rfl] at hP hD
    have hP : va_P D vwCl [(m0, .inr (6, [.int 0, .int (nI nD), .int (nI nT), .int (nI nC), .ref m1, .ref m2, .ref m3, .ref m4, .ref m5])), (m5, .inl (cI, 8, .inl (numA (un nu 1 ti) nK)))] H := hP
    have hD : va_D A [(m0, .inr (6, [.int 0, .int (nI nD), .int (nI nT), .int (nI nC), .ref m1, .ref m2, .ref m3, .ref m4, .ref m5])), (m5, .inl (cI, 8, .inl (numA (un nu 1 ti) nK)))] := hD
    refine lv_iload_n hx hb dX6_jump_36 rfl (lv_at hl 0 rfl) ?_
    exact retI hx hb hr hlocks hS hP hD dX6_jump_37 (rfl) rfl
  · rw [show kJump ti = 1 from by rw [kJump, if_pos c13]]
    refine lv_aload_n hx hb dX6_jump_16 rfl (lv_at hl 0 rfl) ?_
    refine lv_iconst (v := 1) hx hb dX6_jump_17 (by decide) ?_
    refine frI (wc := [(m0, .inr (6, [.int 0, .int (nI nD), .int (nI nT), .int (nI nC), .ref m1, .ref m2, .ref m3, .ref m4, .ref m5]))]) (wc' := [(m0, .inr (6, [.int 1, .int (nI nD), .int (nI nT), .int (nI nC), .ref m1, .ref m2, .ref m3, .ref m4, .ref m5]))]) (w' := [(m0, .inr (6, [.int 1, .int (nI nD), .int (nI nT), .int (nI nC), .ref m1, .ref m2, .ref m3, .ref m4, .ref m5])), (m5, .inl (cI, 8, .inl (numA nu nK)))]) hP hD hS hA [0] [1] [1, 0] rfl rfl rfl rfl rfl (va_runV (As := [.int 1]) (rest := []) ⟨hx, hb, hml, hown, hts⟩ (tX6_fail l D cI m0 m1 m2 m3 m4 m5 nD nT nC 0 1  _) (cwV 1 hts gX6_jump_X6_fail rfl rfl rfl hX6_fail ⟨Nat.le_of_ble_eq_true rfl, Nat.le_of_ble_eq_true rfl⟩) (preV_of hk hP hD [0] rfl rfl (recvO hk hP (ci := 6) (q0 := 0) rfl rfl)) rfl rfl hl.1 rfl (lv_room (Nat.le_of_ble_eq_true rfl)) dX6_jump_18 ⟨Nat.le_of_ble_eq_true rfl, Nat.le_of_ble_eq_true rfl⟩) (fun H locs hP hD hS => ?_)
    exact retI hx hb hr hlocks hS hP hD dX6_jump_21 (rfl) rfl

theorem mX6_fade_f25 : (.fieldLink RX6 25 "StarConsoleModel" "thrown" "I" : Cond) ∈ wsX6_fade := by decide +kernel
theorem iX6_fade_X6 : ∀ w ∈ wsX60, w ∈ wsX6_fade := by decide +kernel

theorem hX6_fade : yX6_fade.cls = RX6 ∧ yX6_fade.cls ≠ "java/lang/invoke/MethodHandle" ∧ yX6_fade.cls ≠ "java/lang/invoke/VarHandle" ∧ (parseMethodDescriptor yX6_fade.desc).map (fun d => d.parameters.length) = some 2 := by decide +kernel
set_option maxHeartbeats 4000000 in
set_option maxRecDepth 100000 in
theorem tX6_fade (l : Launch) (D : va_G) (cI : ClassId) (m0 m1 m2 m3 m4 m5 nD nT nC : Nat) (th : Int32) (g : Mx) (d x : Int32) (hn : nD ≤ 8) : CI l yX6_fade wsX6_fade ({ frames := 2, cells := 0, slots := 0, locals := 43 } : Room) D cI ([.ref m0, .int d, .int x] : List Value) [(m0, .inr (6, [.int th, .int (nI nD), .int (nI nT), .int (nI nC), .ref m1, .ref m2, .ref m3, .ref m4, .ref m5])), (m1, .inl (cI, 40, .inl (fl 5 g)))] (sel (kFade nD d x) (g 2 (ix d)) 0) [(m0, .inr (6, [.int (kFade nD d x), .int (nI nD), .int (nI nT), .int (nI nC), .ref m1, .ref m2, .ref m3, .ref m4, .ref m5])), (m1, .inl (cI, 40, .inl (fl 5 (sel (kFade nD d x) (um g 2 (ix d) x) g))))] := by
  refine entI (cc := cX6_fade) (maxL := 4) (ret := (some .int)) (by decide) rfl (Nat.le_of_ble_eq_true rfl) (fun p e s m below meth c A ls fx hl => ?_)
  have fx0 := fx
  obtain ⟨hx, hb, hr, hml, hown, hts, hlocks, hk, hP, hD, hA⟩ := fx
  have hown : s.vm.findClass RX6 = some m.cls := hown
  have hS : va_S A s.heap s.heap [] := va_S.rf
  have hP : va_P D vwCl [(m0, .inr (6, [.int th, .int (nI nD), .int (nI nT), .int (nI nC), .ref m1, .ref m2, .ref m3, .ref m4, .ref m5])), (m1, .inl (cI, 40, .inl (fl 5 g)))] s.heap := hP
  have hD : va_D A [(m0, .inr (6, [.int th, .int (nI nD), .int (nI nT), .int (nI nC), .ref m1, .ref m2, .ref m3, .ref m4, .ref m5])), (m1, .inl (cI, 40, .inl (fl 5 g)))] := hD
  have hl : lv_has ls 4 [(0, .ref m0), (1, .int d), (2, .int x)] := hl
  refine lv_aload_n hx hb dX6_fade_0 rfl (lv_at hl 0 rfl) ?_
  refine lv_iconst (v := 0) hx hb dX6_fade_1 (by decide) ?_
  refine va_put (D := D) (ci := 6) (v := .int 0) (ty := .int) (C := RX6) (T := TX6) (N := 9) hx hb hts iX6_fade_X6 tyX6 tyX6_ok nmX6 hown hk.1 hP hD hS 0 rfl rfl 0 (by decide) (hts _ mX6_fade_f25) (fun _ h9 => h9) rfl (by decide +kernel) rfl rfl (Nat.le_of_ble_eq_true rfl) dX6_fade_2 (fun H locs hP hD hS => ?_)
  have hP : va_P D vwCl [(m0, .inr (6, [.int 0, .int (nI nD), .int (nI nT), .int (nI nC), .ref m1, .ref m2, .ref m3, .ref m4, .ref m5])), (m1, .inl (cI, 40, .inl (fl 5 g)))] H := hP
  have hD : va_D A [(m0, .inr (6, [.int 0, .int (nI nD), .int (nI nT), .int (nI nC), .ref m1, .ref m2, .ref m3, .ref m4, .ref m5])), (m1, .inl (cI, 40, .inl (fl 5 g)))] := hD
  refine lv_aload_n hx hb dX6_fade_5 rfl (lv_at hl 0 rfl) ?_
  refine lv_iload_n hx hb dX6_fade_6 rfl (lv_at hl 1 rfl) ?_
  refine frI (wc := [(m0, .inr (6, [.int 0, .int (nI nD), .int (nI nT), .int (nI nC), .ref m1, .ref m2, .ref m3, .ref m4, .ref m5]))]) (wc' := [(m0, .inr (6, [.int 0, .int (nI nD), .int (nI nT), .int (nI nC), .ref m1, .ref m2, .ref m3, .ref m4, .ref m5]))]) (w' := [(m0, .inr (6, [.int 0, .int (nI nD), .int (nI nT), .int (nI nC), .ref m1, .ref m2, .ref m3, .ref m4, .ref m5])), (m1, .inl (cI, 40, .inl (fl 5 g)))]) hP hD hS hA [0] [1] [1, 0] rfl rfl rfl rfl rfl (va_runV (As := [.int d]) (rest := []) ⟨hx, hb, hml, hown, hts⟩ (tX6_isDimmer l D cI m0 m1 m2 m3 m4 m5 nD nT nC 0 d (by omega) _) (cwV 1 hts gX6_fade_X6_isDimmer rfl rfl rfl hX6_isDimmer ⟨Nat.le_of_ble_eq_true rfl, Nat.le_of_ble_eq_true rfl⟩) (preV_of hk hP hD [0] rfl rfl (recvO hk hP (ci := 6) (q0 := 0) rfl rfl)) rfl rfl hl.1 rfl (lv_room (Nat.le_of_ble_eq_true rfl)) dX6_fade_7 ⟨Nat.le_of_ble_eq_true rfl, Nat.le_of_ble_eq_true rfl⟩) (fun H locs hP hD hS => ?_)
  refine lv_if_ne (tgt := 19) hx hb dX6_fade_10 (by decide) (fun c10 => ?_) (fun c10 => ?_)
  · refine lv_iload_n hx hb dX6_fade_19 rfl (lv_at hl 2 rfl) ?_
    refine lv_iconst (v := 0) hx hb dX6_fade_20 (by decide) ?_
    refine lv_bipush (v := 100) hx hb dX6_fade_21 (by decide) ?_
    refine frI (wc := []) (wc' := []) (w' := [(m0, .inr (6, [.int 0, .int (nI nD), .int (nI nT), .int (nI nC), .ref m1, .ref m2, .ref m3, .ref m4, .ref m5])), (m1, .inl (cI, 40, .inl (fl 5 g)))]) hP hD hS hA [] [0, 1] [0, 1] rfl rfl rfl rfl rfl (va_runS (As := [.int x, .int 0, .int 100]) (rest := []) ⟨hx, hb, hml, hown, hts⟩ (tX6_isIn l D cI x 0 100  _) (va_cwS 3 hts gX6_fade_X6_isIn rfl rfl rfl hX6_isIn.2 ⟨Nat.le_of_ble_eq_true rfl, Nat.le_of_ble_eq_true rfl⟩) (preS_of hk hP hD [] rfl rfl) rfl rfl hl.1 rfl (lv_room (Nat.le_of_ble_eq_true rfl)) dX6_fade_23 ⟨Nat.le_of_ble_eq_true rfl, Nat.le_of_ble_eq_true rfl⟩) (fun H locs hP hD hS => ?_)
    refine lv_if_ne (tgt := 35) hx hb dX6_fade_26 (by decide) (fun c26 => ?_) (fun c26 => ?_)
    · obtain ⟨j, hj, rfl⟩ := hasI_k c10
      rw [show kFade nD (nI j) x = 0 from by rw [kFade, if_neg c10, if_neg c26]]
      rw [ix_n (show j < 1000 by omega)]
      refine lv_aload_n hx hb dX6_fade_35 rfl (lv_at hl 0 rfl) ?_
      refine lv_iload_n hx hb dX6_fade_36 rfl (lv_at hl 1 rfl) ?_
      refine lv_iconst (v := 2) hx hb dX6_fade_37 (by decide) ?_
      refine frI (wc := [(m0, .inr (6, [.int 0, .int (nI nD), .int (nI nT), .int (nI nC), .ref m1, .ref m2, .ref m3, .ref m4, .ref m5])), (m1, .inl (cI, 40, .inl (fl 5 g)))]) (wc' := [(m0, .inr (6, [.int 0, .int (nI nD), .int (nI nT), .int (nI nC), .ref m1, .ref m2, .ref m3, .ref m4, .ref m5])), (m1, .inl (cI, 40, .inl (fl 5 g)))]) (w' := [(m0, .inr (6, [.int 0, .int (nI nD), .int (nI nT), .int (nI nC), .ref m1, .ref m2, .ref m3, .ref m4, .ref m5])), (m1, .inl (cI, 40, .inl (fl 5 g)))]) hP hD hS hA [0, 1] [] [0, 1] rfl rfl rfl rfl rfl (va_runV (As := [.int (nI j), .int 2]) (rest := []) ⟨hx, hb, hml, hown, hts⟩ (tX6_la l D cI m0 m1 m2 m3 m4 m5 nD nT nC 0 g j 2 (by omega) (by omega) _) (cwV 2 hts gX6_fade_X6_la rfl rfl rfl hX6_la ⟨Nat.le_of_ble_eq_true rfl, Nat.le_of_ble_eq_true rfl⟩) (preV_of hk hP hD [0, 1] rfl rfl (recvO hk hP (ci := 6) (q0 := 0) rfl rfl)) rfl rfl hl.1 rfl (lv_room (Nat.le_of_ble_eq_true rfl)) dX6_fade_38 ⟨Nat.le_of_ble_eq_true rfl, Nat.le_of_ble_eq_true rfl⟩) (fun H locs hP hD hS => ?_)
      refine lv_istore_n (lv' := [(3, .int (g 2 j)), (0, .ref m0), (1, .int (nI j)), (2, .int x)]) hx hb dX6_fade_41 rfl hl (by decide) rfl (fun ls hl => ?_)
      refine lv_aload_n hx hb dX6_fade_42 rfl (lv_at hl 1 rfl) ?_
      refine lv_iload_n hx hb dX6_fade_43 rfl (lv_at hl 2 rfl) ?_
      refine lv_iconst (v := 2) hx hb dX6_fade_44 (by decide) ?_
      refine lv_iload_n hx hb dX6_fade_45 rfl (lv_at hl 3 rfl) ?_
      refine frV (wc := [(m0, .inr (6, [.int 0, .int (nI nD), .int (nI nT), .int (nI nC), .ref m1, .ref m2, .ref m3, .ref m4, .ref m5])), (m1, .inl (cI, 40, .inl (fl 5 g)))]) (wc' := [(m0, .inr (6, [.int 0, .int (nI nD), .int (nI nT), .int (nI nC), .ref m1, .ref m2, .ref m3, .ref m4, .ref m5])), (m1, .inl (cI, 40, .inl (fl 5 (um g 2 j x))))]) (w' := [(m0, .inr (6, [.int 0, .int (nI nD), .int (nI nT), .int (nI nC), .ref m1, .ref m2, .ref m3, .ref m4, .ref m5])), (m1, .inl (cI, 40, .inl (fl 5 (um g 2 j x))))]) hP hD hS hA [0, 1] [] [0, 1] rfl rfl rfl rfl rfl (va_runV (As := [.int (nI j), .int 2, .int x]) (rest := []) ⟨hx, hb, hml, hown, hts⟩ (tX6_put l D cI m0 m1 m2 m3 m4 m5 nD nT nC 0 g j 2 x (by omega) (by omega) _) (cwV 3 hts gX6_fade_X6_put rfl rfl rfl hX6_put ⟨Nat.le_of_ble_eq_true rfl, Nat.le_of_ble_eq_true rfl⟩) (preV_of hk hP hD [0, 1] rfl rfl (recvO hk hP (ci := 6) (q0 := 0) rfl rfl)) rfl rfl hl.1 rfl (lv_room (Nat.le_of_ble_eq_true rfl)) dX6_fade_46 ⟨Nat.le_of_ble_eq_true rfl, Nat.le_of_ble_eq_true rfl⟩) (fun H locs hP hD hS => ?_)
      refine lv_iload_n hx hb dX6_fade_49 rfl (lv_at hl 0 rfl) ?_
      exact retI hx hb hr hlocks hS hP hD dX6_fade_50 (rfl) rfl
    · rw [show kFade nD d x = 2 from by rw [kFade, if_neg c10, if_pos c26]]
      refine lv_aload_n hx hb dX6_fade_29 rfl (lv_at hl 0 rfl) ?_
      refine lv_iconst (v := 2) hx hb dX6_fade_30 (by decide) ?_
      refine frI (wc := [(m0, .inr (6, [.int 0, .int (nI nD), .int (nI nT), .int (nI nC), .ref m1, .ref m2, .ref m3, .ref m4, .ref m5]))]) (wc' := [(m0, .inr (6, [.int 2, .int (nI nD), .int (nI nT), .int (nI nC), .ref m1, .ref m2, .ref m3, .ref m4, .ref m5]))]) (w' := [(m0, .inr (6, [.int 2, .int (nI nD), .int (nI nT), .int (nI nC), .ref m1, .ref m2, .ref m3, .ref m4, .ref m5])), (m1, .inl (cI, 40, .inl (fl 5 g)))]) hP hD hS hA [0] [1] [1, 0] rfl rfl rfl rfl rfl (va_runV (As := [.int 2]) (rest := []) ⟨hx, hb, hml, hown, hts⟩ (tX6_fail l D cI m0 m1 m2 m3 m4 m5 nD nT nC 0 2  _) (cwV 1 hts gX6_fade_X6_fail rfl rfl rfl hX6_fail ⟨Nat.le_of_ble_eq_true rfl, Nat.le_of_ble_eq_true rfl⟩) (preV_of hk hP hD [0] rfl rfl (recvO hk hP (ci := 6) (q0 := 0) rfl rfl)) rfl rfl hl.1 rfl (lv_room (Nat.le_of_ble_eq_true rfl)) dX6_fade_31 ⟨Nat.le_of_ble_eq_true rfl, Nat.le_of_ble_eq_true rfl⟩) (fun H locs hP hD hS => ?_)
      exact retI hx hb hr hlocks hS hP hD dX6_fade_34 (rfl) rfl
  · rw [show kFade nD d x = 1 from by rw [kFade, if_pos c10]]
    refine lv_aload_n hx hb dX6_fade_13 rfl (lv_at hl 0 rfl) ?_
    refine lv_iconst (v := 1) hx hb dX6_fade_14 (by decide) ?_
    refine frI (wc := [(m0, .inr (6, [.int 0, .int (nI nD), .int (nI nT), .int (nI nC), .ref m1, .ref m2, .ref m3, .ref m4, .ref m5]))]) (wc' := [(m0, .inr (6, [.int 1, .int (nI nD), .int (nI nT), .int (nI nC), .ref m1, .ref m2, .ref m3, .ref m4, .ref m5]))]) (w' := [(m0, .inr (6, [.int 1, .int (nI nD), .int (nI nT), .int (nI nC), .ref m1, .ref m2, .ref m3, .ref m4, .ref m5])), (m1, .inl (cI, 40, .inl (fl 5 g)))]) hP hD hS hA [0] [1] [1, 0] rfl rfl rfl rfl rfl (va_runV (As := [.int 1]) (rest := []) ⟨hx, hb, hml, hown, hts⟩ (tX6_fail l D cI m0 m1 m2 m3 m4 m5 nD nT nC 0 1  _) (cwV 1 hts gX6_fade_X6_fail rfl rfl rfl hX6_fail ⟨Nat.le_of_ble_eq_true rfl, Nat.le_of_ble_eq_true rfl⟩) (preV_of hk hP hD [0] rfl rfl (recvO hk hP (ci := 6) (q0 := 0) rfl rfl)) rfl rfl hl.1 rfl (lv_room (Nat.le_of_ble_eq_true rfl)) dX6_fade_15 ⟨Nat.le_of_ble_eq_true rfl, Nat.le_of_ble_eq_true rfl⟩) (fun H locs hP hD hS => ?_)
    exact retI hx hb hr hlocks hS hP hD dX6_fade_18 (rfl) rfl

theorem mX6_pass_f25 : (.fieldLink RX6 25 "StarConsoleModel" "thrown" "I" : Cond) ∈ wsX6_pass := by decide +kernel
theorem iX6_pass_X6 : ∀ w ∈ wsX60, w ∈ wsX6_pass := by decide +kernel

theorem hX6_pass : yX6_pass.cls = RX6 ∧ yX6_pass.cls ≠ "java/lang/invoke/MethodHandle" ∧ yX6_pass.cls ≠ "java/lang/invoke/VarHandle" ∧ (parseMethodDescriptor yX6_pass.desc).map (fun d => d.parameters.length) = some 1 := by decide +kernel
set_option maxHeartbeats 4000000 in
set_option maxRecDepth 100000 in
theorem tX6_pass (l : Launch) (D : va_G) (cI : ClassId) (m0 m1 m2 m3 m4 m5 nD nT nC : Nat) (th : Int32) (cu : Mx) (S : SH) (ti : Int32) (hn : nD ≤ 8) (hC : nC ≤ 24) (hO : SOK nD S) (hq : qOK nD nC cu) : CI l yX6_pass wsX6_pass ({ frames := 4, cells := 0, slots := 0, locals := 93 } : Room) D cI ([.ref m0, .int ti] : List Value) [(m0, .inr (6, [.int th, .int (nI nD), .int (nI nT), .int (nI nC), .ref m1, .ref m2, .ref m3, .ref m4, .ref m5])), (m1, .inl (cI, 40, .inl (fl 5 S.2.1))), (m3, .inl (cI, 36, .inl (fl 3 S.2.2.2))), (m4, .inl (cI, 96, .inl (fl 4 cu))), (m5, .inl (cI, 8, .inl (numA S.1 S.2.2.1)))] (sel (kPass ti) (nI (tkC nD nC cu S (ix ti))) 0) [(m0, .inr (6, [.int (kPass ti), .int (nI nD), .int (nI nT), .int (nI nC), .ref m1, .ref m2, .ref m3, .ref m4, .ref m5])), (m1, .inl (cI, 40, .inl (fl 5 (sel (kPass ti) (tkI nD nC cu S (ix ti)) S).2.1))), (m3, .inl (cI, 36, .inl (fl 3 (sel (kPass ti) (tkI nD nC cu S (ix ti)) S).2.2.2))), (m4, .inl (cI, 96, .inl (fl 4 cu))), (m5, .inl (cI, 8, .inl (numA (sel (kPass ti) (tkI nD nC cu S (ix ti)) S).1 (sel (kPass ti) (tkI nD nC cu S (ix ti)) S).2.2.1)))] := by
  refine entI (cc := cX6_pass) (maxL := 2) (ret := (some .int)) (by decide) rfl (Nat.le_of_ble_eq_true rfl) (fun p e s m below meth c A ls fx hl => ?_)
  have fx0 := fx
  obtain ⟨hx, hb, hr, hml, hown, hts, hlocks, hk, hP, hD, hA⟩ := fx
  have hown : s.vm.findClass RX6 = some m.cls := hown
  have hS : va_S A s.heap s.heap [] := va_S.rf
  have hP : va_P D vwCl [(m0, .inr (6, [.int th, .int (nI nD), .int (nI nT), .int (nI nC), .ref m1, .ref m2, .ref m3, .ref m4, .ref m5])), (m1, .inl (cI, 40, .inl (fl 5 S.2.1))), (m3, .inl (cI, 36, .inl (fl 3 S.2.2.2))), (m4, .inl (cI, 96, .inl (fl 4 cu))), (m5, .inl (cI, 8, .inl (numA S.1 S.2.2.1)))] s.heap := hP
  have hD : va_D A [(m0, .inr (6, [.int th, .int (nI nD), .int (nI nT), .int (nI nC), .ref m1, .ref m2, .ref m3, .ref m4, .ref m5])), (m1, .inl (cI, 40, .inl (fl 5 S.2.1))), (m3, .inl (cI, 36, .inl (fl 3 S.2.2.2))), (m4, .inl (cI, 96, .inl (fl 4 cu))), (m5, .inl (cI, 8, .inl (numA S.1 S.2.2.1)))] := hD
  have hl : lv_has ls 2 [(0, .ref m0), (1, .int ti)] := hl
  refine lv_aload_n hx hb dX6_pass_0 rfl (lv_at hl 0 rfl) ?_
  refine lv_iconst (v := 0) hx hb dX6_pass_1 (by decide) ?_
  refine va_put (D := D) (ci := 6) (v := .int 0) (ty := .int) (C := RX6) (T := TX6) (N := 9) hx hb hts iX6_pass_X6 tyX6 tyX6_ok nmX6 hown hk.1 hP hD hS 0 rfl rfl 0 (by decide) (hts _ mX6_pass_f25) (fun _ h9 => h9) rfl (by decide +kernel) rfl rfl (Nat.le_of_ble_eq_true rfl) dX6_pass_2 (fun H locs hP hD hS => ?_)
  have hP : va_P D vwCl [(m0, .inr (6, [.int 0, .int (nI nD), .int (nI nT), .int (nI nC), .ref m1, .ref m2, .ref m3, .ref m4, .ref m5])), (m1, .inl (cI, 40, .inl (fl 5 S.2.1))), (m3, .inl (cI, 36, .inl (fl 3 S.2.2.2))), (m4, .inl (cI, 96, .inl (fl 4 cu))), (m5, .inl (cI, 8, .inl (numA S.1 S.2.2.1)))] H := hP
  have hD : va_D A [(m0, .inr (6, [.int 0, .int (nI nD), .int (nI nT), .int (nI nC), .ref m1, .ref m2, .ref m3, .ref m4, .ref m5])), (m1, .inl (cI, 40, .inl (fl 5 S.2.1))), (m3, .inl (cI, 36, .inl (fl 3 S.2.2.2))), (m4, .inl (cI, 96, .inl (fl 4 cu))), (m5, .inl (cI, 8, .inl (numA S.1 S.2.2.1)))] := hD
  refine lv_iload_n hx hb dX6_pass_5 rfl (lv_at hl 1 rfl) ?_
  refine lv_iconst (v := 1) hx hb dX6_pass_6 (by decide) ?_
  refine lv_sipush (v := 500) hx hb dX6_pass_7 (by decide) ?_
  refine frI (wc := []) (wc' := []) (w' := [(m0, .inr (6, [.int 0, .int (nI nD), .int (nI nT), .int (nI nC), .ref m1, .ref m2, .ref m3, .ref m4, .ref m5])), (m1, .inl (cI, 40, .inl (fl 5 S.2.1))), (m3, .inl (cI, 36, .inl (fl 3 S.2.2.2))), (m4, .inl (cI, 96, .inl (fl 4 cu))), (m5, .inl (cI, 8, .inl (numA S.1 S.2.2.1)))]) hP hD hS hA [] [0, 1, 2, 3, 4] [0, 1, 2, 3, 4] rfl rfl rfl rfl rfl (va_runS (As := [.int ti, .int 1, .int 500]) (rest := []) ⟨hx, hb, hml, hown, hts⟩ (tX6_isIn l D cI ti 1 500  _) (va_cwS 3 hts gX6_pass_X6_isIn rfl rfl rfl hX6_isIn.2 ⟨Nat.le_of_ble_eq_true rfl, Nat.le_of_ble_eq_true rfl⟩) (preS_of hk hP hD [] rfl rfl) rfl rfl hl.1 rfl (lv_room (Nat.le_of_ble_eq_true rfl)) dX6_pass_10 ⟨Nat.le_of_ble_eq_true rfl, Nat.le_of_ble_eq_true rfl⟩) (fun H locs hP hD hS => ?_)
  refine lv_if_eq (tgt := 24) hx hb dX6_pass_13 (by decide) (fun c13 => ?_) (fun c13 => ?_)
  · rw [show kPass ti = 1 from by rw [kPass, if_pos c13]]
    refine lv_aload_n hx hb dX6_pass_24 rfl (lv_at hl 0 rfl) ?_
    refine lv_iconst (v := 1) hx hb dX6_pass_25 (by decide) ?_
    refine frI (wc := [(m0, .inr (6, [.int 0, .int (nI nD), .int (nI nT), .int (nI nC), .ref m1, .ref m2, .ref m3, .ref m4, .ref m5]))]) (wc' := [(m0, .inr (6, [.int 1, .int (nI nD), .int (nI nT), .int (nI nC), .ref m1, .ref m2, .ref m3, .ref m4, .ref m5]))]) (w' := [(m0, .inr (6, [.int 1, .int (nI nD), .int (nI nT), .int (nI nC), .ref m1, .ref m2, .ref m3, .ref m4, .ref m5])), (m1, .inl (cI, 40, .inl (fl 5 S.2.1))), (m3, .inl (cI, 36, .inl (fl 3 S.2.2.2))), (m4, .inl (cI, 96, .inl (fl 4 cu))), (m5, .inl (cI, 8, .inl (numA S.1 S.2.2.1)))]) hP hD hS hA [0] [1, 2, 3, 4] [4, 0, 1, 2, 3] rfl rfl rfl rfl rfl (va_runV (As := [.int 1]) (rest := []) ⟨hx, hb, hml, hown, hts⟩ (tX6_fail l D cI m0 m1 m2 m3 m4 m5 nD nT nC 0 1  _) (cwV 1 hts gX6_pass_X6_fail rfl rfl rfl hX6_fail ⟨Nat.le_of_ble_eq_true rfl, Nat.le_of_ble_eq_true rfl⟩) (preV_of hk hP hD [0] rfl rfl (recvO hk hP (ci := 6) (q0 := 0) rfl rfl)) rfl rfl hl.1 rfl (lv_room (Nat.le_of_ble_eq_true rfl)) dX6_pass_26 ⟨Nat.le_of_ble_eq_true rfl, Nat.le_of_ble_eq_true rfl⟩) (fun H locs hP hD hS => ?_)
    exact retI hx hb hr hlocks hS hP hD dX6_pass_29 (rfl) rfl
  · obtain ⟨j, hj, rfl⟩ := wi_n (n := 500) c13 (by decide) (by decide)
    rw [show kPass (nI j) = 0 from by rw [kPass, if_neg c13]]
    rw [ix_n (show j < 1000 by omega)]
    refine lv_aload_n hx hb dX6_pass_16 rfl (lv_at hl 0 rfl) ?_
    refine lv_iload_n hx hb dX6_pass_17 rfl (lv_at hl 1 rfl) ?_
    refine frI (wc := [(m0, .inr (6, [.int 0, .int (nI nD), .int (nI nT), .int (nI nC), .ref m1, .ref m2, .ref m3, .ref m4, .ref m5])), (m1, .inl (cI, 40, .inl (fl 5 S.2.1))), (m3, .inl (cI, 36, .inl (fl 3 S.2.2.2))), (m4, .inl (cI, 96, .inl (fl 4 cu))), (m5, .inl (cI, 8, .inl (numA S.1 S.2.2.1)))]) (wc' := [(m0, .inr (6, [.int 0, .int (nI nD), .int (nI nT), .int (nI nC), .ref m1, .ref m2, .ref m3, .ref m4, .ref m5])), (m1, .inl (cI, 40, .inl (fl 5 (tkI nD nC cu S j).2.1))), (m3, .inl (cI, 36, .inl (fl 3 (tkI nD nC cu S j).2.2.2))), (m4, .inl (cI, 96, .inl (fl 4 cu))), (m5, .inl (cI, 8, .inl (numA (tkI nD nC cu S j).1 (tkI nD nC cu S j).2.2.1)))]) (w' := [(m0, .inr (6, [.int 0, .int (nI nD), .int (nI nT), .int (nI nC), .ref m1, .ref m2, .ref m3, .ref m4, .ref m5])), (m1, .inl (cI, 40, .inl (fl 5 (tkI nD nC cu S j).2.1))), (m3, .inl (cI, 36, .inl (fl 3 (tkI nD nC cu S j).2.2.2))), (m4, .inl (cI, 96, .inl (fl 4 cu))), (m5, .inl (cI, 8, .inl (numA (tkI nD nC cu S j).1 (tkI nD nC cu S j).2.2.1)))]) hP hD hS hA [0, 1, 2, 3, 4] [] [0, 1, 2, 3, 4] rfl rfl rfl rfl rfl (va_runV (As := [.int (nI j)]) (rest := []) ⟨hx, hb, hml, hown, hts⟩ (tX6_ticksOn l D cI m0 m1 m2 m3 m4 m5 nD nT nC 0 cu S j hn hC hO hq (by omega) _) (cwV 1 hts gX6_pass_X6_ticksOn rfl rfl rfl hX6_ticksOn ⟨Nat.le_of_ble_eq_true rfl, Nat.le_of_ble_eq_true rfl⟩) (preV_of hk hP hD [0, 1, 2, 3, 4] rfl rfl (recvO hk hP (ci := 6) (q0 := 0) rfl rfl)) rfl rfl hl.1 rfl (lv_room (Nat.le_of_ble_eq_true rfl)) dX6_pass_18 ⟨Nat.le_of_ble_eq_true rfl, Nat.le_of_ble_eq_true rfl⟩) (fun H locs hP hD hS => ?_)
    refine lv_goto (tgt := 29) hx hb dX6_pass_21 (by decide) ?_
    exact retI hx hb hr hlocks hS hP hD dX6_pass_29 (rfl) rfl

theorem mX6_told_f25 : (.fieldLink RX6 25 "StarConsoleModel" "thrown" "I" : Cond) ∈ wsX6_told := by decide +kernel
theorem iX6_told_X6 : ∀ w ∈ wsX60, w ∈ wsX6_told := by decide +kernel

theorem hX6_told : yX6_told.cls = RX6 ∧ yX6_told.cls ≠ "java/lang/invoke/MethodHandle" ∧ yX6_told.cls ≠ "java/lang/invoke/VarHandle" ∧ (parseMethodDescriptor yX6_told.desc).map (fun d => d.parameters.length) = some 2 := by decide +kernel
set_option maxHeartbeats 4000000 in
set_option maxRecDepth 100000 in
theorem tX6_told (l : Launch) (D : va_G) (cI : ClassId) (m0 m1 m2 m3 m4 m5 nD nT nC : Nat) (th : Int32) (g : Mx) (d x : Int32) (hn : nD ≤ 8) : CI l yX6_told wsX6_told ({ frames := 2, cells := 0, slots := 0, locals := 43 } : Room) D cI ([.ref m0, .int d, .int x] : List Value) [(m0, .inr (6, [.int th, .int (nI nD), .int (nI nT), .int (nI nC), .ref m1, .ref m2, .ref m3, .ref m4, .ref m5])), (m1, .inl (cI, 40, .inl (fl 5 g)))] (sel (kTold nD d x) (fcD g (ix d) x) 0) [(m0, .inr (6, [.int (kTold nD d x), .int (nI nD), .int (nI nT), .int (nI nC), .ref m1, .ref m2, .ref m3, .ref m4, .ref m5])), (m1, .inl (cI, 40, .inl (fl 5 g)))] := by
  refine entI (cc := cX6_told) (maxL := 3) (ret := (some .int)) (by decide) rfl (Nat.le_of_ble_eq_true rfl) (fun p e s m below meth c A ls fx hl => ?_)
  have fx0 := fx
  obtain ⟨hx, hb, hr, hml, hown, hts, hlocks, hk, hP, hD, hA⟩ := fx
  have hown : s.vm.findClass RX6 = some m.cls := hown
  have hS : va_S A s.heap s.heap [] := va_S.rf
  have hP : va_P D vwCl [(m0, .inr (6, [.int th, .int (nI nD), .int (nI nT), .int (nI nC), .ref m1, .ref m2, .ref m3, .ref m4, .ref m5])), (m1, .inl (cI, 40, .inl (fl 5 g)))] s.heap := hP
  have hD : va_D A [(m0, .inr (6, [.int th, .int (nI nD), .int (nI nT), .int (nI nC), .ref m1, .ref m2, .ref m3, .ref m4, .ref m5])), (m1, .inl (cI, 40, .inl (fl 5 g)))] := hD
  have hl : lv_has ls 3 [(0, .ref m0), (1, .int d), (2, .int x)] := hl
  refine lv_aload_n hx hb dX6_told_0 rfl (lv_at hl 0 rfl) ?_
  refine lv_iconst (v := 0) hx hb dX6_told_1 (by decide) ?_
  refine va_put (D := D) (ci := 6) (v := .int 0) (ty := .int) (C := RX6) (T := TX6) (N := 9) hx hb hts iX6_told_X6 tyX6 tyX6_ok nmX6 hown hk.1 hP hD hS 0 rfl rfl 0 (by decide) (hts _ mX6_told_f25) (fun _ h9 => h9) rfl (by decide +kernel) rfl rfl (Nat.le_of_ble_eq_true rfl) dX6_told_2 (fun H locs hP hD hS => ?_)
  have hP : va_P D vwCl [(m0, .inr (6, [.int 0, .int (nI nD), .int (nI nT), .int (nI nC), .ref m1, .ref m2, .ref m3, .ref m4, .ref m5])), (m1, .inl (cI, 40, .inl (fl 5 g)))] H := hP
  have hD : va_D A [(m0, .inr (6, [.int 0, .int (nI nD), .int (nI nT), .int (nI nC), .ref m1, .ref m2, .ref m3, .ref m4, .ref m5])), (m1, .inl (cI, 40, .inl (fl 5 g)))] := hD
  refine lv_aload_n hx hb dX6_told_5 rfl (lv_at hl 0 rfl) ?_
  refine lv_iload_n hx hb dX6_told_6 rfl (lv_at hl 1 rfl) ?_
  refine frI (wc := [(m0, .inr (6, [.int 0, .int (nI nD), .int (nI nT), .int (nI nC), .ref m1, .ref m2, .ref m3, .ref m4, .ref m5]))]) (wc' := [(m0, .inr (6, [.int 0, .int (nI nD), .int (nI nT), .int (nI nC), .ref m1, .ref m2, .ref m3, .ref m4, .ref m5]))]) (w' := [(m0, .inr (6, [.int 0, .int (nI nD), .int (nI nT), .int (nI nC), .ref m1, .ref m2, .ref m3, .ref m4, .ref m5])), (m1, .inl (cI, 40, .inl (fl 5 g)))]) hP hD hS hA [0] [1] [1, 0] rfl rfl rfl rfl rfl (va_runV (As := [.int d]) (rest := []) ⟨hx, hb, hml, hown, hts⟩ (tX6_isDimmer l D cI m0 m1 m2 m3 m4 m5 nD nT nC 0 d (by omega) _) (cwV 1 hts gX6_told_X6_isDimmer rfl rfl rfl hX6_isDimmer ⟨Nat.le_of_ble_eq_true rfl, Nat.le_of_ble_eq_true rfl⟩) (preV_of hk hP hD [0] rfl rfl (recvO hk hP (ci := 6) (q0 := 0) rfl rfl)) rfl rfl hl.1 rfl (lv_room (Nat.le_of_ble_eq_true rfl)) dX6_told_7 ⟨Nat.le_of_ble_eq_true rfl, Nat.le_of_ble_eq_true rfl⟩) (fun H locs hP hD hS => ?_)
  refine lv_if_eq (tgt := 31) hx hb dX6_told_10 (by decide) (fun c10 => ?_) (fun c10 => ?_)
  · rw [show kTold nD d x = 1 from by rw [kTold, if_pos c10]]
    refine lv_aload_n hx hb dX6_told_31 rfl (lv_at hl 0 rfl) ?_
    refine lv_iconst (v := 1) hx hb dX6_told_32 (by decide) ?_
    refine frI (wc := [(m0, .inr (6, [.int 0, .int (nI nD), .int (nI nT), .int (nI nC), .ref m1, .ref m2, .ref m3, .ref m4, .ref m5]))]) (wc' := [(m0, .inr (6, [.int 1, .int (nI nD), .int (nI nT), .int (nI nC), .ref m1, .ref m2, .ref m3, .ref m4, .ref m5]))]) (w' := [(m0, .inr (6, [.int 1, .int (nI nD), .int (nI nT), .int (nI nC), .ref m1, .ref m2, .ref m3, .ref m4, .ref m5])), (m1, .inl (cI, 40, .inl (fl 5 g)))]) hP hD hS hA [0] [1] [1, 0] rfl rfl rfl rfl rfl (va_runV (As := [.int 1]) (rest := []) ⟨hx, hb, hml, hown, hts⟩ (tX6_fail l D cI m0 m1 m2 m3 m4 m5 nD nT nC 0 1  _) (cwV 1 hts gX6_told_X6_fail rfl rfl rfl hX6_fail ⟨Nat.le_of_ble_eq_true rfl, Nat.le_of_ble_eq_true rfl⟩) (preV_of hk hP hD [0] rfl rfl (recvO hk hP (ci := 6) (q0 := 0) rfl rfl)) rfl rfl hl.1 rfl (lv_room (Nat.le_of_ble_eq_true rfl)) dX6_told_33 ⟨Nat.le_of_ble_eq_true rfl, Nat.le_of_ble_eq_true rfl⟩) (fun H locs hP hD hS => ?_)
    exact retI hx hb hr hlocks hS hP hD dX6_told_36 (rfl) rfl
  · refine lv_iload_n hx hb dX6_told_13 rfl (lv_at hl 2 rfl) ?_
    refine lv_iconst (v := 0) hx hb dX6_told_14 (by decide) ?_
    refine lv_iconst (v := 4) hx hb dX6_told_15 (by decide) ?_
    refine frI (wc := []) (wc' := []) (w' := [(m0, .inr (6, [.int 0, .int (nI nD), .int (nI nT), .int (nI nC), .ref m1, .ref m2, .ref m3, .ref m4, .ref m5])), (m1, .inl (cI, 40, .inl (fl 5 g)))]) hP hD hS hA [] [0, 1] [0, 1] rfl rfl rfl rfl rfl (va_runS (As := [.int x, .int 0, .int 4]) (rest := []) ⟨hx, hb, hml, hown, hts⟩ (tX6_isIn l D cI x 0 4  _) (va_cwS 3 hts gX6_told_X6_isIn rfl rfl rfl hX6_isIn.2 ⟨Nat.le_of_ble_eq_true rfl, Nat.le_of_ble_eq_true rfl⟩) (preS_of hk hP hD [] rfl rfl) rfl rfl hl.1 rfl (lv_room (Nat.le_of_ble_eq_true rfl)) dX6_told_16 ⟨Nat.le_of_ble_eq_true rfl, Nat.le_of_ble_eq_true rfl⟩) (fun H locs hP hD hS => ?_)
    refine lv_if_eq (tgt := 31) hx hb dX6_told_19 (by decide) (fun c19 => ?_) (fun c19 => ?_)
    · rw [show kTold nD d x = 1 from by rw [kTold, if_neg c10, if_pos c19]]
      refine lv_aload_n hx hb dX6_told_31 rfl (lv_at hl 0 rfl) ?_
      refine lv_iconst (v := 1) hx hb dX6_told_32 (by decide) ?_
      refine frI (wc := [(m0, .inr (6, [.int 0, .int (nI nD), .int (nI nT), .int (nI nC), .ref m1, .ref m2, .ref m3, .ref m4, .ref m5]))]) (wc' := [(m0, .inr (6, [.int 1, .int (nI nD), .int (nI nT), .int (nI nC), .ref m1, .ref m2, .ref m3, .ref m4, .ref m5]))]) (w' := [(m0, .inr (6, [.int 1, .int (nI nD), .int (nI nT), .int (nI nC), .ref m1, .ref m2, .ref m3, .ref m4, .ref m5])), (m1, .inl (cI, 40, .inl (fl 5 g)))]) hP hD hS hA [0] [1] [1, 0] rfl rfl rfl rfl rfl (va_runV (As := [.int 1]) (rest := []) ⟨hx, hb, hml, hown, hts⟩ (tX6_fail l D cI m0 m1 m2 m3 m4 m5 nD nT nC 0 1  _) (cwV 1 hts gX6_told_X6_fail rfl rfl rfl hX6_fail ⟨Nat.le_of_ble_eq_true rfl, Nat.le_of_ble_eq_true rfl⟩) (preV_of hk hP hD [0] rfl rfl (recvO hk hP (ci := 6) (q0 := 0) rfl rfl)) rfl rfl hl.1 rfl (lv_room (Nat.le_of_ble_eq_true rfl)) dX6_told_33 ⟨Nat.le_of_ble_eq_true rfl, Nat.le_of_ble_eq_true rfl⟩) (fun H locs hP hD hS => ?_)
      exact retI hx hb hr hlocks hS hP hD dX6_told_36 (rfl) rfl
    · obtain ⟨j, hj, rfl⟩ := hasI_k c10
      obtain ⟨v, hv, rfl⟩ := wi_n (n := 4) c19 (by decide) (by decide)
      rw [show kTold nD (nI j) (nI v) = 0 from by rw [kTold, if_neg c10, if_neg c19]]
      rw [ix_n (show j < 1000 by omega), fcD_w (show v < 5 by omega)]
      refine lv_aload_n hx hb dX6_told_22 rfl (lv_at hl 0 rfl) ?_
      refine lv_iload_n hx hb dX6_told_23 rfl (lv_at hl 1 rfl) ?_
      refine lv_iload_n hx hb dX6_told_24 rfl (lv_at hl 2 rfl) ?_
      refine frI (wc := [(m0, .inr (6, [.int 0, .int (nI nD), .int (nI nT), .int (nI nC), .ref m1, .ref m2, .ref m3, .ref m4, .ref m5])), (m1, .inl (cI, 40, .inl (fl 5 g)))]) (wc' := [(m0, .inr (6, [.int 0, .int (nI nD), .int (nI nT), .int (nI nC), .ref m1, .ref m2, .ref m3, .ref m4, .ref m5])), (m1, .inl (cI, 40, .inl (fl 5 g)))]) (w' := [(m0, .inr (6, [.int 0, .int (nI nD), .int (nI nT), .int (nI nC), .ref m1, .ref m2, .ref m3, .ref m4, .ref m5])), (m1, .inl (cI, 40, .inl (fl 5 g)))]) hP hD hS hA [0, 1] [] [0, 1] rfl rfl rfl rfl rfl (va_runV (As := [.int (nI j), .int (nI v)]) (rest := []) ⟨hx, hb, hml, hown, hts⟩ (tX6_la l D cI m0 m1 m2 m3 m4 m5 nD nT nC 0 g j v (by omega) (by omega) _) (cwV 2 hts gX6_told_X6_la rfl rfl rfl hX6_la ⟨Nat.le_of_ble_eq_true rfl, Nat.le_of_ble_eq_true rfl⟩) (preV_of hk hP hD [0, 1] rfl rfl (recvO hk hP (ci := 6) (q0 := 0) rfl rfl)) rfl rfl hl.1 rfl (lv_room (Nat.le_of_ble_eq_true rfl)) dX6_told_25 ⟨Nat.le_of_ble_eq_true rfl, Nat.le_of_ble_eq_true rfl⟩) (fun H locs hP hD hS => ?_)
      refine lv_goto (tgt := 36) hx hb dX6_told_28 (by decide) ?_
      exact retI hx hb hr hlocks hS hP hD dX6_told_36 (rfl) rfl

theorem mX6_glareOf_f29 : (.fieldLink RX6 29 "StarConsoleModel" "dimmers" "I" : Cond) ∈ wsX6_glareOf := by decide +kernel
theorem iX6_glareOf_X6 : ∀ w ∈ wsX60, w ∈ wsX6_glareOf := by decide +kernel

theorem hX6_glareOf : yX6_glareOf.cls = RX6 ∧ yX6_glareOf.cls ≠ "java/lang/invoke/MethodHandle" ∧ yX6_glareOf.cls ≠ "java/lang/invoke/VarHandle" ∧ (parseMethodDescriptor yX6_glareOf.desc).map (fun d => d.parameters.length) = some 1 := by decide +kernel
set_option maxHeartbeats 4000000 in
set_option maxRecDepth 100000 in
theorem tX6_glareOf (l : Launch) (D : va_G) (cI : ClassId) (m0 m1 m2 m3 m4 m5 nD nT nC : Nat) (th : Int32) (g : Mx) (lit : Int32) (hn : nD ≤ 8) (hg : gOK nD g) (hl1 : bnd lit 0 11) : CI l yX6_glareOf wsX6_glareOf ({ frames := 1, cells := 0, slots := 0, locals := 22 } : Room) D cI ([.ref m0, .int lit] : List Value) [(m0, .inr (6, [.int th, .int (nI nD), .int (nI nT), .int (nI nC), .ref m1, .ref m2, .ref m3, .ref m4, .ref m5])), (m1, .inl (cI, 40, .inl (fl 5 g)))] (glS (g 0) (g 1) lit nD) [(m0, .inr (6, [.int th, .int (nI nD), .int (nI nT), .int (nI nC), .ref m1, .ref m2, .ref m3, .ref m4, .ref m5])), (m1, .inl (cI, 40, .inl (fl 5 g)))] := by
  refine entI (cc := cX6_glareOf) (maxL := 5) (ret := (some .int)) (by decide) rfl (Nat.le_of_ble_eq_true rfl) (fun p e s m below meth c A ls fx hl => ?_)
  have fx0 := fx
  obtain ⟨hx, hb, hr, hml, hown, hts, hlocks, hk, hP, hD, hA⟩ := fx
  have hown : s.vm.findClass RX6 = some m.cls := hown
  have hS : va_S A s.heap s.heap [] := va_S.rf
  have hP : va_P D vwCl [(m0, .inr (6, [.int th, .int (nI nD), .int (nI nT), .int (nI nC), .ref m1, .ref m2, .ref m3, .ref m4, .ref m5])), (m1, .inl (cI, 40, .inl (fl 5 g)))] s.heap := hP
  have hD : va_D A [(m0, .inr (6, [.int th, .int (nI nD), .int (nI nT), .int (nI nC), .ref m1, .ref m2, .ref m3, .ref m4, .ref m5])), (m1, .inl (cI, 40, .inl (fl 5 g)))] := hD
  have hl : lv_has ls 5 [(0, .ref m0), (1, .int lit)] := hl
  refine lv_iconst (v := 0) hx hb dX6_glareOf_0 (by decide) ?_
  refine lv_istore_n (lv' := [(2, .int 0), (0, .ref m0), (1, .int lit)]) hx hb dX6_glareOf_1 rfl hl (by decide) rfl (fun ls hl => ?_)
  refine lv_iconst (v := 0) hx hb dX6_glareOf_2 (by decide) ?_
  refine lv_istore_n (lv' := [(3, .int 0), (2, .int 0), (0, .ref m0), (1, .int lit)]) hx hb dX6_glareOf_3 rfl hl (by decide) rfl (fun ls hl => ?_)
  have key4 : ∀ (ku4 : Nat) (i : Nat), i ≤ nD → nD - i < ku4 → ∀ (H : Heap) (locs : List Loc), va_P D vwCl [(m0, .inr (6, [.int th, .int (nI nD), .int (nI nT), .int (nI nC), .ref m1, .ref m2, .ref m3, .ref m4, .ref m5])), (m1, .inl (cI, 40, .inl (fl 5 g)))] H → va_D A [(m0, .inr (6, [.int th, .int (nI nD), .int (nI nT), .int (nI nC), .ref m1, .ref m2, .ref m3, .ref m4, .ref m5])), (m1, .inl (cI, 40, .inl (fl 5 g)))] → va_S A s.heap H locs → ∀ ls : Array Slot, lv_has ls 5 [(3, .int (nI i)), (2, .int (glS (g 0) (g 1) lit i)), (0, .ref m0), (1, .int lit)] → W p l e ({ frames := 1, cells := 0, slots := 0, locals := 22 } : Room) s m ([.ref m0, .int lit] : List Value).toArray below meth c H locs 0 0 (MQ below (poI D A [(m0, .inr (6, [.int th, .int (nI nD), .int (nI nT), .int (nI nC), .ref m1, .ref m2, .ref m3, .ref m4, .ref m5])), (m1, .inl (cI, 40, .inl (fl 5 g)))] (glS (g 0) (g 1) lit nD)) ([.ref m0, .int lit] : List Value).toArray s 0 0 A) (F0 m 4 ls []) := by
    intro ku4
    induction ku4 with
    | zero => intro i; intros; omega
    | succ ku4 ih4 =>
      intro i  hi4 hm4  H locs hP hD hS ls hl
      refine lv_iload_n hx hb dX6_glareOf_4 rfl (lv_at hl 0 rfl) ?_
      refine lv_aload_n hx hb dX6_glareOf_5 rfl (lv_at hl 2 rfl) ?_
      refine va_get (D := D) (ci := 6) (v := .int (nI nD)) (C := RX6) (T := TX6) (N := 9) hx hb hts iX6_glareOf_X6 hown hk.1 hP 0 rfl rfl 1 (by decide) (hts _ mX6_glareOf_f29) (fun _ h9 => h9) rfl dX6_glareOf_6 ?_
      refine icgeN (i := i) (n := nD) (tgt := 76) hx hb (by omega) (by omega) dX6_glareOf_9 (by decide) (fun c9 => ?_) (fun c9 => ?_)
      · obtain rfl : nD = i := by omega
        refine lv_iload_n hx hb dX6_glareOf_76 rfl (lv_at hl 1 rfl) ?_
        exact retI hx hb hr hlocks hS hP hD dX6_glareOf_77 (rfl) rfl
      · refine lv_aload_n hx hb dX6_glareOf_12 rfl (lv_at hl 2 rfl) ?_
        refine lv_iload_n hx hb dX6_glareOf_13 rfl (lv_at hl 0 rfl) ?_
        refine lv_iconst (v := 0) hx hb dX6_glareOf_14 (by decide) ?_
        refine frI (wc := [(m0, .inr (6, [.int th, .int (nI nD), .int (nI nT), .int (nI nC), .ref m1, .ref m2, .ref m3, .ref m4, .ref m5])), (m1, .inl (cI, 40, .inl (fl 5 g)))]) (wc' := [(m0, .inr (6, [.int th, .int (nI nD), .int (nI nT), .int (nI nC), .ref m1, .ref m2, .ref m3, .ref m4, .ref m5])), (m1, .inl (cI, 40, .inl (fl 5 g)))]) (w' := [(m0, .inr (6, [.int th, .int (nI nD), .int (nI nT), .int (nI nC), .ref m1, .ref m2, .ref m3, .ref m4, .ref m5])), (m1, .inl (cI, 40, .inl (fl 5 g)))]) hP hD hS hA [0, 1] [] [0, 1] rfl rfl rfl rfl rfl (va_runV (As := [.int (nI i), .int 0]) (rest := []) ⟨hx, hb, hml, hown, hts⟩ (tX6_la l D cI m0 m1 m2 m3 m4 m5 nD nT nC th g i 0 (by omega) (by omega) _) (cwV 2 hts gX6_glareOf_X6_la rfl rfl rfl hX6_la ⟨Nat.le_of_ble_eq_true rfl, Nat.le_of_ble_eq_true rfl⟩) (preV_of hk hP hD [0, 1] rfl rfl (recvO hk hP (ci := 6) (q0 := 0) rfl rfl)) rfl rfl hl.1 rfl (lv_room (Nat.le_of_ble_eq_true rfl)) dX6_glareOf_15 ⟨Nat.le_of_ble_eq_true rfl, Nat.le_of_ble_eq_true rfl⟩) (fun H locs hP hD hS => ?_)
        refine lv_iload_n hx hb dX6_glareOf_18 rfl (lv_at hl 3 rfl) ?_
        refine lv_isub hx hb dX6_glareOf_19 ?_
        refine lv_bipush (v := 12) hx hb dX6_glareOf_20 (by decide) ?_
        refine lv_iadd hx hb dX6_glareOf_22 ?_
        refine lv_bipush (v := 12) hx hb dX6_glareOf_23 (by decide) ?_
        refine lv_irem hx hb dX6_glareOf_25 (by decide) ?_
        refine top_int (show _ = irm (((((g 0 i) - lit)) + 12)) 12 from rfl) ?_
        refine top_int (gl_rd (hg i (by omega)).1 hl1) ?_
        refine lv_istore (lv' := [(4, .int (fmod (g 0 i - lit) 12)), (3, .int (nI i)), (2, .int (glS (g 0) (g 1) lit i)), (0, .ref m0), (1, .int lit)]) hx hb dX6_glareOf_26 hl (by decide) rfl (fun ls hl => ?_)
        refine lv_iload_n hx hb dX6_glareOf_28 rfl (lv_at hl 2 rfl) ?_
        refine lv_iload hx hb dX6_glareOf_29 (lv_at hl 0 rfl) ?_
        refine lv_if_ne (tgt := 43) hx hb dX6_glareOf_31 (by decide) (fun c31 => ?_) (fun c31 => ?_)
        · refine lv_iload hx hb dX6_glareOf_43 (lv_at hl 0 rfl) ?_
          refine lv_iconst (v := 1) hx hb dX6_glareOf_45 (by decide) ?_
          refine lv_icmp_eq (tgt := 56) hx hb dX6_glareOf_46 (by decide) (fun c46 => ?_) (fun c46 => ?_)
          · refine lv_aload_n hx hb dX6_glareOf_56 rfl (lv_at hl 3 rfl) ?_
            refine lv_iload_n hx hb dX6_glareOf_57 rfl (lv_at hl 1 rfl) ?_
            refine lv_iconst (v := 1) hx hb dX6_glareOf_58 (by decide) ?_
            refine frI (wc := [(m0, .inr (6, [.int th, .int (nI nD), .int (nI nT), .int (nI nC), .ref m1, .ref m2, .ref m3, .ref m4, .ref m5])), (m1, .inl (cI, 40, .inl (fl 5 g)))]) (wc' := [(m0, .inr (6, [.int th, .int (nI nD), .int (nI nT), .int (nI nC), .ref m1, .ref m2, .ref m3, .ref m4, .ref m5])), (m1, .inl (cI, 40, .inl (fl 5 g)))]) (w' := [(m0, .inr (6, [.int th, .int (nI nD), .int (nI nT), .int (nI nC), .ref m1, .ref m2, .ref m3, .ref m4, .ref m5])), (m1, .inl (cI, 40, .inl (fl 5 g)))]) hP hD hS hA [0, 1] [] [0, 1] rfl rfl rfl rfl rfl (va_runV (As := [.int (nI i), .int 1]) (rest := [.int (glS (g 0) (g 1) lit i)]) ⟨hx, hb, hml, hown, hts⟩ (tX6_la l D cI m0 m1 m2 m3 m4 m5 nD nT nC th g i 1 (by omega) (by omega) _) (cwV 2 hts gX6_glareOf_X6_la rfl rfl rfl hX6_la ⟨Nat.le_of_ble_eq_true rfl, Nat.le_of_ble_eq_true rfl⟩) (preV_of hk hP hD [0, 1] rfl rfl (recvO hk hP (ci := 6) (q0 := 0) rfl rfl)) rfl rfl hl.1 rfl (lv_room (Nat.le_of_ble_eq_true rfl)) dX6_glareOf_59 ⟨Nat.le_of_ble_eq_true rfl, Nat.le_of_ble_eq_true rfl⟩) (fun H locs hP hD hS => ?_)
            refine lv_iconst (v := 4) hx hb dX6_glareOf_62 (by decide) ?_
            refine lv_idiv hx hb dX6_glareOf_63 (by decide) ?_
            refine lv_goto (tgt := 68) hx hb dX6_glareOf_64 (by decide) ?_
            refine lv_iadd hx hb dX6_glareOf_68 ?_
            refine lv_istore_n (lv' := [(2, .int ((glS (g 0) (g 1) lit i) + (((g 1 i) / 4)))), (4, .int (fmod (g 0 i - lit) 12)), (3, .int (nI i)), (0, .ref m0), (1, .int lit)]) hx hb dX6_glareOf_69 rfl hl (by decide) rfl (fun ls hl => ?_)
            refine lv_iinc (v := nI (i + 1)) (lv' := [(3, .int (nI (i + 1))), (2, .int ((glS (g 0) (g 1) lit i) + (((g 1 i) / 4)))), (4, .int (fmod (g 0 i - lit) 12)), (0, .ref m0), (1, .int lit)]) hx hb dX6_glareOf_70 hl (k := 2) rfl (nI_inc i) (by decide) rfl (fun ls hl => ?_)
            refine lv_goto (tgt := 4) hx hb dX6_glareOf_73 (by decide) ?_
            have ihx := ih4 (i + 1)  (by omega) (by omega)
            rw [show glS (g 0) (g 1) lit (i + 1) = glC (g 0 i) (g 1 i) lit (glS (g 0) (g 1) lit i) from rfl, show glC (g 0 i) (g 1 i) lit (glS (g 0) (g 1) lit i) = _ from by rw [glC, if_neg c31, if_pos c46]] at ihx
            exact ihx _ _ hP hD hS _ (lv_sub hl [0, 1, 3, 4] rfl)
          · refine lv_iload hx hb dX6_glareOf_49 (lv_at hl 0 rfl) ?_
            refine lv_bipush (v := 11) hx hb dX6_glareOf_51 (by decide) ?_
            refine lv_icmp_ne (tgt := 67) hx hb dX6_glareOf_53 (by decide) (fun c53 => ?_) (fun c53 => ?_)
            · refine lv_iconst (v := 0) hx hb dX6_glareOf_67 (by decide) ?_
              refine lv_iadd hx hb dX6_glareOf_68 ?_
              refine top_int (Int32.add_zero _) ?_
              refine lv_istore_n (lv' := [(2, .int (glS (g 0) (g 1) lit i)), (4, .int (fmod (g 0 i - lit) 12)), (3, .int (nI i)), (0, .ref m0), (1, .int lit)]) hx hb dX6_glareOf_69 rfl hl (by decide) rfl (fun ls hl => ?_)
              refine lv_iinc (v := nI (i + 1)) (lv' := [(3, .int (nI (i + 1))), (2, .int (glS (g 0) (g 1) lit i)), (4, .int (fmod (g 0 i - lit) 12)), (0, .ref m0), (1, .int lit)]) hx hb dX6_glareOf_70 hl (k := 2) rfl (nI_inc i) (by decide) rfl (fun ls hl => ?_)
              refine lv_goto (tgt := 4) hx hb dX6_glareOf_73 (by decide) ?_
              have ihx := ih4 (i + 1)  (by omega) (by omega)
              rw [show glS (g 0) (g 1) lit (i + 1) = glC (g 0 i) (g 1 i) lit (glS (g 0) (g 1) lit i) from rfl, show glC (g 0 i) (g 1 i) lit (glS (g 0) (g 1) lit i) = _ from by rw [glC, if_neg c31, if_neg c46, if_neg c53]] at ihx
              exact ihx _ _ hP hD hS _ (lv_sub hl [0, 1, 3, 4] rfl)
            · refine lv_aload_n hx hb dX6_glareOf_56 rfl (lv_at hl 3 rfl) ?_
              refine lv_iload_n hx hb dX6_glareOf_57 rfl (lv_at hl 1 rfl) ?_
              refine lv_iconst (v := 1) hx hb dX6_glareOf_58 (by decide) ?_
              refine frI (wc := [(m0, .inr (6, [.int th, .int (nI nD), .int (nI nT), .int (nI nC), .ref m1, .ref m2, .ref m3, .ref m4, .ref m5])), (m1, .inl (cI, 40, .inl (fl 5 g)))]) (wc' := [(m0, .inr (6, [.int th, .int (nI nD), .int (nI nT), .int (nI nC), .ref m1, .ref m2, .ref m3, .ref m4, .ref m5])), (m1, .inl (cI, 40, .inl (fl 5 g)))]) (w' := [(m0, .inr (6, [.int th, .int (nI nD), .int (nI nT), .int (nI nC), .ref m1, .ref m2, .ref m3, .ref m4, .ref m5])), (m1, .inl (cI, 40, .inl (fl 5 g)))]) hP hD hS hA [0, 1] [] [0, 1] rfl rfl rfl rfl rfl (va_runV (As := [.int (nI i), .int 1]) (rest := [.int (glS (g 0) (g 1) lit i)]) ⟨hx, hb, hml, hown, hts⟩ (tX6_la l D cI m0 m1 m2 m3 m4 m5 nD nT nC th g i 1 (by omega) (by omega) _) (cwV 2 hts gX6_glareOf_X6_la rfl rfl rfl hX6_la ⟨Nat.le_of_ble_eq_true rfl, Nat.le_of_ble_eq_true rfl⟩) (preV_of hk hP hD [0, 1] rfl rfl (recvO hk hP (ci := 6) (q0 := 0) rfl rfl)) rfl rfl hl.1 rfl (lv_room (Nat.le_of_ble_eq_true rfl)) dX6_glareOf_59 ⟨Nat.le_of_ble_eq_true rfl, Nat.le_of_ble_eq_true rfl⟩) (fun H locs hP hD hS => ?_)
              refine lv_iconst (v := 4) hx hb dX6_glareOf_62 (by decide) ?_
              refine lv_idiv hx hb dX6_glareOf_63 (by decide) ?_
              refine lv_goto (tgt := 68) hx hb dX6_glareOf_64 (by decide) ?_
              refine lv_iadd hx hb dX6_glareOf_68 ?_
              refine lv_istore_n (lv' := [(2, .int ((glS (g 0) (g 1) lit i) + (((g 1 i) / 4)))), (4, .int (fmod (g 0 i - lit) 12)), (3, .int (nI i)), (0, .ref m0), (1, .int lit)]) hx hb dX6_glareOf_69 rfl hl (by decide) rfl (fun ls hl => ?_)
              refine lv_iinc (v := nI (i + 1)) (lv' := [(3, .int (nI (i + 1))), (2, .int ((glS (g 0) (g 1) lit i) + (((g 1 i) / 4)))), (4, .int (fmod (g 0 i - lit) 12)), (0, .ref m0), (1, .int lit)]) hx hb dX6_glareOf_70 hl (k := 2) rfl (nI_inc i) (by decide) rfl (fun ls hl => ?_)
              refine lv_goto (tgt := 4) hx hb dX6_glareOf_73 (by decide) ?_
              have ihx := ih4 (i + 1)  (by omega) (by omega)
              rw [show glS (g 0) (g 1) lit (i + 1) = glC (g 0 i) (g 1 i) lit (glS (g 0) (g 1) lit i) from rfl, show glC (g 0 i) (g 1 i) lit (glS (g 0) (g 1) lit i) = _ from by rw [glC, if_neg c31, if_neg c46, if_pos c53]] at ihx
              exact ihx _ _ hP hD hS _ (lv_sub hl [0, 1, 3, 4] rfl)
        · refine lv_aload_n hx hb dX6_glareOf_34 rfl (lv_at hl 3 rfl) ?_
          refine lv_iload_n hx hb dX6_glareOf_35 rfl (lv_at hl 1 rfl) ?_
          refine lv_iconst (v := 1) hx hb dX6_glareOf_36 (by decide) ?_
          refine frI (wc := [(m0, .inr (6, [.int th, .int (nI nD), .int (nI nT), .int (nI nC), .ref m1, .ref m2, .ref m3, .ref m4, .ref m5])), (m1, .inl (cI, 40, .inl (fl 5 g)))]) (wc' := [(m0, .inr (6, [.int th, .int (nI nD), .int (nI nT), .int (nI nC), .ref m1, .ref m2, .ref m3, .ref m4, .ref m5])), (m1, .inl (cI, 40, .inl (fl 5 g)))]) (w' := [(m0, .inr (6, [.int th, .int (nI nD), .int (nI nT), .int (nI nC), .ref m1, .ref m2, .ref m3, .ref m4, .ref m5])), (m1, .inl (cI, 40, .inl (fl 5 g)))]) hP hD hS hA [0, 1] [] [0, 1] rfl rfl rfl rfl rfl (va_runV (As := [.int (nI i), .int 1]) (rest := [.int (glS (g 0) (g 1) lit i)]) ⟨hx, hb, hml, hown, hts⟩ (tX6_la l D cI m0 m1 m2 m3 m4 m5 nD nT nC th g i 1 (by omega) (by omega) _) (cwV 2 hts gX6_glareOf_X6_la rfl rfl rfl hX6_la ⟨Nat.le_of_ble_eq_true rfl, Nat.le_of_ble_eq_true rfl⟩) (preV_of hk hP hD [0, 1] rfl rfl (recvO hk hP (ci := 6) (q0 := 0) rfl rfl)) rfl rfl hl.1 rfl (lv_room (Nat.le_of_ble_eq_true rfl)) dX6_glareOf_37 ⟨Nat.le_of_ble_eq_true rfl, Nat.le_of_ble_eq_true rfl⟩) (fun H locs hP hD hS => ?_)
          refine lv_goto (tgt := 68) hx hb dX6_glareOf_40 (by decide) ?_
          refine lv_iadd hx hb dX6_glareOf_68 ?_
          refine lv_istore_n (lv' := [(2, .int ((glS (g 0) (g 1) lit i) + (g 1 i))), (4, .int (fmod (g 0 i - lit) 12)), (3, .int (nI i)), (0, .ref m0), (1, .int lit)]) hx hb dX6_glareOf_69 rfl hl (by decide) rfl (fun ls hl => ?_)
          refine lv_iinc (v := nI (i + 1)) (lv' := [(3, .int (nI (i + 1))), (2, .int ((glS (g 0) (g 1) lit i) + (g 1 i))), (4, .int (fmod (g 0 i - lit) 12)), (0, .ref m0), (1, .int lit)]) hx hb dX6_glareOf_70 hl (k := 2) rfl (nI_inc i) (by decide) rfl (fun ls hl => ?_)
          refine lv_goto (tgt := 4) hx hb dX6_glareOf_73 (by decide) ?_
          have ihx := ih4 (i + 1)  (by omega) (by omega)
          rw [show glS (g 0) (g 1) lit (i + 1) = glC (g 0 i) (g 1 i) lit (glS (g 0) (g 1) lit i) from rfl, show glC (g 0 i) (g 1 i) lit (glS (g 0) (g 1) lit i) = _ from by rw [glC, if_pos c31]] at ihx
          exact ihx _ _ hP hD hS _ (lv_sub hl [0, 1, 3, 4] rfl)
  exact key4 (nD + 1) 0  (by omega) (by omega)  _ _ hP hD hS _ (lv_sub hl [0, 1, 2, 3] rfl)

theorem mX6_glare_f25 : (.fieldLink RX6 25 "StarConsoleModel" "thrown" "I" : Cond) ∈ wsX6_glare := by decide +kernel
theorem iX6_glare_X6 : ∀ w ∈ wsX60, w ∈ wsX6_glare := by decide +kernel

theorem hX6_glare : yX6_glare.cls = RX6 ∧ yX6_glare.cls ≠ "java/lang/invoke/MethodHandle" ∧ yX6_glare.cls ≠ "java/lang/invoke/VarHandle" ∧ (parseMethodDescriptor yX6_glare.desc).map (fun d => d.parameters.length) = some 1 := by decide +kernel
set_option maxHeartbeats 4000000 in
set_option maxRecDepth 100000 in
theorem tX6_glare (l : Launch) (D : va_G) (cI : ClassId) (m0 m1 m2 m3 m4 m5 nD nT nC : Nat) (th : Int32) (g : Mx) (p0 : Int32) (hn : nD ≤ 8) (hg : gOK nD g) : CI l yX6_glare wsX6_glare ({ frames := 2, cells := 0, slots := 0, locals := 46 } : Room) D cI ([.ref m0, .int p0] : List Value) [(m0, .inr (6, [.int th, .int (nI nD), .int (nI nT), .int (nI nC), .ref m1, .ref m2, .ref m3, .ref m4, .ref m5])), (m1, .inl (cI, 40, .inl (fl 5 g)))] (sel (kGlare p0) (glS (g 0) (g 1) p0 nD) 0) [(m0, .inr (6, [.int (kGlare p0), .int (nI nD), .int (nI nT), .int (nI nC), .ref m1, .ref m2, .ref m3, .ref m4, .ref m5])), (m1, .inl (cI, 40, .inl (fl 5 g)))] := by
  refine entI (cc := cX6_glare) (maxL := 2) (ret := (some .int)) (by decide) rfl (Nat.le_of_ble_eq_true rfl) (fun p e s m below meth c A ls fx hl => ?_)
  have fx0 := fx
  obtain ⟨hx, hb, hr, hml, hown, hts, hlocks, hk, hP, hD, hA⟩ := fx
  have hown : s.vm.findClass RX6 = some m.cls := hown
  have hS : va_S A s.heap s.heap [] := va_S.rf
  have hP : va_P D vwCl [(m0, .inr (6, [.int th, .int (nI nD), .int (nI nT), .int (nI nC), .ref m1, .ref m2, .ref m3, .ref m4, .ref m5])), (m1, .inl (cI, 40, .inl (fl 5 g)))] s.heap := hP
  have hD : va_D A [(m0, .inr (6, [.int th, .int (nI nD), .int (nI nT), .int (nI nC), .ref m1, .ref m2, .ref m3, .ref m4, .ref m5])), (m1, .inl (cI, 40, .inl (fl 5 g)))] := hD
  have hl : lv_has ls 2 [(0, .ref m0), (1, .int p0)] := hl
  refine lv_aload_n hx hb dX6_glare_0 rfl (lv_at hl 0 rfl) ?_
  refine lv_iconst (v := 0) hx hb dX6_glare_1 (by decide) ?_
  refine va_put (D := D) (ci := 6) (v := .int 0) (ty := .int) (C := RX6) (T := TX6) (N := 9) hx hb hts iX6_glare_X6 tyX6 tyX6_ok nmX6 hown hk.1 hP hD hS 0 rfl rfl 0 (by decide) (hts _ mX6_glare_f25) (fun _ h9 => h9) rfl (by decide +kernel) rfl rfl (Nat.le_of_ble_eq_true rfl) dX6_glare_2 (fun H locs hP hD hS => ?_)
  have hP : va_P D vwCl [(m0, .inr (6, [.int 0, .int (nI nD), .int (nI nT), .int (nI nC), .ref m1, .ref m2, .ref m3, .ref m4, .ref m5])), (m1, .inl (cI, 40, .inl (fl 5 g)))] H := hP
  have hD : va_D A [(m0, .inr (6, [.int 0, .int (nI nD), .int (nI nT), .int (nI nC), .ref m1, .ref m2, .ref m3, .ref m4, .ref m5])), (m1, .inl (cI, 40, .inl (fl 5 g)))] := hD
  refine lv_iload_n hx hb dX6_glare_5 rfl (lv_at hl 1 rfl) ?_
  refine lv_iconst (v := 0) hx hb dX6_glare_6 (by decide) ?_
  refine lv_bipush (v := 11) hx hb dX6_glare_7 (by decide) ?_
  refine frI (wc := []) (wc' := []) (w' := [(m0, .inr (6, [.int 0, .int (nI nD), .int (nI nT), .int (nI nC), .ref m1, .ref m2, .ref m3, .ref m4, .ref m5])), (m1, .inl (cI, 40, .inl (fl 5 g)))]) hP hD hS hA [] [0, 1] [0, 1] rfl rfl rfl rfl rfl (va_runS (As := [.int p0, .int 0, .int 11]) (rest := []) ⟨hx, hb, hml, hown, hts⟩ (tX6_isIn l D cI p0 0 11  _) (va_cwS 3 hts gX6_glare_X6_isIn rfl rfl rfl hX6_isIn.2 ⟨Nat.le_of_ble_eq_true rfl, Nat.le_of_ble_eq_true rfl⟩) (preS_of hk hP hD [] rfl rfl) rfl rfl hl.1 rfl (lv_room (Nat.le_of_ble_eq_true rfl)) dX6_glare_9 ⟨Nat.le_of_ble_eq_true rfl, Nat.le_of_ble_eq_true rfl⟩) (fun H locs hP hD hS => ?_)
  refine lv_if_eq (tgt := 23) hx hb dX6_glare_12 (by decide) (fun c12 => ?_) (fun c12 => ?_)
  · rw [show kGlare p0 = 1 from by rw [kGlare, if_pos c12]]
    refine lv_aload_n hx hb dX6_glare_23 rfl (lv_at hl 0 rfl) ?_
    refine lv_iconst (v := 1) hx hb dX6_glare_24 (by decide) ?_
    refine frI (wc := [(m0, .inr (6, [.int 0, .int (nI nD), .int (nI nT), .int (nI nC), .ref m1, .ref m2, .ref m3, .ref m4, .ref m5]))]) (wc' := [(m0, .inr (6, [.int 1, .int (nI nD), .int (nI nT), .int (nI nC), .ref m1, .ref m2, .ref m3, .ref m4, .ref m5]))]) (w' := [(m0, .inr (6, [.int 1, .int (nI nD), .int (nI nT), .int (nI nC), .ref m1, .ref m2, .ref m3, .ref m4, .ref m5])), (m1, .inl (cI, 40, .inl (fl 5 g)))]) hP hD hS hA [0] [1] [1, 0] rfl rfl rfl rfl rfl (va_runV (As := [.int 1]) (rest := []) ⟨hx, hb, hml, hown, hts⟩ (tX6_fail l D cI m0 m1 m2 m3 m4 m5 nD nT nC 0 1  _) (cwV 1 hts gX6_glare_X6_fail rfl rfl rfl hX6_fail ⟨Nat.le_of_ble_eq_true rfl, Nat.le_of_ble_eq_true rfl⟩) (preV_of hk hP hD [0] rfl rfl (recvO hk hP (ci := 6) (q0 := 0) rfl rfl)) rfl rfl hl.1 rfl (lv_room (Nat.le_of_ble_eq_true rfl)) dX6_glare_25 ⟨Nat.le_of_ble_eq_true rfl, Nat.le_of_ble_eq_true rfl⟩) (fun H locs hP hD hS => ?_)
    exact retI hx hb hr hlocks hS hP hD dX6_glare_28 (rfl) rfl
  · rw [show kGlare p0 = 0 from by rw [kGlare, if_neg c12]]
    refine lv_aload_n hx hb dX6_glare_15 rfl (lv_at hl 0 rfl) ?_
    refine lv_iload_n hx hb dX6_glare_16 rfl (lv_at hl 1 rfl) ?_
    refine frI (wc := [(m0, .inr (6, [.int 0, .int (nI nD), .int (nI nT), .int (nI nC), .ref m1, .ref m2, .ref m3, .ref m4, .ref m5])), (m1, .inl (cI, 40, .inl (fl 5 g)))]) (wc' := [(m0, .inr (6, [.int 0, .int (nI nD), .int (nI nT), .int (nI nC), .ref m1, .ref m2, .ref m3, .ref m4, .ref m5])), (m1, .inl (cI, 40, .inl (fl 5 g)))]) (w' := [(m0, .inr (6, [.int 0, .int (nI nD), .int (nI nT), .int (nI nC), .ref m1, .ref m2, .ref m3, .ref m4, .ref m5])), (m1, .inl (cI, 40, .inl (fl 5 g)))]) hP hD hS hA [0, 1] [] [0, 1] rfl rfl rfl rfl rfl (va_runV (As := [.int p0]) (rest := []) ⟨hx, hb, hml, hown, hts⟩ (tX6_glareOf l D cI m0 m1 m2 m3 m4 m5 nD nT nC 0 g p0 hn hg (wi_bnd (lo := 0) (hi := 11) c12 (by decide) (by decide)) _) (cwV 1 hts gX6_glare_X6_glareOf rfl rfl rfl hX6_glareOf ⟨Nat.le_of_ble_eq_true rfl, Nat.le_of_ble_eq_true rfl⟩) (preV_of hk hP hD [0, 1] rfl rfl (recvO hk hP (ci := 6) (q0 := 0) rfl rfl)) rfl rfl hl.1 rfl (lv_room (Nat.le_of_ble_eq_true rfl)) dX6_glare_17 ⟨Nat.le_of_ble_eq_true rfl, Nat.le_of_ble_eq_true rfl⟩) (fun H locs hP hD hS => ?_)
    refine lv_goto (tgt := 28) hx hb dX6_glare_20 (by decide) ?_
    exact retI hx hb hr hlocks hS hP hD dX6_glare_28 (rfl) rfl

theorem mX6_stands_f13 : (.fieldLink RX6 13 "StarConsoleModel" "sky" "[I" : Cond) ∈ wsX6_stands := by decide +kernel
theorem iX6_stands_X6 : ∀ w ∈ wsX60, w ∈ wsX6_stands := by decide +kernel
theorem mX6_stands_f22 : (.fieldLink RX6 22 "StarConsoleModel" "numbers" "[I" : Cond) ∈ wsX6_stands := by decide +kernel

theorem hX6_stands : yX6_stands.cls = RX6 ∧ yX6_stands.cls ≠ "java/lang/invoke/MethodHandle" ∧ yX6_stands.cls ≠ "java/lang/invoke/VarHandle" ∧ (parseMethodDescriptor yX6_stands.desc).map (fun d => d.parameters.length) = some 1 := by decide +kernel
set_option maxHeartbeats 4000000 in
set_option maxRecDepth 100000 in
theorem tX6_stands (l : Launch) (D : va_G) (cI : ClassId) (m0 m1 m2 m3 m4 m5 nD nT nC : Nat) (th : Int32) (st : Mx) (nu : Nat → Int32) (nK k : Nat) (hT : nT ≤ 20) (ht : tOK nT st) (hb5 : bnd (nu 5) 0 359) (hk8 : k < nT) : CI l yX6_stands wsX6_stands ({ frames := 0, cells := 0, slots := 0, locals := 0 } : Room) D cI ([.ref m0, .int (nI k)] : List Value) [(m0, .inr (6, [.int th, .int (nI nD), .int (nI nT), .int (nI nC), .ref m1, .ref m2, .ref m3, .ref m4, .ref m5])), (m2, .inl (cI, 40, .inl (fl 2 st))), (m5, .inl (cI, 8, .inl (numA nu nK)))] (tnd (st 0 k) (nu 5)) [(m0, .inr (6, [.int th, .int (nI nD), .int (nI nT), .int (nI nC), .ref m1, .ref m2, .ref m3, .ref m4, .ref m5])), (m2, .inl (cI, 40, .inl (fl 2 st))), (m5, .inl (cI, 8, .inl (numA nu nK)))] := by
  refine entI (cc := cX6_stands) (maxL := 2) (ret := (some .int)) (by decide) rfl (Nat.le_of_ble_eq_true rfl) (fun p e s m below meth c A ls fx hl => ?_)
  have fx0 := fx
  obtain ⟨hx, hb, hr, hml, hown, hts, hlocks, hk, hP, hD, hA⟩ := fx
  have hown : s.vm.findClass RX6 = some m.cls := hown
  have hS : va_S A s.heap s.heap [] := va_S.rf
  have hP : va_P D vwCl [(m0, .inr (6, [.int th, .int (nI nD), .int (nI nT), .int (nI nC), .ref m1, .ref m2, .ref m3, .ref m4, .ref m5])), (m2, .inl (cI, 40, .inl (fl 2 st))), (m5, .inl (cI, 8, .inl (numA nu nK)))] s.heap := hP
  have hD : va_D A [(m0, .inr (6, [.int th, .int (nI nD), .int (nI nT), .int (nI nC), .ref m1, .ref m2, .ref m3, .ref m4, .ref m5])), (m2, .inl (cI, 40, .inl (fl 2 st))), (m5, .inl (cI, 8, .inl (numA nu nK)))] := hD
  have hl : lv_has ls 2 [(0, .ref m0), (1, .int (nI k))] := hl
  refine lv_aload_n hx hb dX6_stands_0 rfl (lv_at hl 0 rfl) ?_
  refine va_get (D := D) (ci := 6) (v := .ref m2) (C := RX6) (T := TX6) (N := 9) hx hb hts iX6_stands_X6 hown hk.1 hP 0 rfl rfl 5 (by decide) (hts _ mX6_stands_f13) (fun _ h9 => h9) rfl dX6_stands_1 ?_
  refine lv_iconst (v := 2) hx hb dX6_stands_4 (by decide) ?_
  refine lv_iload_n hx hb dX6_stands_5 rfl (lv_at hl 1 rfl) ?_
  refine lv_imul hx hb dX6_stands_6 ?_
  refine top_int (nmulE (a := 2) (b := k) rfl rfl) ?_
  refine aldN hx hb hk hP 1 rfl (2 * k) rfl (by omega) (Nat.le_of_ble_eq_true rfl) dX6_stands_7 ?_
  refine top_int (fl_r0 (d := k) (by omega)) ?_
  refine lv_aload_n hx hb dX6_stands_8 rfl (lv_at hl 0 rfl) ?_
  refine va_get (D := D) (ci := 6) (v := .ref m5) (C := RX6) (T := TX6) (N := 9) hx hb hts iX6_stands_X6 hown hk.1 hP 0 rfl rfl 8 (by decide) (hts _ mX6_stands_f22) (fun _ h9 => h9) rfl dX6_stands_9 ?_
  refine lv_iconst (v := 5) hx hb dX6_stands_12 (by decide) ?_
  refine aldN hx hb hk hP 2 rfl 5 rfl (by omega) (Nat.le_of_ble_eq_true rfl) dX6_stands_13 ?_
  refine top_int (show _ = (nu 5 : Int32) from rfl) ?_
  refine lv_iadd hx hb dX6_stands_14 ?_
  refine lv_sipush (v := 360) hx hb dX6_stands_15 (by decide) ?_
  refine lv_irem hx hb dX6_stands_18 (by decide) ?_
  refine top_int (show _ = irm (((st 0 k) + (nu 5))) 360 from rfl) ?_
  exact retI hx hb hr hlocks hS hP hD dX6_stands_19 ((tnd_st (ht k hk8) hb5).1) rfl



theorem hX6_isSeen : yX6_isSeen.cls = RX6 ∧ yX6_isSeen.cls ≠ "java/lang/invoke/MethodHandle" ∧ yX6_isSeen.cls ≠ "java/lang/invoke/VarHandle" ∧ (parseMethodDescriptor yX6_isSeen.desc).map (fun d => d.parameters.length) = some 2 := by decide +kernel
set_option maxHeartbeats 4000000 in
set_option maxRecDepth 100000 in
theorem tX6_isSeen (l : Launch) (D : va_G) (cI : ClassId) (m0 m1 m2 m3 m4 m5 nD nT nC : Nat) (th : Int32) (g : Mx) (an li : Int32) (hn : nD ≤ 8) (hg : gOK nD g) (ha : bnd an 0 359) : CI l yX6_isSeen wsX6_isSeen ({ frames := 2, cells := 0, slots := 0, locals := 46 } : Room) D cI ([.ref m0, .int an, .int li] : List Value) [(m0, .inr (6, [.int th, .int (nI nD), .int (nI nT), .int (nI nC), .ref m1, .ref m2, .ref m3, .ref m4, .ref m5])), (m1, .inl (cI, 40, .inl (fl 5 g)))] (osI nD g an li) [(m0, .inr (6, [.int th, .int (nI nD), .int (nI nT), .int (nI nC), .ref m1, .ref m2, .ref m3, .ref m4, .ref m5])), (m1, .inl (cI, 40, .inl (fl 5 g)))] := by
  refine entI (cc := cX6_isSeen) (maxL := 3) (ret := (some .boolean)) (by decide) rfl (Nat.le_of_ble_eq_true rfl) (fun p e s m below meth c A ls fx hl => ?_)
  have fx0 := fx
  obtain ⟨hx, hb, hr, hml, hown, hts, hlocks, hk, hP, hD, hA⟩ := fx
  have hown : s.vm.findClass RX6 = some m.cls := hown
  have hS : va_S A s.heap s.heap [] := va_S.rf
  have hP : va_P D vwCl [(m0, .inr (6, [.int th, .int (nI nD), .int (nI nT), .int (nI nC), .ref m1, .ref m2, .ref m3, .ref m4, .ref m5])), (m1, .inl (cI, 40, .inl (fl 5 g)))] s.heap := hP
  have hD : va_D A [(m0, .inr (6, [.int th, .int (nI nD), .int (nI nT), .int (nI nC), .ref m1, .ref m2, .ref m3, .ref m4, .ref m5])), (m1, .inl (cI, 40, .inl (fl 5 g)))] := hD
  have hl : lv_has ls 3 [(0, .ref m0), (1, .int an), (2, .int li)] := hl
  refine lv_bipush (v := 10) hx hb dX6_isSeen_0 (by decide) ?_
  refine lv_iload_n hx hb dX6_isSeen_2 rfl (lv_at hl 2 rfl) ?_
  refine lv_imul hx hb dX6_isSeen_3 ?_
  refine lv_aload_n hx hb dX6_isSeen_4 rfl (lv_at hl 0 rfl) ?_
  refine lv_iload_n hx hb dX6_isSeen_5 rfl (lv_at hl 1 rfl) ?_
  refine lv_bipush (v := 30) hx hb dX6_isSeen_6 (by decide) ?_
  refine lv_idiv hx hb dX6_isSeen_8 (by decide) ?_
  refine frI (wc := [(m0, .inr (6, [.int th, .int (nI nD), .int (nI nT), .int (nI nC), .ref m1, .ref m2, .ref m3, .ref m4, .ref m5])), (m1, .inl (cI, 40, .inl (fl 5 g)))]) (wc' := [(m0, .inr (6, [.int th, .int (nI nD), .int (nI nT), .int (nI nC), .ref m1, .ref m2, .ref m3, .ref m4, .ref m5])), (m1, .inl (cI, 40, .inl (fl 5 g)))]) (w' := [(m0, .inr (6, [.int th, .int (nI nD), .int (nI nT), .int (nI nC), .ref m1, .ref m2, .ref m3, .ref m4, .ref m5])), (m1, .inl (cI, 40, .inl (fl 5 g)))]) hP hD hS hA [0, 1] [] [0, 1] rfl rfl rfl rfl rfl (va_runV (As := [.int (an / 30)]) (rest := [.int (10 * li)]) ⟨hx, hb, hml, hown, hts⟩ (tX6_glareOf l D cI m0 m1 m2 m3 m4 m5 nD nT nC th g (an / 30) hn hg (pt_rd ha) _) (cwV 1 hts gX6_isSeen_X6_glareOf rfl rfl rfl hX6_glareOf ⟨Nat.le_of_ble_eq_true rfl, Nat.le_of_ble_eq_true rfl⟩) (preV_of hk hP hD [0, 1] rfl rfl (recvO hk hP (ci := 6) (q0 := 0) rfl rfl)) rfl rfl hl.1 rfl (lv_room (Nat.le_of_ble_eq_true rfl)) dX6_isSeen_9 ⟨Nat.le_of_ble_eq_true rfl, Nat.le_of_ble_eq_true rfl⟩) (fun H locs hP hD hS => ?_)
  refine lv_icmp_le (tgt := 19) hx hb dX6_isSeen_12 (by decide) (fun c12 => ?_) (fun c12 => ?_)
  · refine lv_iconst (v := 0) hx hb dX6_isSeen_19 (by decide) ?_
    exact retI hx hb hr hlocks hS hP hD dX6_isSeen_20 (by rw [osI, if_pos c12]) rfl
  · refine lv_iconst (v := 1) hx hb dX6_isSeen_15 (by decide) ?_
    refine lv_goto (tgt := 20) hx hb dX6_isSeen_16 (by decide) ?_
    exact retI hx hb hr hlocks hS hP hD dX6_isSeen_20 (by rw [osI, if_neg c12]) rfl

theorem mX6_starTold_f13 : (.fieldLink RX6 13 "StarConsoleModel" "sky" "[I" : Cond) ∈ wsX6_starTold := by decide +kernel
theorem iX6_starTold_X6 : ∀ w ∈ wsX60, w ∈ wsX6_starTold := by decide +kernel

theorem hX6_starTold : yX6_starTold.cls = RX6 ∧ yX6_starTold.cls ≠ "java/lang/invoke/MethodHandle" ∧ yX6_starTold.cls ≠ "java/lang/invoke/VarHandle" ∧ (parseMethodDescriptor yX6_starTold.desc).map (fun d => d.parameters.length) = some 2 := by decide +kernel
set_option maxHeartbeats 4000000 in
set_option maxRecDepth 100000 in
theorem tX6_starTold (l : Launch) (D : va_G) (cI : ClassId) (m0 m1 m2 m3 m4 m5 nD nT nC : Nat) (th : Int32) (g st : Mx) (nu : Nat → Int32) (nK k v : Nat) (hn : nD ≤ 8) (hg : gOK nD g) (hT : nT ≤ 20) (ht : tOK nT st) (hb5 : bnd (nu 5) 0 359) (hk8 : k < nT) (hv : v < 4) : CI l yX6_starTold wsX6_starTold ({ frames := 3, cells := 0, slots := 0, locals := 68 } : Room) D cI ([.ref m0, .int (nI k), .int (nI v)] : List Value) [(m0, .inr (6, [.int th, .int (nI nD), .int (nI nT), .int (nI nC), .ref m1, .ref m2, .ref m3, .ref m4, .ref m5])), (m1, .inl (cI, 40, .inl (fl 5 g))), (m2, .inl (cI, 40, .inl (fl 2 st))), (m5, .inl (cI, 8, .inl (numA nu nK)))] (fcS nD g st (nu 5) k (nI v)) [(m0, .inr (6, [.int th, .int (nI nD), .int (nI nT), .int (nI nC), .ref m1, .ref m2, .ref m3, .ref m4, .ref m5])), (m1, .inl (cI, 40, .inl (fl 5 g))), (m2, .inl (cI, 40, .inl (fl 2 st))), (m5, .inl (cI, 8, .inl (numA nu nK)))] := by
  refine entI (cc := cX6_starTold) (maxL := 3) (ret := (some .int)) (by decide) rfl (Nat.le_of_ble_eq_true rfl) (fun p e s m below meth c A ls fx hl => ?_)
  have fx0 := fx
  obtain ⟨hx, hb, hr, hml, hown, hts, hlocks, hk, hP, hD, hA⟩ := fx
  have hown : s.vm.findClass RX6 = some m.cls := hown
  have hS : va_S A s.heap s.heap [] := va_S.rf
  have hP : va_P D vwCl [(m0, .inr (6, [.int th, .int (nI nD), .int (nI nT), .int (nI nC), .ref m1, .ref m2, .ref m3, .ref m4, .ref m5])), (m1, .inl (cI, 40, .inl (fl 5 g))), (m2, .inl (cI, 40, .inl (fl 2 st))), (m5, .inl (cI, 8, .inl (numA nu nK)))] s.heap := hP
  have hD : va_D A [(m0, .inr (6, [.int th, .int (nI nD), .int (nI nT), .int (nI nC), .ref m1, .ref m2, .ref m3, .ref m4, .ref m5])), (m1, .inl (cI, 40, .inl (fl 5 g))), (m2, .inl (cI, 40, .inl (fl 2 st))), (m5, .inl (cI, 8, .inl (numA nu nK)))] := hD
  have hl : lv_has ls 3 [(0, .ref m0), (1, .int (nI k)), (2, .int (nI v))] := hl
  refine lv_iload_n hx hb dX6_starTold_0 rfl (lv_at hl 2 rfl) ?_
  refine lv_iconst (v := 2) hx hb dX6_starTold_1 (by decide) ?_
  refine icgeN (i := v) (n := 2) (tgt := 18) hx hb (by omega) (by omega) dX6_starTold_2 (by decide) (fun c2 => ?_) (fun c2 => ?_)
  · refine lv_iload_n hx hb dX6_starTold_18 rfl (lv_at hl 2 rfl) ?_
    refine lv_iconst (v := 2) hx hb dX6_starTold_19 (by decide) ?_
    refine icneN (i := v) (n := 2) (tgt := 31) hx hb (by omega) (by omega) dX6_starTold_20 (by decide) (fun c20 => ?_) (fun c20 => ?_)
    · refine lv_aload_n hx hb dX6_starTold_31 rfl (lv_at hl 0 rfl) ?_
      refine lv_aload_n hx hb dX6_starTold_32 rfl (lv_at hl 0 rfl) ?_
      refine lv_iload_n hx hb dX6_starTold_33 rfl (lv_at hl 1 rfl) ?_
      refine frI (wc := [(m0, .inr (6, [.int th, .int (nI nD), .int (nI nT), .int (nI nC), .ref m1, .ref m2, .ref m3, .ref m4, .ref m5])), (m2, .inl (cI, 40, .inl (fl 2 st))), (m5, .inl (cI, 8, .inl (numA nu nK)))]) (wc' := [(m0, .inr (6, [.int th, .int (nI nD), .int (nI nT), .int (nI nC), .ref m1, .ref m2, .ref m3, .ref m4, .ref m5])), (m2, .inl (cI, 40, .inl (fl 2 st))), (m5, .inl (cI, 8, .inl (numA nu nK)))]) (w' := [(m0, .inr (6, [.int th, .int (nI nD), .int (nI nT), .int (nI nC), .ref m1, .ref m2, .ref m3, .ref m4, .ref m5])), (m1, .inl (cI, 40, .inl (fl 5 g))), (m2, .inl (cI, 40, .inl (fl 2 st))), (m5, .inl (cI, 8, .inl (numA nu nK)))]) hP hD hS hA [0, 2, 3] [1] [1, 0, 2, 3] rfl rfl rfl rfl rfl (va_runV (As := [.int (nI k)]) (rest := [.ref m0]) ⟨hx, hb, hml, hown, hts⟩ (tX6_stands l D cI m0 m1 m2 m3 m4 m5 nD nT nC th st nu nK k hT ht hb5 hk8 _) (cwV 1 hts gX6_starTold_X6_stands rfl rfl rfl hX6_stands ⟨Nat.le_of_ble_eq_true rfl, Nat.le_of_ble_eq_true rfl⟩) (preV_of hk hP hD [0, 2, 3] rfl rfl (recvO hk hP (ci := 6) (q0 := 0) rfl rfl)) rfl rfl hl.1 rfl (lv_room (Nat.le_of_ble_eq_true rfl)) dX6_starTold_34 ⟨Nat.le_of_ble_eq_true rfl, Nat.le_of_ble_eq_true rfl⟩) (fun H locs hP hD hS => ?_)
      refine lv_aload_n hx hb dX6_starTold_37 rfl (lv_at hl 0 rfl) ?_
      refine va_get (D := D) (ci := 6) (v := .ref m2) (C := RX6) (T := TX6) (N := 9) hx hb hts iX6_starTold_X6 hown hk.1 hP 0 rfl rfl 5 (by decide) (hts _ mX6_starTold_f13) (fun _ h9 => h9) rfl dX6_starTold_38 ?_
      refine lv_iconst (v := 2) hx hb dX6_starTold_41 (by decide) ?_
      refine lv_iload_n hx hb dX6_starTold_42 rfl (lv_at hl 1 rfl) ?_
      refine lv_imul hx hb dX6_starTold_43 ?_
      refine top_int (nmulE (a := 2) (b := k) rfl rfl) ?_
      refine lv_iconst (v := 1) hx hb dX6_starTold_44 (by decide) ?_
      refine lv_iadd hx hb dX6_starTold_45 ?_
      refine top_int (naddE (a := 2 * k) (b := 1) rfl rfl) ?_
      refine aldN hx hb hk hP 2 rfl ((2 * k) + 1) rfl (by omega) (Nat.le_of_ble_eq_true rfl) dX6_starTold_46 ?_
      refine top_int (fl_r (d := k) (w := 1) (by omega)) ?_
      refine frI (wc := [(m0, .inr (6, [.int th, .int (nI nD), .int (nI nT), .int (nI nC), .ref m1, .ref m2, .ref m3, .ref m4, .ref m5])), (m1, .inl (cI, 40, .inl (fl 5 g)))]) (wc' := [(m0, .inr (6, [.int th, .int (nI nD), .int (nI nT), .int (nI nC), .ref m1, .ref m2, .ref m3, .ref m4, .ref m5])), (m1, .inl (cI, 40, .inl (fl 5 g)))]) (w' := [(m0, .inr (6, [.int th, .int (nI nD), .int (nI nT), .int (nI nC), .ref m1, .ref m2, .ref m3, .ref m4, .ref m5])), (m1, .inl (cI, 40, .inl (fl 5 g))), (m2, .inl (cI, 40, .inl (fl 2 st))), (m5, .inl (cI, 8, .inl (numA nu nK)))]) hP hD hS hA [0, 1] [2, 3] [2, 3, 0, 1] rfl rfl rfl rfl rfl (va_runV (As := [.int (tnd (st 0 k) (nu 5)), .int (st 1 k)]) (rest := []) ⟨hx, hb, hml, hown, hts⟩ (tX6_isSeen l D cI m0 m1 m2 m3 m4 m5 nD nT nC th g (tnd (st 0 k) (nu 5)) (st 1 k) hn hg (tnd_st (ht k hk8) hb5).2 _) (cwV 2 hts gX6_starTold_X6_isSeen rfl rfl rfl hX6_isSeen ⟨Nat.le_of_ble_eq_true rfl, Nat.le_of_ble_eq_true rfl⟩) (preV_of hk hP hD [0, 1] rfl rfl (recvO hk hP (ci := 6) (q0 := 0) rfl rfl)) rfl rfl hl.1 rfl (lv_room (Nat.le_of_ble_eq_true rfl)) dX6_starTold_47 ⟨Nat.le_of_ble_eq_true rfl, Nat.le_of_ble_eq_true rfl⟩) (fun H locs hP hD hS => ?_)
      refine lv_if_eq (tgt := 57) hx hb dX6_starTold_50 (by decide) (fun c50 => ?_) (fun c50 => ?_)
      · refine lv_iconst (v := 0) hx hb dX6_starTold_57 (by decide) ?_
        exact retI hx hb hr hlocks hS hP hD dX6_starTold_58 (by have hv3 : v = 3 := (by omega); subst hv3; show (0 : Int32) = ssI nD g st (nu 5) k; rw [ssI, if_pos c50]) rfl
      · refine lv_iconst (v := 1) hx hb dX6_starTold_53 (by decide) ?_
        refine lv_goto (tgt := 58) hx hb dX6_starTold_54 (by decide) ?_
        exact retI hx hb hr hlocks hS hP hD dX6_starTold_58 (by have hv3 : v = 3 := (by omega); subst hv3; show (1 : Int32) = ssI nD g st (nu 5) k; rw [ssI, if_neg c50]) rfl
    · refine lv_aload_n hx hb dX6_starTold_23 rfl (lv_at hl 0 rfl) ?_
      refine lv_iload_n hx hb dX6_starTold_24 rfl (lv_at hl 1 rfl) ?_
      refine frI (wc := [(m0, .inr (6, [.int th, .int (nI nD), .int (nI nT), .int (nI nC), .ref m1, .ref m2, .ref m3, .ref m4, .ref m5])), (m2, .inl (cI, 40, .inl (fl 2 st))), (m5, .inl (cI, 8, .inl (numA nu nK)))]) (wc' := [(m0, .inr (6, [.int th, .int (nI nD), .int (nI nT), .int (nI nC), .ref m1, .ref m2, .ref m3, .ref m4, .ref m5])), (m2, .inl (cI, 40, .inl (fl 2 st))), (m5, .inl (cI, 8, .inl (numA nu nK)))]) (w' := [(m0, .inr (6, [.int th, .int (nI nD), .int (nI nT), .int (nI nC), .ref m1, .ref m2, .ref m3, .ref m4, .ref m5])), (m1, .inl (cI, 40, .inl (fl 5 g))), (m2, .inl (cI, 40, .inl (fl 2 st))), (m5, .inl (cI, 8, .inl (numA nu nK)))]) hP hD hS hA [0, 2, 3] [1] [1, 0, 2, 3] rfl rfl rfl rfl rfl (va_runV (As := [.int (nI k)]) (rest := []) ⟨hx, hb, hml, hown, hts⟩ (tX6_stands l D cI m0 m1 m2 m3 m4 m5 nD nT nC th st nu nK k hT ht hb5 hk8 _) (cwV 1 hts gX6_starTold_X6_stands rfl rfl rfl hX6_stands ⟨Nat.le_of_ble_eq_true rfl, Nat.le_of_ble_eq_true rfl⟩) (preV_of hk hP hD [0, 2, 3] rfl rfl (recvO hk hP (ci := 6) (q0 := 0) rfl rfl)) rfl rfl hl.1 rfl (lv_room (Nat.le_of_ble_eq_true rfl)) dX6_starTold_25 ⟨Nat.le_of_ble_eq_true rfl, Nat.le_of_ble_eq_true rfl⟩) (fun H locs hP hD hS => ?_)
      refine lv_goto (tgt := 58) hx hb dX6_starTold_28 (by decide) ?_
      exact retI hx hb hr hlocks hS hP hD dX6_starTold_58 (by subst c20; rfl) rfl
  · refine lv_aload_n hx hb dX6_starTold_5 rfl (lv_at hl 0 rfl) ?_
    refine va_get (D := D) (ci := 6) (v := .ref m2) (C := RX6) (T := TX6) (N := 9) hx hb hts iX6_starTold_X6 hown hk.1 hP 0 rfl rfl 5 (by decide) (hts _ mX6_starTold_f13) (fun _ h9 => h9) rfl dX6_starTold_6 ?_
    refine lv_iconst (v := 2) hx hb dX6_starTold_9 (by decide) ?_
    refine lv_iload_n hx hb dX6_starTold_10 rfl (lv_at hl 1 rfl) ?_
    refine lv_imul hx hb dX6_starTold_11 ?_
    refine top_int (nmulE (a := 2) (b := k) rfl rfl) ?_
    refine lv_iload_n hx hb dX6_starTold_12 rfl (lv_at hl 2 rfl) ?_
    refine lv_iadd hx hb dX6_starTold_13 ?_
    refine top_int (naddE (a := 2 * k) (b := v) rfl rfl) ?_
    refine aldN hx hb hk hP 2 rfl ((2 * k) + v) rfl (by omega) (Nat.le_of_ble_eq_true rfl) dX6_starTold_14 ?_
    refine top_int (fl_r (d := k) (w := v) (by omega)) ?_
    refine lv_goto (tgt := 58) hx hb dX6_starTold_15 (by decide) ?_
    exact retI hx hb hr hlocks hS hP hD dX6_starTold_58 (by rcases (show v = 0 ∨ v = 1 by omega) with rfl | rfl <;> rfl) rfl

theorem mX6_about_f25 : (.fieldLink RX6 25 "StarConsoleModel" "thrown" "I" : Cond) ∈ wsX6_about := by decide +kernel
theorem iX6_about_X6 : ∀ w ∈ wsX60, w ∈ wsX6_about := by decide +kernel
theorem mX6_about_f58 : (.fieldLink RX6 58 "StarConsoleModel" "stars" "I" : Cond) ∈ wsX6_about := by decide +kernel

theorem hX6_about : yX6_about.cls = RX6 ∧ yX6_about.cls ≠ "java/lang/invoke/MethodHandle" ∧ yX6_about.cls ≠ "java/lang/invoke/VarHandle" ∧ (parseMethodDescriptor yX6_about.desc).map (fun d => d.parameters.length) = some 2 := by decide +kernel
set_option maxHeartbeats 4000000 in
set_option maxRecDepth 100000 in
theorem tX6_about (l : Launch) (D : va_G) (cI : ClassId) (m0 m1 m2 m3 m4 m5 nD nT nC : Nat) (th : Int32) (g st : Mx) (nu : Nat → Int32) (nK : Nat) (d x : Int32) (hn : nD ≤ 8) (hg : gOK nD g) (hT : nT ≤ 20) (ht : tOK nT st) (hb5 : bnd (nu 5) 0 359) : CI l yX6_about wsX6_about ({ frames := 4, cells := 0, slots := 0, locals := 90 } : Room) D cI ([.ref m0, .int d, .int x] : List Value) [(m0, .inr (6, [.int th, .int (nI nD), .int (nI nT), .int (nI nC), .ref m1, .ref m2, .ref m3, .ref m4, .ref m5])), (m1, .inl (cI, 40, .inl (fl 5 g))), (m2, .inl (cI, 40, .inl (fl 2 st))), (m5, .inl (cI, 8, .inl (numA nu nK)))] (sel (kThree nT d x) (fcS nD g st (nu 5) (ix d) x) 0) [(m0, .inr (6, [.int (kThree nT d x), .int (nI nD), .int (nI nT), .int (nI nC), .ref m1, .ref m2, .ref m3, .ref m4, .ref m5])), (m1, .inl (cI, 40, .inl (fl 5 g))), (m2, .inl (cI, 40, .inl (fl 2 st))), (m5, .inl (cI, 8, .inl (numA nu nK)))] := by
  refine entI (cc := cX6_about) (maxL := 3) (ret := (some .int)) (by decide) rfl (Nat.le_of_ble_eq_true rfl) (fun p e s m below meth c A ls fx hl => ?_)
  have fx0 := fx
  obtain ⟨hx, hb, hr, hml, hown, hts, hlocks, hk, hP, hD, hA⟩ := fx
  have hown : s.vm.findClass RX6 = some m.cls := hown
  have hS : va_S A s.heap s.heap [] := va_S.rf
  have hP : va_P D vwCl [(m0, .inr (6, [.int th, .int (nI nD), .int (nI nT), .int (nI nC), .ref m1, .ref m2, .ref m3, .ref m4, .ref m5])), (m1, .inl (cI, 40, .inl (fl 5 g))), (m2, .inl (cI, 40, .inl (fl 2 st))), (m5, .inl (cI, 8, .inl (numA nu nK)))] s.heap := hP
  have hD : va_D A [(m0, .inr (6, [.int th, .int (nI nD), .int (nI nT), .int (nI nC), .ref m1, .ref m2, .ref m3, .ref m4, .ref m5])), (m1, .inl (cI, 40, .inl (fl 5 g))), (m2, .inl (cI, 40, .inl (fl 2 st))), (m5, .inl (cI, 8, .inl (numA nu nK)))] := hD
  have hl : lv_has ls 3 [(0, .ref m0), (1, .int d), (2, .int x)] := hl
  refine lv_aload_n hx hb dX6_about_0 rfl (lv_at hl 0 rfl) ?_
  refine lv_iconst (v := 0) hx hb dX6_about_1 (by decide) ?_
  refine va_put (D := D) (ci := 6) (v := .int 0) (ty := .int) (C := RX6) (T := TX6) (N := 9) hx hb hts iX6_about_X6 tyX6 tyX6_ok nmX6 hown hk.1 hP hD hS 0 rfl rfl 0 (by decide) (hts _ mX6_about_f25) (fun _ h9 => h9) rfl (by decide +kernel) rfl rfl (Nat.le_of_ble_eq_true rfl) dX6_about_2 (fun H locs hP hD hS => ?_)
  have hP : va_P D vwCl [(m0, .inr (6, [.int 0, .int (nI nD), .int (nI nT), .int (nI nC), .ref m1, .ref m2, .ref m3, .ref m4, .ref m5])), (m1, .inl (cI, 40, .inl (fl 5 g))), (m2, .inl (cI, 40, .inl (fl 2 st))), (m5, .inl (cI, 8, .inl (numA nu nK)))] H := hP
  have hD : va_D A [(m0, .inr (6, [.int 0, .int (nI nD), .int (nI nT), .int (nI nC), .ref m1, .ref m2, .ref m3, .ref m4, .ref m5])), (m1, .inl (cI, 40, .inl (fl 5 g))), (m2, .inl (cI, 40, .inl (fl 2 st))), (m5, .inl (cI, 8, .inl (numA nu nK)))] := hD
  refine lv_iload_n hx hb dX6_about_5 rfl (lv_at hl 1 rfl) ?_
  refine lv_iconst (v := 0) hx hb dX6_about_6 (by decide) ?_
  refine lv_aload_n hx hb dX6_about_7 rfl (lv_at hl 0 rfl) ?_
  refine va_get (D := D) (ci := 6) (v := .int (nI nT)) (C := RX6) (T := TX6) (N := 9) hx hb hts iX6_about_X6 hown hk.1 hP 0 rfl rfl 2 (by decide) (hts _ mX6_about_f58) (fun _ h9 => h9) rfl dX6_about_8 ?_
  refine lv_iconst (v := 1) hx hb dX6_about_11 (by decide) ?_
  refine lv_isub hx hb dX6_about_12 ?_
  refine frI (wc := []) (wc' := []) (w' := [(m0, .inr (6, [.int 0, .int (nI nD), .int (nI nT), .int (nI nC), .ref m1, .ref m2, .ref m3, .ref m4, .ref m5])), (m1, .inl (cI, 40, .inl (fl 5 g))), (m2, .inl (cI, 40, .inl (fl 2 st))), (m5, .inl (cI, 8, .inl (numA nu nK)))]) hP hD hS hA [] [0, 1, 2, 3] [0, 1, 2, 3] rfl rfl rfl rfl rfl (va_runS (As := [.int d, .int 0, .int ((nI nT) - 1)]) (rest := []) ⟨hx, hb, hml, hown, hts⟩ (tX6_isIn l D cI d 0 (nI nT - 1)  _) (va_cwS 3 hts gX6_about_X6_isIn rfl rfl rfl hX6_isIn.2 ⟨Nat.le_of_ble_eq_true rfl, Nat.le_of_ble_eq_true rfl⟩) (preS_of hk hP hD [] rfl rfl) rfl rfl hl.1 rfl (lv_room (Nat.le_of_ble_eq_true rfl)) dX6_about_13 ⟨Nat.le_of_ble_eq_true rfl, Nat.le_of_ble_eq_true rfl⟩) (fun H locs hP hD hS => ?_)
  refine top_int (wi_has (by omega)) ?_
  refine lv_if_eq (tgt := 37) hx hb dX6_about_16 (by decide) (fun c16 => ?_) (fun c16 => ?_)
  · rw [show kThree nT d x = 1 from by rw [kThree, if_pos c16]]
    refine lv_aload_n hx hb dX6_about_37 rfl (lv_at hl 0 rfl) ?_
    refine lv_iconst (v := 1) hx hb dX6_about_38 (by decide) ?_
    refine frI (wc := [(m0, .inr (6, [.int 0, .int (nI nD), .int (nI nT), .int (nI nC), .ref m1, .ref m2, .ref m3, .ref m4, .ref m5]))]) (wc' := [(m0, .inr (6, [.int 1, .int (nI nD), .int (nI nT), .int (nI nC), .ref m1, .ref m2, .ref m3, .ref m4, .ref m5]))]) (w' := [(m0, .inr (6, [.int 1, .int (nI nD), .int (nI nT), .int (nI nC), .ref m1, .ref m2, .ref m3, .ref m4, .ref m5])), (m1, .inl (cI, 40, .inl (fl 5 g))), (m2, .inl (cI, 40, .inl (fl 2 st))), (m5, .inl (cI, 8, .inl (numA nu nK)))]) hP hD hS hA [0] [1, 2, 3] [3, 0, 1, 2] rfl rfl rfl rfl rfl (va_runV (As := [.int 1]) (rest := []) ⟨hx, hb, hml, hown, hts⟩ (tX6_fail l D cI m0 m1 m2 m3 m4 m5 nD nT nC 0 1  _) (cwV 1 hts gX6_about_X6_fail rfl rfl rfl hX6_fail ⟨Nat.le_of_ble_eq_true rfl, Nat.le_of_ble_eq_true rfl⟩) (preV_of hk hP hD [0] rfl rfl (recvO hk hP (ci := 6) (q0 := 0) rfl rfl)) rfl rfl hl.1 rfl (lv_room (Nat.le_of_ble_eq_true rfl)) dX6_about_39 ⟨Nat.le_of_ble_eq_true rfl, Nat.le_of_ble_eq_true rfl⟩) (fun H locs hP hD hS => ?_)
    exact retI hx hb hr hlocks hS hP hD dX6_about_42 (rfl) rfl
  · refine lv_iload_n hx hb dX6_about_19 rfl (lv_at hl 2 rfl) ?_
    refine lv_iconst (v := 0) hx hb dX6_about_20 (by decide) ?_
    refine lv_iconst (v := 3) hx hb dX6_about_21 (by decide) ?_
    refine frI (wc := []) (wc' := []) (w' := [(m0, .inr (6, [.int 0, .int (nI nD), .int (nI nT), .int (nI nC), .ref m1, .ref m2, .ref m3, .ref m4, .ref m5])), (m1, .inl (cI, 40, .inl (fl 5 g))), (m2, .inl (cI, 40, .inl (fl 2 st))), (m5, .inl (cI, 8, .inl (numA nu nK)))]) hP hD hS hA [] [0, 1, 2, 3] [0, 1, 2, 3] rfl rfl rfl rfl rfl (va_runS (As := [.int x, .int 0, .int 3]) (rest := []) ⟨hx, hb, hml, hown, hts⟩ (tX6_isIn l D cI x 0 3  _) (va_cwS 3 hts gX6_about_X6_isIn rfl rfl rfl hX6_isIn.2 ⟨Nat.le_of_ble_eq_true rfl, Nat.le_of_ble_eq_true rfl⟩) (preS_of hk hP hD [] rfl rfl) rfl rfl hl.1 rfl (lv_room (Nat.le_of_ble_eq_true rfl)) dX6_about_22 ⟨Nat.le_of_ble_eq_true rfl, Nat.le_of_ble_eq_true rfl⟩) (fun H locs hP hD hS => ?_)
    refine lv_if_eq (tgt := 37) hx hb dX6_about_25 (by decide) (fun c25 => ?_) (fun c25 => ?_)
    · rw [show kThree nT d x = 1 from by rw [kThree, if_neg c16, if_pos c25]]
      refine lv_aload_n hx hb dX6_about_37 rfl (lv_at hl 0 rfl) ?_
      refine lv_iconst (v := 1) hx hb dX6_about_38 (by decide) ?_
      refine frI (wc := [(m0, .inr (6, [.int 0, .int (nI nD), .int (nI nT), .int (nI nC), .ref m1, .ref m2, .ref m3, .ref m4, .ref m5]))]) (wc' := [(m0, .inr (6, [.int 1, .int (nI nD), .int (nI nT), .int (nI nC), .ref m1, .ref m2, .ref m3, .ref m4, .ref m5]))]) (w' := [(m0, .inr (6, [.int 1, .int (nI nD), .int (nI nT), .int (nI nC), .ref m1, .ref m2, .ref m3, .ref m4, .ref m5])), (m1, .inl (cI, 40, .inl (fl 5 g))), (m2, .inl (cI, 40, .inl (fl 2 st))), (m5, .inl (cI, 8, .inl (numA nu nK)))]) hP hD hS hA [0] [1, 2, 3] [3, 0, 1, 2] rfl rfl rfl rfl rfl (va_runV (As := [.int 1]) (rest := []) ⟨hx, hb, hml, hown, hts⟩ (tX6_fail l D cI m0 m1 m2 m3 m4 m5 nD nT nC 0 1  _) (cwV 1 hts gX6_about_X6_fail rfl rfl rfl hX6_fail ⟨Nat.le_of_ble_eq_true rfl, Nat.le_of_ble_eq_true rfl⟩) (preV_of hk hP hD [0] rfl rfl (recvO hk hP (ci := 6) (q0 := 0) rfl rfl)) rfl rfl hl.1 rfl (lv_room (Nat.le_of_ble_eq_true rfl)) dX6_about_39 ⟨Nat.le_of_ble_eq_true rfl, Nat.le_of_ble_eq_true rfl⟩) (fun H locs hP hD hS => ?_)
      exact retI hx hb hr hlocks hS hP hD dX6_about_42 (rfl) rfl
    · obtain ⟨j, hj, rfl⟩ := hasI_k c16
      obtain ⟨v, hv, rfl⟩ := wi_n (n := 3) c25 (by decide) (by decide)
      rw [show kThree nT (nI j) (nI v) = 0 from by rw [kThree, if_neg c16, if_neg c25]]
      rw [ix_n (show j < 1000 by omega)]
      refine lv_aload_n hx hb dX6_about_28 rfl (lv_at hl 0 rfl) ?_
      refine lv_iload_n hx hb dX6_about_29 rfl (lv_at hl 1 rfl) ?_
      refine lv_iload_n hx hb dX6_about_30 rfl (lv_at hl 2 rfl) ?_
      refine frI (wc := [(m0, .inr (6, [.int 0, .int (nI nD), .int (nI nT), .int (nI nC), .ref m1, .ref m2, .ref m3, .ref m4, .ref m5])), (m1, .inl (cI, 40, .inl (fl 5 g))), (m2, .inl (cI, 40, .inl (fl 2 st))), (m5, .inl (cI, 8, .inl (numA nu nK)))]) (wc' := [(m0, .inr (6, [.int 0, .int (nI nD), .int (nI nT), .int (nI nC), .ref m1, .ref m2, .ref m3, .ref m4, .ref m5])), (m1, .inl (cI, 40, .inl (fl 5 g))), (m2, .inl (cI, 40, .inl (fl 2 st))), (m5, .inl (cI, 8, .inl (numA nu nK)))]) (w' := [(m0, .inr (6, [.int 0, .int (nI nD), .int (nI nT), .int (nI nC), .ref m1, .ref m2, .ref m3, .ref m4, .ref m5])), (m1, .inl (cI, 40, .inl (fl 5 g))), (m2, .inl (cI, 40, .inl (fl 2 st))), (m5, .inl (cI, 8, .inl (numA nu nK)))]) hP hD hS hA [0, 1, 2, 3] [] [0, 1, 2, 3] rfl rfl rfl rfl rfl (va_runV (As := [.int (nI j), .int (nI v)]) (rest := []) ⟨hx, hb, hml, hown, hts⟩ (tX6_starTold l D cI m0 m1 m2 m3 m4 m5 nD nT nC 0 g st nu nK j v hn hg hT ht hb5 (by omega) (by omega) _) (cwV 2 hts gX6_about_X6_starTold rfl rfl rfl hX6_starTold ⟨Nat.le_of_ble_eq_true rfl, Nat.le_of_ble_eq_true rfl⟩) (preV_of hk hP hD [0, 1, 2, 3] rfl rfl (recvO hk hP (ci := 6) (q0 := 0) rfl rfl)) rfl rfl hl.1 rfl (lv_room (Nat.le_of_ble_eq_true rfl)) dX6_about_31 ⟨Nat.le_of_ble_eq_true rfl, Nat.le_of_ble_eq_true rfl⟩) (fun H locs hP hD hS => ?_)
      refine lv_goto (tgt := 42) hx hb dX6_about_34 (by decide) ?_
      exact retI hx hb hr hlocks hS hP hD dX6_about_42 (rfl) rfl

theorem mX6_cometTold_f16 : (.fieldLink RX6 16 "StarConsoleModel" "tails" "[I" : Cond) ∈ wsX6_cometTold := by decide +kernel
theorem iX6_cometTold_X6 : ∀ w ∈ wsX60, w ∈ wsX6_cometTold := by decide +kernel

theorem hX6_cometTold : yX6_cometTold.cls = RX6 ∧ yX6_cometTold.cls ≠ "java/lang/invoke/MethodHandle" ∧ yX6_cometTold.cls ≠ "java/lang/invoke/VarHandle" ∧ (parseMethodDescriptor yX6_cometTold.desc).map (fun d => d.parameters.length) = some 2 := by decide +kernel
set_option maxHeartbeats 4000000 in
set_option maxRecDepth 100000 in
theorem tX6_cometTold (l : Launch) (D : va_G) (cI : ClassId) (m0 m1 m2 m3 m4 m5 nD nT nC : Nat) (th : Int32) (g ct : Mx) (k v : Nat) (hn : nD ≤ 8) (hg : gOK nD g) (hk12 : k < 12) (hc0 : bnd (ct 0 k) 0 359) (hv : v < 4) : CI l yX6_cometTold wsX6_cometTold ({ frames := 3, cells := 0, slots := 0, locals := 68 } : Room) D cI ([.ref m0, .int (nI k), .int (nI v)] : List Value) [(m0, .inr (6, [.int th, .int (nI nD), .int (nI nT), .int (nI nC), .ref m1, .ref m2, .ref m3, .ref m4, .ref m5])), (m1, .inl (cI, 40, .inl (fl 5 g))), (m3, .inl (cI, 36, .inl (fl 3 ct)))] (fcK nD g ct k (nI v)) [(m0, .inr (6, [.int th, .int (nI nD), .int (nI nT), .int (nI nC), .ref m1, .ref m2, .ref m3, .ref m4, .ref m5])), (m1, .inl (cI, 40, .inl (fl 5 g))), (m3, .inl (cI, 36, .inl (fl 3 ct)))] := by
  refine entI (cc := cX6_cometTold) (maxL := 3) (ret := (some .int)) (by decide) rfl (Nat.le_of_ble_eq_true rfl) (fun p e s m below meth c A ls fx hl => ?_)
  have fx0 := fx
  obtain ⟨hx, hb, hr, hml, hown, hts, hlocks, hk, hP, hD, hA⟩ := fx
  have hown : s.vm.findClass RX6 = some m.cls := hown
  have hS : va_S A s.heap s.heap [] := va_S.rf
  have hP : va_P D vwCl [(m0, .inr (6, [.int th, .int (nI nD), .int (nI nT), .int (nI nC), .ref m1, .ref m2, .ref m3, .ref m4, .ref m5])), (m1, .inl (cI, 40, .inl (fl 5 g))), (m3, .inl (cI, 36, .inl (fl 3 ct)))] s.heap := hP
  have hD : va_D A [(m0, .inr (6, [.int th, .int (nI nD), .int (nI nT), .int (nI nC), .ref m1, .ref m2, .ref m3, .ref m4, .ref m5])), (m1, .inl (cI, 40, .inl (fl 5 g))), (m3, .inl (cI, 36, .inl (fl 3 ct)))] := hD
  have hl : lv_has ls 3 [(0, .ref m0), (1, .int (nI k)), (2, .int (nI v))] := hl
  refine lv_iload_n hx hb dX6_cometTold_0 rfl (lv_at hl 2 rfl) ?_
  refine lv_iconst (v := 3) hx hb dX6_cometTold_1 (by decide) ?_
  refine icgeN (i := v) (n := 3) (tgt := 18) hx hb (by omega) (by omega) dX6_cometTold_2 (by decide) (fun c2 => ?_) (fun c2 => ?_)
  · obtain rfl : v = 3 := by omega
    refine lv_aload_n hx hb dX6_cometTold_18 rfl (lv_at hl 0 rfl) ?_
    refine va_get (D := D) (ci := 6) (v := .ref m3) (C := RX6) (T := TX6) (N := 9) hx hb hts iX6_cometTold_X6 hown hk.1 hP 0 rfl rfl 6 (by decide) (hts _ mX6_cometTold_f16) (fun _ h9 => h9) rfl dX6_cometTold_19 ?_
    refine lv_iconst (v := 3) hx hb dX6_cometTold_22 (by decide) ?_
    refine lv_iload_n hx hb dX6_cometTold_23 rfl (lv_at hl 1 rfl) ?_
    refine lv_imul hx hb dX6_cometTold_24 ?_
    refine top_int (nmulE (a := 3) (b := k) rfl rfl) ?_
    refine lv_iconst (v := 2) hx hb dX6_cometTold_25 (by decide) ?_
    refine lv_iadd hx hb dX6_cometTold_26 ?_
    refine top_int (naddE (a := 3 * k) (b := 2) rfl rfl) ?_
    refine aldN hx hb hk hP 2 rfl ((3 * k) + 2) rfl (by omega) (Nat.le_of_ble_eq_true rfl) dX6_cometTold_27 ?_
    refine top_int (fl_r (d := k) (w := 2) (by omega)) ?_
    refine lv_if_le (tgt := 54) hx hb dX6_cometTold_28 (by decide) (fun c28 => ?_) (fun c28 => ?_)
    · refine lv_iconst (v := 0) hx hb dX6_cometTold_54 (by decide) ?_
      exact retI hx hb hr hlocks hS hP hD dX6_cometTold_55 (by show (0 : Int32) = csI nD g ct k; rw [csI, if_pos c28]) rfl
    · refine lv_aload_n hx hb dX6_cometTold_31 rfl (lv_at hl 0 rfl) ?_
      refine lv_aload_n hx hb dX6_cometTold_32 rfl (lv_at hl 0 rfl) ?_
      refine va_get (D := D) (ci := 6) (v := .ref m3) (C := RX6) (T := TX6) (N := 9) hx hb hts iX6_cometTold_X6 hown hk.1 hP 0 rfl rfl 6 (by decide) (hts _ mX6_cometTold_f16) (fun _ h9 => h9) rfl dX6_cometTold_33 ?_
      refine lv_iconst (v := 3) hx hb dX6_cometTold_36 (by decide) ?_
      refine lv_iload_n hx hb dX6_cometTold_37 rfl (lv_at hl 1 rfl) ?_
      refine lv_imul hx hb dX6_cometTold_38 ?_
      refine top_int (nmulE (a := 3) (b := k) rfl rfl) ?_
      refine lv_iconst (v := 0) hx hb dX6_cometTold_39 (by decide) ?_
      refine lv_iadd hx hb dX6_cometTold_40 ?_
      refine top_int (naddE (a := 3 * k) (b := 0) rfl rfl) ?_
      refine aldN hx hb hk hP 2 rfl ((3 * k) + 0) rfl (by omega) (Nat.le_of_ble_eq_true rfl) dX6_cometTold_41 ?_
      refine top_int (fl_r (d := k) (w := 0) (by omega)) ?_
      refine lv_bipush (v := 6) hx hb dX6_cometTold_42 (by decide) ?_
      refine frI (wc := [(m0, .inr (6, [.int th, .int (nI nD), .int (nI nT), .int (nI nC), .ref m1, .ref m2, .ref m3, .ref m4, .ref m5])), (m1, .inl (cI, 40, .inl (fl 5 g)))]) (wc' := [(m0, .inr (6, [.int th, .int (nI nD), .int (nI nT), .int (nI nC), .ref m1, .ref m2, .ref m3, .ref m4, .ref m5])), (m1, .inl (cI, 40, .inl (fl 5 g)))]) (w' := [(m0, .inr (6, [.int th, .int (nI nD), .int (nI nT), .int (nI nC), .ref m1, .ref m2, .ref m3, .ref m4, .ref m5])), (m1, .inl (cI, 40, .inl (fl 5 g))), (m3, .inl (cI, 36, .inl (fl 3 ct)))]) hP hD hS hA [0, 1] [2] [1, 2, 0] rfl rfl rfl rfl rfl (va_runV (As := [.int (ct 0 k), .int 6]) (rest := []) ⟨hx, hb, hml, hown, hts⟩ (tX6_isSeen l D cI m0 m1 m2 m3 m4 m5 nD nT nC th g (ct 0 k) 6 hn hg hc0 _) (cwV 2 hts gX6_cometTold_X6_isSeen rfl rfl rfl hX6_isSeen ⟨Nat.le_of_ble_eq_true rfl, Nat.le_of_ble_eq_true rfl⟩) (preV_of hk hP hD [0, 1] rfl rfl (recvO hk hP (ci := 6) (q0 := 0) rfl rfl)) rfl rfl hl.1 rfl (lv_room (Nat.le_of_ble_eq_true rfl)) dX6_cometTold_44 ⟨Nat.le_of_ble_eq_true rfl, Nat.le_of_ble_eq_true rfl⟩) (fun H locs hP hD hS => ?_)
      refine lv_if_eq (tgt := 54) hx hb dX6_cometTold_47 (by decide) (fun c47 => ?_) (fun c47 => ?_)
      · refine lv_iconst (v := 0) hx hb dX6_cometTold_54 (by decide) ?_
        exact retI hx hb hr hlocks hS hP hD dX6_cometTold_55 (by show (0 : Int32) = csI nD g ct k; rw [csI, if_neg c28, if_pos c47]) rfl
      · refine lv_iconst (v := 1) hx hb dX6_cometTold_50 (by decide) ?_
        refine lv_goto (tgt := 55) hx hb dX6_cometTold_51 (by decide) ?_
        exact retI hx hb hr hlocks hS hP hD dX6_cometTold_55 (by show (1 : Int32) = csI nD g ct k; rw [csI, if_neg c28, if_neg c47]) rfl
  · refine lv_aload_n hx hb dX6_cometTold_5 rfl (lv_at hl 0 rfl) ?_
    refine va_get (D := D) (ci := 6) (v := .ref m3) (C := RX6) (T := TX6) (N := 9) hx hb hts iX6_cometTold_X6 hown hk.1 hP 0 rfl rfl 6 (by decide) (hts _ mX6_cometTold_f16) (fun _ h9 => h9) rfl dX6_cometTold_6 ?_
    refine lv_iconst (v := 3) hx hb dX6_cometTold_9 (by decide) ?_
    refine lv_iload_n hx hb dX6_cometTold_10 rfl (lv_at hl 1 rfl) ?_
    refine lv_imul hx hb dX6_cometTold_11 ?_
    refine top_int (nmulE (a := 3) (b := k) rfl rfl) ?_
    refine lv_iload_n hx hb dX6_cometTold_12 rfl (lv_at hl 2 rfl) ?_
    refine lv_iadd hx hb dX6_cometTold_13 ?_
    refine top_int (naddE (a := 3 * k) (b := v) rfl rfl) ?_
    refine aldN hx hb hk hP 2 rfl ((3 * k) + v) rfl (by omega) (Nat.le_of_ble_eq_true rfl) dX6_cometTold_14 ?_
    refine top_int (fl_r (d := k) (w := v) (by omega)) ?_
    refine lv_goto (tgt := 55) hx hb dX6_cometTold_15 (by decide) ?_
    exact retI hx hb hr hlocks hS hP hD dX6_cometTold_55 (by rcases (show v = 0 ∨ v = 1 ∨ v = 2 by omega) with rfl | rfl | rfl <;> rfl) rfl

theorem mX6_comet_f25 : (.fieldLink RX6 25 "StarConsoleModel" "thrown" "I" : Cond) ∈ wsX6_comet := by decide +kernel
theorem iX6_comet_X6 : ∀ w ∈ wsX60, w ∈ wsX6_comet := by decide +kernel
theorem mX6_comet_f22 : (.fieldLink RX6 22 "StarConsoleModel" "numbers" "[I" : Cond) ∈ wsX6_comet := by decide +kernel

theorem hX6_comet : yX6_comet.cls = RX6 ∧ yX6_comet.cls ≠ "java/lang/invoke/MethodHandle" ∧ yX6_comet.cls ≠ "java/lang/invoke/VarHandle" ∧ (parseMethodDescriptor yX6_comet.desc).map (fun d => d.parameters.length) = some 2 := by decide +kernel
set_option maxHeartbeats 4000000 in
set_option maxRecDepth 100000 in
theorem tX6_comet (l : Launch) (D : va_G) (cI : ClassId) (m0 m1 m2 m3 m4 m5 nD nT nC : Nat) (th : Int32) (g ct : Mx) (nu : Nat → Int32) (nK : Nat) (d x : Int32) (hn : nD ≤ 8) (hg : gOK nD g) (hK : nK ≤ 12) (hc : cOK nK ct) : CI l yX6_comet wsX6_comet ({ frames := 4, cells := 0, slots := 0, locals := 90 } : Room) D cI ([.ref m0, .int d, .int x] : List Value) [(m0, .inr (6, [.int th, .int (nI nD), .int (nI nT), .int (nI nC), .ref m1, .ref m2, .ref m3, .ref m4, .ref m5])), (m1, .inl (cI, 40, .inl (fl 5 g))), (m3, .inl (cI, 36, .inl (fl 3 ct))), (m5, .inl (cI, 8, .inl (numA nu nK)))] (sel (kThree nK d x) (fcK nD g ct (ix d) x) 0) [(m0, .inr (6, [.int (kThree nK d x), .int (nI nD), .int (nI nT), .int (nI nC), .ref m1, .ref m2, .ref m3, .ref m4, .ref m5])), (m1, .inl (cI, 40, .inl (fl 5 g))), (m3, .inl (cI, 36, .inl (fl 3 ct))), (m5, .inl (cI, 8, .inl (numA nu nK)))] := by
  refine entI (cc := cX6_comet) (maxL := 3) (ret := (some .int)) (by decide) rfl (Nat.le_of_ble_eq_true rfl) (fun p e s m below meth c A ls fx hl => ?_)
  have fx0 := fx
  obtain ⟨hx, hb, hr, hml, hown, hts, hlocks, hk, hP, hD, hA⟩ := fx
  have hown : s.vm.findClass RX6 = some m.cls := hown
  have hS : va_S A s.heap s.heap [] := va_S.rf
  have hP : va_P D vwCl [(m0, .inr (6, [.int th, .int (nI nD), .int (nI nT), .int (nI nC), .ref m1, .ref m2, .ref m3, .ref m4, .ref m5])), (m1, .inl (cI, 40, .inl (fl 5 g))), (m3, .inl (cI, 36, .inl (fl 3 ct))), (m5, .inl (cI, 8, .inl (numA nu nK)))] s.heap := hP
  have hD : va_D A [(m0, .inr (6, [.int th, .int (nI nD), .int (nI nT), .int (nI nC), .ref m1, .ref m2, .ref m3, .ref m4, .ref m5])), (m1, .inl (cI, 40, .inl (fl 5 g))), (m3, .inl (cI, 36, .inl (fl 3 ct))), (m5, .inl (cI, 8, .inl (numA nu nK)))] := hD
  have hl : lv_has ls 3 [(0, .ref m0), (1, .int d), (2, .int x)] := hl
  refine lv_aload_n hx hb dX6_comet_0 rfl (lv_at hl 0 rfl) ?_
  refine lv_iconst (v := 0) hx hb dX6_comet_1 (by decide) ?_
  refine va_put (D := D) (ci := 6) (v := .int 0) (ty := .int) (C := RX6) (T := TX6) (N := 9) hx hb hts iX6_comet_X6 tyX6 tyX6_ok nmX6 hown hk.1 hP hD hS 0 rfl rfl 0 (by decide) (hts _ mX6_comet_f25) (fun _ h9 => h9) rfl (by decide +kernel) rfl rfl (Nat.le_of_ble_eq_true rfl) dX6_comet_2 (fun H locs hP hD hS => ?_)
  have hP : va_P D vwCl [(m0, .inr (6, [.int 0, .int (nI nD), .int (nI nT), .int (nI nC), .ref m1, .ref m2, .ref m3, .ref m4, .ref m5])), (m1, .inl (cI, 40, .inl (fl 5 g))), (m3, .inl (cI, 36, .inl (fl 3 ct))), (m5, .inl (cI, 8, .inl (numA nu nK)))] H := hP
  have hD : va_D A [(m0, .inr (6, [.int 0, .int (nI nD), .int (nI nT), .int (nI nC), .ref m1, .ref m2, .ref m3, .ref m4, .ref m5])), (m1, .inl (cI, 40, .inl (fl 5 g))), (m3, .inl (cI, 36, .inl (fl 3 ct))), (m5, .inl (cI, 8, .inl (numA nu nK)))] := hD
  refine lv_iload_n hx hb dX6_comet_5 rfl (lv_at hl 1 rfl) ?_
  refine lv_iconst (v := 0) hx hb dX6_comet_6 (by decide) ?_
  refine lv_aload_n hx hb dX6_comet_7 rfl (lv_at hl 0 rfl) ?_
  refine va_get (D := D) (ci := 6) (v := .ref m5) (C := RX6) (T := TX6) (N := 9) hx hb hts iX6_comet_X6 hown hk.1 hP 0 rfl rfl 8 (by decide) (hts _ mX6_comet_f22) (fun _ h9 => h9) rfl dX6_comet_8 ?_
  refine lv_bipush (v := 7) hx hb dX6_comet_11 (by decide) ?_
  refine aldN hx hb hk hP 3 rfl 7 rfl (by omega) (Nat.le_of_ble_eq_true rfl) dX6_comet_13 ?_
  refine top_int (show _ = (nI nK : Int32) from rfl) ?_
  refine lv_iconst (v := 1) hx hb dX6_comet_14 (by decide) ?_
  refine lv_isub hx hb dX6_comet_15 ?_
  refine frI (wc := []) (wc' := []) (w' := [(m0, .inr (6, [.int 0, .int (nI nD), .int (nI nT), .int (nI nC), .ref m1, .ref m2, .ref m3, .ref m4, .ref m5])), (m1, .inl (cI, 40, .inl (fl 5 g))), (m3, .inl (cI, 36, .inl (fl 3 ct))), (m5, .inl (cI, 8, .inl (numA nu nK)))]) hP hD hS hA [] [0, 1, 2, 3] [0, 1, 2, 3] rfl rfl rfl rfl rfl (va_runS (As := [.int d, .int 0, .int ((nI nK) - 1)]) (rest := []) ⟨hx, hb, hml, hown, hts⟩ (tX6_isIn l D cI d 0 (nI nK - 1)  _) (va_cwS 3 hts gX6_comet_X6_isIn rfl rfl rfl hX6_isIn.2 ⟨Nat.le_of_ble_eq_true rfl, Nat.le_of_ble_eq_true rfl⟩) (preS_of hk hP hD [] rfl rfl) rfl rfl hl.1 rfl (lv_room (Nat.le_of_ble_eq_true rfl)) dX6_comet_16 ⟨Nat.le_of_ble_eq_true rfl, Nat.le_of_ble_eq_true rfl⟩) (fun H locs hP hD hS => ?_)
  refine top_int (wi_has (by omega)) ?_
  refine lv_if_eq (tgt := 40) hx hb dX6_comet_19 (by decide) (fun c19 => ?_) (fun c19 => ?_)
  · rw [show kThree nK d x = 1 from by rw [kThree, if_pos c19]]
    refine lv_aload_n hx hb dX6_comet_40 rfl (lv_at hl 0 rfl) ?_
    refine lv_iconst (v := 1) hx hb dX6_comet_41 (by decide) ?_
    refine frI (wc := [(m0, .inr (6, [.int 0, .int (nI nD), .int (nI nT), .int (nI nC), .ref m1, .ref m2, .ref m3, .ref m4, .ref m5]))]) (wc' := [(m0, .inr (6, [.int 1, .int (nI nD), .int (nI nT), .int (nI nC), .ref m1, .ref m2, .ref m3, .ref m4, .ref m5]))]) (w' := [(m0, .inr (6, [.int 1, .int (nI nD), .int (nI nT), .int (nI nC), .ref m1, .ref m2, .ref m3, .ref m4, .ref m5])), (m1, .inl (cI, 40, .inl (fl 5 g))), (m3, .inl (cI, 36, .inl (fl 3 ct))), (m5, .inl (cI, 8, .inl (numA nu nK)))]) hP hD hS hA [0] [1, 2, 3] [3, 0, 1, 2] rfl rfl rfl rfl rfl (va_runV (As := [.int 1]) (rest := []) ⟨hx, hb, hml, hown, hts⟩ (tX6_fail l D cI m0 m1 m2 m3 m4 m5 nD nT nC 0 1  _) (cwV 1 hts gX6_comet_X6_fail rfl rfl rfl hX6_fail ⟨Nat.le_of_ble_eq_true rfl, Nat.le_of_ble_eq_true rfl⟩) (preV_of hk hP hD [0] rfl rfl (recvO hk hP (ci := 6) (q0 := 0) rfl rfl)) rfl rfl hl.1 rfl (lv_room (Nat.le_of_ble_eq_true rfl)) dX6_comet_42 ⟨Nat.le_of_ble_eq_true rfl, Nat.le_of_ble_eq_true rfl⟩) (fun H locs hP hD hS => ?_)
    exact retI hx hb hr hlocks hS hP hD dX6_comet_45 (rfl) rfl
  · refine lv_iload_n hx hb dX6_comet_22 rfl (lv_at hl 2 rfl) ?_
    refine lv_iconst (v := 0) hx hb dX6_comet_23 (by decide) ?_
    refine lv_iconst (v := 3) hx hb dX6_comet_24 (by decide) ?_
    refine frI (wc := []) (wc' := []) (w' := [(m0, .inr (6, [.int 0, .int (nI nD), .int (nI nT), .int (nI nC), .ref m1, .ref m2, .ref m3, .ref m4, .ref m5])), (m1, .inl (cI, 40, .inl (fl 5 g))), (m3, .inl (cI, 36, .inl (fl 3 ct))), (m5, .inl (cI, 8, .inl (numA nu nK)))]) hP hD hS hA [] [0, 1, 2, 3] [0, 1, 2, 3] rfl rfl rfl rfl rfl (va_runS (As := [.int x, .int 0, .int 3]) (rest := []) ⟨hx, hb, hml, hown, hts⟩ (tX6_isIn l D cI x 0 3  _) (va_cwS 3 hts gX6_comet_X6_isIn rfl rfl rfl hX6_isIn.2 ⟨Nat.le_of_ble_eq_true rfl, Nat.le_of_ble_eq_true rfl⟩) (preS_of hk hP hD [] rfl rfl) rfl rfl hl.1 rfl (lv_room (Nat.le_of_ble_eq_true rfl)) dX6_comet_25 ⟨Nat.le_of_ble_eq_true rfl, Nat.le_of_ble_eq_true rfl⟩) (fun H locs hP hD hS => ?_)
    refine lv_if_eq (tgt := 40) hx hb dX6_comet_28 (by decide) (fun c28 => ?_) (fun c28 => ?_)
    · rw [show kThree nK d x = 1 from by rw [kThree, if_neg c19, if_pos c28]]
      refine lv_aload_n hx hb dX6_comet_40 rfl (lv_at hl 0 rfl) ?_
      refine lv_iconst (v := 1) hx hb dX6_comet_41 (by decide) ?_
      refine frI (wc := [(m0, .inr (6, [.int 0, .int (nI nD), .int (nI nT), .int (nI nC), .ref m1, .ref m2, .ref m3, .ref m4, .ref m5]))]) (wc' := [(m0, .inr (6, [.int 1, .int (nI nD), .int (nI nT), .int (nI nC), .ref m1, .ref m2, .ref m3, .ref m4, .ref m5]))]) (w' := [(m0, .inr (6, [.int 1, .int (nI nD), .int (nI nT), .int (nI nC), .ref m1, .ref m2, .ref m3, .ref m4, .ref m5])), (m1, .inl (cI, 40, .inl (fl 5 g))), (m3, .inl (cI, 36, .inl (fl 3 ct))), (m5, .inl (cI, 8, .inl (numA nu nK)))]) hP hD hS hA [0] [1, 2, 3] [3, 0, 1, 2] rfl rfl rfl rfl rfl (va_runV (As := [.int 1]) (rest := []) ⟨hx, hb, hml, hown, hts⟩ (tX6_fail l D cI m0 m1 m2 m3 m4 m5 nD nT nC 0 1  _) (cwV 1 hts gX6_comet_X6_fail rfl rfl rfl hX6_fail ⟨Nat.le_of_ble_eq_true rfl, Nat.le_of_ble_eq_true rfl⟩) (preV_of hk hP hD [0] rfl rfl (recvO hk hP (ci := 6) (q0 := 0) rfl rfl)) rfl rfl hl.1 rfl (lv_room (Nat.le_of_ble_eq_true rfl)) dX6_comet_42 ⟨Nat.le_of_ble_eq_true rfl, Nat.le_of_ble_eq_true rfl⟩) (fun H locs hP hD hS => ?_)
      exact retI hx hb hr hlocks hS hP hD dX6_comet_45 (rfl) rfl
    · obtain ⟨j, hj, rfl⟩ := hasI_k c19
      obtain ⟨v, hv, rfl⟩ := wi_n (n := 3) c28 (by decide) (by decide)
      rw [show kThree nK (nI j) (nI v) = 0 from by rw [kThree, if_neg c19, if_neg c28]]
      rw [ix_n (show j < 1000 by omega)]
      refine lv_aload_n hx hb dX6_comet_31 rfl (lv_at hl 0 rfl) ?_
      refine lv_iload_n hx hb dX6_comet_32 rfl (lv_at hl 1 rfl) ?_
      refine lv_iload_n hx hb dX6_comet_33 rfl (lv_at hl 2 rfl) ?_
      refine frI (wc := [(m0, .inr (6, [.int 0, .int (nI nD), .int (nI nT), .int (nI nC), .ref m1, .ref m2, .ref m3, .ref m4, .ref m5])), (m1, .inl (cI, 40, .inl (fl 5 g))), (m3, .inl (cI, 36, .inl (fl 3 ct)))]) (wc' := [(m0, .inr (6, [.int 0, .int (nI nD), .int (nI nT), .int (nI nC), .ref m1, .ref m2, .ref m3, .ref m4, .ref m5])), (m1, .inl (cI, 40, .inl (fl 5 g))), (m3, .inl (cI, 36, .inl (fl 3 ct)))]) (w' := [(m0, .inr (6, [.int 0, .int (nI nD), .int (nI nT), .int (nI nC), .ref m1, .ref m2, .ref m3, .ref m4, .ref m5])), (m1, .inl (cI, 40, .inl (fl 5 g))), (m3, .inl (cI, 36, .inl (fl 3 ct))), (m5, .inl (cI, 8, .inl (numA nu nK)))]) hP hD hS hA [0, 1, 2] [3] [1, 2, 3, 0] rfl rfl rfl rfl rfl (va_runV (As := [.int (nI j), .int (nI v)]) (rest := []) ⟨hx, hb, hml, hown, hts⟩ (tX6_cometTold l D cI m0 m1 m2 m3 m4 m5 nD nT nC 0 g ct j v hn hg (by omega) (hc j (by omega)).1 (by omega) _) (cwV 2 hts gX6_comet_X6_cometTold rfl rfl rfl hX6_cometTold ⟨Nat.le_of_ble_eq_true rfl, Nat.le_of_ble_eq_true rfl⟩) (preV_of hk hP hD [0, 1, 2] rfl rfl (recvO hk hP (ci := 6) (q0 := 0) rfl rfl)) rfl rfl hl.1 rfl (lv_room (Nat.le_of_ble_eq_true rfl)) dX6_comet_34 ⟨Nat.le_of_ble_eq_true rfl, Nat.le_of_ble_eq_true rfl⟩) (fun H locs hP hD hS => ?_)
      refine lv_goto (tgt := 45) hx hb dX6_comet_37 (by decide) ?_
      exact retI hx hb hr hlocks hS hP hD dX6_comet_45 (rfl) rfl

theorem mX6_counted_f22 : (.fieldLink RX6 22 "StarConsoleModel" "numbers" "[I" : Cond) ∈ wsX6_counted := by decide +kernel
theorem iX6_counted_X6 : ∀ w ∈ wsX60, w ∈ wsX6_counted := by decide +kernel
theorem mX6_counted_f29 : (.fieldLink RX6 29 "StarConsoleModel" "dimmers" "I" : Cond) ∈ wsX6_counted := by decide +kernel
theorem mX6_counted_f58 : (.fieldLink RX6 58 "StarConsoleModel" "stars" "I" : Cond) ∈ wsX6_counted := by decide +kernel
theorem mX6_counted_f64 : (.fieldLink RX6 64 "StarConsoleModel" "cues" "I" : Cond) ∈ wsX6_counted := by decide +kernel

theorem hX6_counted : yX6_counted.cls = RX6 ∧ yX6_counted.cls ≠ "java/lang/invoke/MethodHandle" ∧ yX6_counted.cls ≠ "java/lang/invoke/VarHandle" ∧ (parseMethodDescriptor yX6_counted.desc).map (fun d => d.parameters.length) = some 1 := by decide +kernel
set_option maxHeartbeats 4000000 in
set_option maxRecDepth 100000 in
theorem tX6_counted (l : Launch) (D : va_G) (cI : ClassId) (m0 m1 m2 m3 m4 m5 nD nT nC : Nat) (th : Int32) (st : Mx) (S : SH) (v : Nat) (hn : nD ≤ 8) (hT : nT ≤ 20) (ht : tOK nT st) (hO : SOK nD S) (hv : v < 13) : CI l yX6_counted wsX6_counted ({ frames := 4, cells := 0, slots := 0, locals := 90 } : Room) D cI ([.ref m0, .int (nI v)] : List Value) [(m0, .inr (6, [.int th, .int (nI nD), .int (nI nT), .int (nI nC), .ref m1, .ref m2, .ref m3, .ref m4, .ref m5])), (m1, .inl (cI, 40, .inl (fl 5 S.2.1))), (m2, .inl (cI, 40, .inl (fl 2 st))), (m3, .inl (cI, 36, .inl (fl 3 S.2.2.2))), (m5, .inl (cI, 8, .inl (numA S.1 S.2.2.1)))] (fcN nD nT nC st S (nI v)) [(m0, .inr (6, [.int th, .int (nI nD), .int (nI nT), .int (nI nC), .ref m1, .ref m2, .ref m3, .ref m4, .ref m5])), (m1, .inl (cI, 40, .inl (fl 5 S.2.1))), (m2, .inl (cI, 40, .inl (fl 2 st))), (m3, .inl (cI, 36, .inl (fl 3 S.2.2.2))), (m5, .inl (cI, 8, .inl (numA S.1 S.2.2.1)))] := by
  refine entI (cc := cX6_counted) (maxL := 4) (ret := (some .int)) (by decide) rfl (Nat.le_of_ble_eq_true rfl) (fun p e s m below meth c A ls fx hl => ?_)
  have fx0 := fx
  obtain ⟨hx, hb, hr, hml, hown, hts, hlocks, hk, hP, hD, hA⟩ := fx
  have hown : s.vm.findClass RX6 = some m.cls := hown
  have hS : va_S A s.heap s.heap [] := va_S.rf
  have hP : va_P D vwCl [(m0, .inr (6, [.int th, .int (nI nD), .int (nI nT), .int (nI nC), .ref m1, .ref m2, .ref m3, .ref m4, .ref m5])), (m1, .inl (cI, 40, .inl (fl 5 S.2.1))), (m2, .inl (cI, 40, .inl (fl 2 st))), (m3, .inl (cI, 36, .inl (fl 3 S.2.2.2))), (m5, .inl (cI, 8, .inl (numA S.1 S.2.2.1)))] s.heap := hP
  have hD : va_D A [(m0, .inr (6, [.int th, .int (nI nD), .int (nI nT), .int (nI nC), .ref m1, .ref m2, .ref m3, .ref m4, .ref m5])), (m1, .inl (cI, 40, .inl (fl 5 S.2.1))), (m2, .inl (cI, 40, .inl (fl 2 st))), (m3, .inl (cI, 36, .inl (fl 3 S.2.2.2))), (m5, .inl (cI, 8, .inl (numA S.1 S.2.2.1)))] := hD
  have hl : lv_has ls 4 [(0, .ref m0), (1, .int (nI v))] := hl
  refine lv_iconst (v := 0) hx hb dX6_counted_0 (by decide) ?_
  refine lv_istore_n (lv' := [(2, .int 0), (0, .ref m0), (1, .int (nI v))]) hx hb dX6_counted_1 rfl hl (by decide) rfl (fun ls hl => ?_)
  refine lv_iload_n hx hb dX6_counted_2 rfl (lv_at hl 2 rfl) ?_
  rcases (show v = 0 ∨ v = 1 ∨ v = 2 ∨ v = 3 ∨ v = 4 ∨ v = 5 ∨ v = 6 ∨ v = 7 ∨ v = 8 ∨ v = 9 ∨ v = 10 ∨ v = 11 ∨ v = 12 by omega) with rfl | rfl | rfl | rfl | rfl | rfl | rfl | rfl | rfl | rfl | rfl | rfl | rfl
  · refine lv_tableIn (off := 49) (tgt := 52) hx hb dX6_counted_3 (by decide) (by decide) (by decide) (by decide) ?_
    refine lv_aload_n hx hb dX6_counted_52 rfl (lv_at hl 1 rfl) ?_
    refine va_get (D := D) (ci := 6) (v := .ref m5) (C := RX6) (T := TX6) (N := 9) hx hb hts iX6_counted_X6 hown hk.1 hP 0 rfl rfl 8 (by decide) (hts _ mX6_counted_f22) (fun _ h9 => h9) rfl dX6_counted_53 ?_
    refine lv_iconst (v := 0) hx hb dX6_counted_56 (by decide) ?_
    refine aldN hx hb hk hP 4 rfl 0 rfl (by omega) (Nat.le_of_ble_eq_true rfl) dX6_counted_57 ?_
    refine top_int (show _ = (S.1 0 : Int32) from rfl) ?_
    exact retI hx hb hr hlocks hS hP hD dX6_counted_58 (rfl) rfl
  · refine lv_tableIn (off := 56) (tgt := 59) hx hb dX6_counted_3 (by decide) (by decide) (by decide) (by decide) ?_
    refine lv_aload_n hx hb dX6_counted_59 rfl (lv_at hl 1 rfl) ?_
    refine va_get (D := D) (ci := 6) (v := .ref m5) (C := RX6) (T := TX6) (N := 9) hx hb hts iX6_counted_X6 hown hk.1 hP 0 rfl rfl 8 (by decide) (hts _ mX6_counted_f22) (fun _ h9 => h9) rfl dX6_counted_60 ?_
    refine lv_iconst (v := 1) hx hb dX6_counted_63 (by decide) ?_
    refine aldN hx hb hk hP 4 rfl 1 rfl (by omega) (Nat.le_of_ble_eq_true rfl) dX6_counted_64 ?_
    refine top_int (show _ = (S.1 1 : Int32) from rfl) ?_
    exact retI hx hb hr hlocks hS hP hD dX6_counted_65 (rfl) rfl
  · refine lv_tableIn (off := 63) (tgt := 66) hx hb dX6_counted_3 (by decide) (by decide) (by decide) (by decide) ?_
    refine lv_aload_n hx hb dX6_counted_66 rfl (lv_at hl 1 rfl) ?_
    refine va_get (D := D) (ci := 6) (v := .ref m5) (C := RX6) (T := TX6) (N := 9) hx hb hts iX6_counted_X6 hown hk.1 hP 0 rfl rfl 8 (by decide) (hts _ mX6_counted_f22) (fun _ h9 => h9) rfl dX6_counted_67 ?_
    refine lv_iconst (v := 2) hx hb dX6_counted_70 (by decide) ?_
    refine aldN hx hb hk hP 4 rfl 2 rfl (by omega) (Nat.le_of_ble_eq_true rfl) dX6_counted_71 ?_
    refine top_int (show _ = (S.1 2 : Int32) from rfl) ?_
    exact retI hx hb hr hlocks hS hP hD dX6_counted_72 (rfl) rfl
  · refine lv_tableIn (off := 70) (tgt := 73) hx hb dX6_counted_3 (by decide) (by decide) (by decide) (by decide) ?_
    refine lv_aload_n hx hb dX6_counted_73 rfl (lv_at hl 1 rfl) ?_
    refine va_get (D := D) (ci := 6) (v := .int (nI nD)) (C := RX6) (T := TX6) (N := 9) hx hb hts iX6_counted_X6 hown hk.1 hP 0 rfl rfl 1 (by decide) (hts _ mX6_counted_f29) (fun _ h9 => h9) rfl dX6_counted_74 ?_
    exact retI hx hb hr hlocks hS hP hD dX6_counted_77 (rfl) rfl
  · refine lv_tableIn (off := 75) (tgt := 78) hx hb dX6_counted_3 (by decide) (by decide) (by decide) (by decide) ?_
    refine lv_aload_n hx hb dX6_counted_78 rfl (lv_at hl 1 rfl) ?_
    refine va_get (D := D) (ci := 6) (v := .int (nI nT)) (C := RX6) (T := TX6) (N := 9) hx hb hts iX6_counted_X6 hown hk.1 hP 0 rfl rfl 2 (by decide) (hts _ mX6_counted_f58) (fun _ h9 => h9) rfl dX6_counted_79 ?_
    exact retI hx hb hr hlocks hS hP hD dX6_counted_82 (rfl) rfl
  · refine lv_tableIn (off := 80) (tgt := 83) hx hb dX6_counted_3 (by decide) (by decide) (by decide) (by decide) ?_
    refine lv_aload_n hx hb dX6_counted_83 rfl (lv_at hl 1 rfl) ?_
    refine va_get (D := D) (ci := 6) (v := .ref m5) (C := RX6) (T := TX6) (N := 9) hx hb hts iX6_counted_X6 hown hk.1 hP 0 rfl rfl 8 (by decide) (hts _ mX6_counted_f22) (fun _ h9 => h9) rfl dX6_counted_84 ?_
    refine lv_bipush (v := 7) hx hb dX6_counted_87 (by decide) ?_
    refine aldN hx hb hk hP 4 rfl 7 rfl (by omega) (Nat.le_of_ble_eq_true rfl) dX6_counted_89 ?_
    refine top_int (show _ = (nI S.2.2.1 : Int32) from rfl) ?_
    exact retI hx hb hr hlocks hS hP hD dX6_counted_90 (rfl) rfl
  · refine lv_tableIn (off := 88) (tgt := 91) hx hb dX6_counted_3 (by decide) (by decide) (by decide) (by decide) ?_
    refine lv_aload_n hx hb dX6_counted_91 rfl (lv_at hl 1 rfl) ?_
    refine va_get (D := D) (ci := 6) (v := .int (nI nC)) (C := RX6) (T := TX6) (N := 9) hx hb hts iX6_counted_X6 hown hk.1 hP 0 rfl rfl 3 (by decide) (hts _ mX6_counted_f64) (fun _ h9 => h9) rfl dX6_counted_92 ?_
    exact retI hx hb hr hlocks hS hP hD dX6_counted_95 (rfl) rfl
  · refine lv_tableIn (off := 93) (tgt := 96) hx hb dX6_counted_3 (by decide) (by decide) (by decide) (by decide) ?_
    refine lv_iconst (v := 0) hx hb dX6_counted_96 (by decide) ?_
    refine lv_istore_n (lv' := [(3, .int 0), (2, .int 0), (0, .ref m0), (1, .int (nI 7))]) hx hb dX6_counted_97 rfl hl (by decide) rfl (fun ls hl => ?_)
    have key98 : ∀ (ku98 : Nat) (i : Nat), i ≤ nT → nT - i < ku98 → ∀ (H : Heap) (locs : List Loc), va_P D vwCl [(m0, .inr (6, [.int th, .int (nI nD), .int (nI nT), .int (nI nC), .ref m1, .ref m2, .ref m3, .ref m4, .ref m5])), (m1, .inl (cI, 40, .inl (fl 5 S.2.1))), (m2, .inl (cI, 40, .inl (fl 2 st))), (m3, .inl (cI, 36, .inl (fl 3 S.2.2.2))), (m5, .inl (cI, 8, .inl (numA S.1 S.2.2.1)))] H → va_D A [(m0, .inr (6, [.int th, .int (nI nD), .int (nI nT), .int (nI nC), .ref m1, .ref m2, .ref m3, .ref m4, .ref m5])), (m1, .inl (cI, 40, .inl (fl 5 S.2.1))), (m2, .inl (cI, 40, .inl (fl 2 st))), (m3, .inl (cI, 36, .inl (fl 3 S.2.2.2))), (m5, .inl (cI, 8, .inl (numA S.1 S.2.2.1)))] → va_S A s.heap H locs → ∀ ls : Array Slot, lv_has ls 4 [(3, .int (nI i)), (2, .int (nI (ssN nD S.2.1 st (S.1 5) i))), (0, .ref m0)] → W p l e ({ frames := 4, cells := 0, slots := 0, locals := 90 } : Room) s m ([.ref m0, .int (nI 7)] : List Value).toArray below meth c H locs 0 0 (MQ below (poI D A [(m0, .inr (6, [.int th, .int (nI nD), .int (nI nT), .int (nI nC), .ref m1, .ref m2, .ref m3, .ref m4, .ref m5])), (m1, .inl (cI, 40, .inl (fl 5 S.2.1))), (m2, .inl (cI, 40, .inl (fl 2 st))), (m3, .inl (cI, 36, .inl (fl 3 S.2.2.2))), (m5, .inl (cI, 8, .inl (numA S.1 S.2.2.1)))] (fcN nD nT nC st S (nI 7))) ([.ref m0, .int (nI 7)] : List Value).toArray s 0 0 A) (F0 m 98 ls []) := by
      intro ku98
      induction ku98 with
      | zero => intro i; intros; omega
      | succ ku98 ih98 =>
        intro i  hi98 hm98  H locs hP hD hS ls hl
        refine lv_iload_n hx hb dX6_counted_98 rfl (lv_at hl 0 rfl) ?_
        refine lv_aload_n hx hb dX6_counted_99 rfl (lv_at hl 2 rfl) ?_
        refine va_get (D := D) (ci := 6) (v := .int (nI nT)) (C := RX6) (T := TX6) (N := 9) hx hb hts iX6_counted_X6 hown hk.1 hP 0 rfl rfl 2 (by decide) (hts _ mX6_counted_f58) (fun _ h9 => h9) rfl dX6_counted_100 ?_
        refine icgeN (i := i) (n := nT) (tgt := 121) hx hb (by omega) (by omega) dX6_counted_103 (by decide) (fun c103 => ?_) (fun c103 => ?_)
        · obtain rfl : nT = i := by omega
          refine lv_iload_n hx hb dX6_counted_121 rfl (lv_at hl 1 rfl) ?_
          exact retI hx hb hr hlocks hS hP hD dX6_counted_122 (rfl) rfl
        · refine lv_iload_n hx hb dX6_counted_106 rfl (lv_at hl 1 rfl) ?_
          refine lv_aload_n hx hb dX6_counted_107 rfl (lv_at hl 2 rfl) ?_
          refine lv_iload_n hx hb dX6_counted_108 rfl (lv_at hl 0 rfl) ?_
          refine lv_iconst (v := 3) hx hb dX6_counted_109 (by decide) ?_
          refine frI (wc := [(m0, .inr (6, [.int th, .int (nI nD), .int (nI nT), .int (nI nC), .ref m1, .ref m2, .ref m3, .ref m4, .ref m5])), (m1, .inl (cI, 40, .inl (fl 5 S.2.1))), (m2, .inl (cI, 40, .inl (fl 2 st))), (m5, .inl (cI, 8, .inl (numA S.1 S.2.2.1)))]) (wc' := [(m0, .inr (6, [.int th, .int (nI nD), .int (nI nT), .int (nI nC), .ref m1, .ref m2, .ref m3, .ref m4, .ref m5])), (m1, .inl (cI, 40, .inl (fl 5 S.2.1))), (m2, .inl (cI, 40, .inl (fl 2 st))), (m5, .inl (cI, 8, .inl (numA S.1 S.2.2.1)))]) (w' := [(m0, .inr (6, [.int th, .int (nI nD), .int (nI nT), .int (nI nC), .ref m1, .ref m2, .ref m3, .ref m4, .ref m5])), (m1, .inl (cI, 40, .inl (fl 5 S.2.1))), (m2, .inl (cI, 40, .inl (fl 2 st))), (m3, .inl (cI, 36, .inl (fl 3 S.2.2.2))), (m5, .inl (cI, 8, .inl (numA S.1 S.2.2.1)))]) hP hD hS hA [0, 1, 2, 4] [3] [1, 2, 3, 0, 4] rfl rfl rfl rfl rfl (va_runV (As := [.int (nI i), .int 3]) (rest := [.int (nI (ssN nD S.2.1 st (S.1 5) i))]) ⟨hx, hb, hml, hown, hts⟩ (tX6_starTold l D cI m0 m1 m2 m3 m4 m5 nD nT nC th S.2.1 st S.1 S.2.2.1 i 3 hn hO.2.1 hT ht hO.2.2.2.2.1 (by omega) (by omega) _) (cwV 2 hts gX6_counted_X6_starTold rfl rfl rfl hX6_starTold ⟨Nat.le_of_ble_eq_true rfl, Nat.le_of_ble_eq_true rfl⟩) (preV_of hk hP hD [0, 1, 2, 4] rfl rfl (recvO hk hP (ci := 6) (q0 := 0) rfl rfl)) rfl rfl hl.1 rfl (lv_room (Nat.le_of_ble_eq_true rfl)) dX6_counted_110 ⟨Nat.le_of_ble_eq_true rfl, Nat.le_of_ble_eq_true rfl⟩) (fun H locs hP hD hS => ?_)
          refine lv_iadd hx hb dX6_counted_113 ?_
          refine top_int (show _ = nI (ssN nD S.2.1 st (S.1 5) (i + 1)) from ss_add nD S.2.1 st (S.1 5) i) ?_
          refine lv_istore_n (lv' := [(2, .int (nI (ssN nD S.2.1 st (S.1 5) (i + 1)))), (3, .int (nI i)), (0, .ref m0)]) hx hb dX6_counted_114 rfl hl (by decide) rfl (fun ls hl => ?_)
          refine lv_iinc (v := nI (i + 1)) (lv' := [(3, .int (nI (i + 1))), (2, .int (nI (ssN nD S.2.1 st (S.1 5) (i + 1)))), (0, .ref m0)]) hx hb dX6_counted_115 hl (k := 1) rfl (nI_inc i) (by decide) rfl (fun ls hl => ?_)
          refine lv_goto (tgt := 98) hx hb dX6_counted_118 (by decide) ?_
          exact ih98 (i + 1)  (by omega) (by omega)  _ _ hP hD hS _ (lv_sub hl [0, 1, 2] rfl)
    exact key98 (nT + 1) 0  (by omega) (by omega)  _ _ hP hD hS _ (lv_sub hl [0, 1, 2] rfl)
  · refine lv_tableIn (off := 120) (tgt := 123) hx hb dX6_counted_3 (by decide) (by decide) (by decide) (by decide) ?_
    refine lv_iconst (v := 0) hx hb dX6_counted_123 (by decide) ?_
    refine lv_istore_n (lv' := [(3, .int 0), (2, .int 0), (0, .ref m0), (1, .int (nI 8))]) hx hb dX6_counted_124 rfl hl (by decide) rfl (fun ls hl => ?_)
    have key125 : ∀ (ku125 : Nat) (i : Nat), i ≤ S.2.2.1 → S.2.2.1 - i < ku125 → ∀ (H : Heap) (locs : List Loc), va_P D vwCl [(m0, .inr (6, [.int th, .int (nI nD), .int (nI nT), .int (nI nC), .ref m1, .ref m2, .ref m3, .ref m4, .ref m5])), (m1, .inl (cI, 40, .inl (fl 5 S.2.1))), (m2, .inl (cI, 40, .inl (fl 2 st))), (m3, .inl (cI, 36, .inl (fl 3 S.2.2.2))), (m5, .inl (cI, 8, .inl (numA S.1 S.2.2.1)))] H → va_D A [(m0, .inr (6, [.int th, .int (nI nD), .int (nI nT), .int (nI nC), .ref m1, .ref m2, .ref m3, .ref m4, .ref m5])), (m1, .inl (cI, 40, .inl (fl 5 S.2.1))), (m2, .inl (cI, 40, .inl (fl 2 st))), (m3, .inl (cI, 36, .inl (fl 3 S.2.2.2))), (m5, .inl (cI, 8, .inl (numA S.1 S.2.2.1)))] → va_S A s.heap H locs → ∀ ls : Array Slot, lv_has ls 4 [(3, .int (nI i)), (2, .int (nI (csN nD S.2.1 S.2.2.2 i))), (0, .ref m0)] → W p l e ({ frames := 4, cells := 0, slots := 0, locals := 90 } : Room) s m ([.ref m0, .int (nI 8)] : List Value).toArray below meth c H locs 0 0 (MQ below (poI D A [(m0, .inr (6, [.int th, .int (nI nD), .int (nI nT), .int (nI nC), .ref m1, .ref m2, .ref m3, .ref m4, .ref m5])), (m1, .inl (cI, 40, .inl (fl 5 S.2.1))), (m2, .inl (cI, 40, .inl (fl 2 st))), (m3, .inl (cI, 36, .inl (fl 3 S.2.2.2))), (m5, .inl (cI, 8, .inl (numA S.1 S.2.2.1)))] (fcN nD nT nC st S (nI 8))) ([.ref m0, .int (nI 8)] : List Value).toArray s 0 0 A) (F0 m 125 ls []) := by
      intro ku125
      induction ku125 with
      | zero => intro i; intros; omega
      | succ ku125 ih125 =>
        intro i  hi125 hm125  H locs hP hD hS ls hl
        have hK12 := hO.1
        refine lv_iload_n hx hb dX6_counted_125 rfl (lv_at hl 0 rfl) ?_
        refine lv_aload_n hx hb dX6_counted_126 rfl (lv_at hl 2 rfl) ?_
        refine va_get (D := D) (ci := 6) (v := .ref m5) (C := RX6) (T := TX6) (N := 9) hx hb hts iX6_counted_X6 hown hk.1 hP 0 rfl rfl 8 (by decide) (hts _ mX6_counted_f22) (fun _ h9 => h9) rfl dX6_counted_127 ?_
        refine lv_bipush (v := 7) hx hb dX6_counted_130 (by decide) ?_
        refine aldN hx hb hk hP 4 rfl 7 rfl (by omega) (Nat.le_of_ble_eq_true rfl) dX6_counted_132 ?_
        refine top_int (show _ = (nI S.2.2.1 : Int32) from rfl) ?_
        refine icgeN (i := i) (n := S.2.2.1) (tgt := 151) hx hb (by omega) (by omega) dX6_counted_133 (by decide) (fun c133 => ?_) (fun c133 => ?_)
        · obtain rfl : S.2.2.1 = i := by omega
          refine lv_iload_n hx hb dX6_counted_151 rfl (lv_at hl 1 rfl) ?_
          exact retI hx hb hr hlocks hS hP hD dX6_counted_152 (rfl) rfl
        · refine lv_iload_n hx hb dX6_counted_136 rfl (lv_at hl 1 rfl) ?_
          refine lv_aload_n hx hb dX6_counted_137 rfl (lv_at hl 2 rfl) ?_
          refine lv_iload_n hx hb dX6_counted_138 rfl (lv_at hl 0 rfl) ?_
          refine lv_iconst (v := 3) hx hb dX6_counted_139 (by decide) ?_
          refine frI (wc := [(m0, .inr (6, [.int th, .int (nI nD), .int (nI nT), .int (nI nC), .ref m1, .ref m2, .ref m3, .ref m4, .ref m5])), (m1, .inl (cI, 40, .inl (fl 5 S.2.1))), (m3, .inl (cI, 36, .inl (fl 3 S.2.2.2)))]) (wc' := [(m0, .inr (6, [.int th, .int (nI nD), .int (nI nT), .int (nI nC), .ref m1, .ref m2, .ref m3, .ref m4, .ref m5])), (m1, .inl (cI, 40, .inl (fl 5 S.2.1))), (m3, .inl (cI, 36, .inl (fl 3 S.2.2.2)))]) (w' := [(m0, .inr (6, [.int th, .int (nI nD), .int (nI nT), .int (nI nC), .ref m1, .ref m2, .ref m3, .ref m4, .ref m5])), (m1, .inl (cI, 40, .inl (fl 5 S.2.1))), (m2, .inl (cI, 40, .inl (fl 2 st))), (m3, .inl (cI, 36, .inl (fl 3 S.2.2.2))), (m5, .inl (cI, 8, .inl (numA S.1 S.2.2.1)))]) hP hD hS hA [0, 1, 3] [2, 4] [2, 3, 0, 4, 1] rfl rfl rfl rfl rfl (va_runV (As := [.int (nI i), .int 3]) (rest := [.int (nI (csN nD S.2.1 S.2.2.2 i))]) ⟨hx, hb, hml, hown, hts⟩ (tX6_cometTold l D cI m0 m1 m2 m3 m4 m5 nD nT nC th S.2.1 S.2.2.2 i 3 hn hO.2.1 (by omega) (hO.2.2.1 i (by omega)).1 (by omega) _) (cwV 2 hts gX6_counted_X6_cometTold rfl rfl rfl hX6_cometTold ⟨Nat.le_of_ble_eq_true rfl, Nat.le_of_ble_eq_true rfl⟩) (preV_of hk hP hD [0, 1, 3] rfl rfl (recvO hk hP (ci := 6) (q0 := 0) rfl rfl)) rfl rfl hl.1 rfl (lv_room (Nat.le_of_ble_eq_true rfl)) dX6_counted_140 ⟨Nat.le_of_ble_eq_true rfl, Nat.le_of_ble_eq_true rfl⟩) (fun H locs hP hD hS => ?_)
          refine lv_iadd hx hb dX6_counted_143 ?_
          refine top_int (show _ = nI (csN nD S.2.1 S.2.2.2 (i + 1)) from cs_add nD S.2.1 S.2.2.2 i) ?_
          refine lv_istore_n (lv' := [(2, .int (nI (csN nD S.2.1 S.2.2.2 (i + 1)))), (3, .int (nI i)), (0, .ref m0)]) hx hb dX6_counted_144 rfl hl (by decide) rfl (fun ls hl => ?_)
          refine lv_iinc (v := nI (i + 1)) (lv' := [(3, .int (nI (i + 1))), (2, .int (nI (csN nD S.2.1 S.2.2.2 (i + 1)))), (0, .ref m0)]) hx hb dX6_counted_145 hl (k := 1) rfl (nI_inc i) (by decide) rfl (fun ls hl => ?_)
          refine lv_goto (tgt := 125) hx hb dX6_counted_148 (by decide) ?_
          exact ih125 (i + 1)  (by omega) (by omega)  _ _ hP hD hS _ (lv_sub hl [0, 1, 2] rfl)
    have hK12 := hO.1
    exact key125 (S.2.2.1 + 1) 0  (by omega) (by omega)  _ _ hP hD hS _ (lv_sub hl [0, 1, 2] rfl)
  · refine lv_tableOut (tgt := 153) hx hb dX6_counted_3 (Or.inr (by decide)) (by decide) ?_
    refine lv_aload_n hx hb dX6_counted_153 rfl (lv_at hl 1 rfl) ?_
    refine va_get (D := D) (ci := 6) (v := .ref m5) (C := RX6) (T := TX6) (N := 9) hx hb hts iX6_counted_X6 hown hk.1 hP 0 rfl rfl 8 (by decide) (hts _ mX6_counted_f22) (fun _ h9 => h9) rfl dX6_counted_154 ?_
    refine lv_iload_n hx hb dX6_counted_157 rfl (lv_at hl 2 rfl) ?_
    refine lv_bipush (v := 6) hx hb dX6_counted_158 (by decide) ?_
    refine lv_isub hx hb dX6_counted_160 ?_
    refine top_int (show nI 9 - 6 = nI 3 from by decide) ?_
    refine aldN hx hb hk hP 4 rfl 3 rfl (by omega) (Nat.le_of_ble_eq_true rfl) dX6_counted_161 ?_
    refine top_int (show _ = (S.1 3 : Int32) from rfl) ?_
    exact retI hx hb hr hlocks hS hP hD dX6_counted_162 (rfl) rfl
  · refine lv_tableOut (tgt := 153) hx hb dX6_counted_3 (Or.inr (by decide)) (by decide) ?_
    refine lv_aload_n hx hb dX6_counted_153 rfl (lv_at hl 1 rfl) ?_
    refine va_get (D := D) (ci := 6) (v := .ref m5) (C := RX6) (T := TX6) (N := 9) hx hb hts iX6_counted_X6 hown hk.1 hP 0 rfl rfl 8 (by decide) (hts _ mX6_counted_f22) (fun _ h9 => h9) rfl dX6_counted_154 ?_
    refine lv_iload_n hx hb dX6_counted_157 rfl (lv_at hl 2 rfl) ?_
    refine lv_bipush (v := 6) hx hb dX6_counted_158 (by decide) ?_
    refine lv_isub hx hb dX6_counted_160 ?_
    refine top_int (show nI 10 - 6 = nI 4 from by decide) ?_
    refine aldN hx hb hk hP 4 rfl 4 rfl (by omega) (Nat.le_of_ble_eq_true rfl) dX6_counted_161 ?_
    refine top_int (show _ = (S.1 4 : Int32) from rfl) ?_
    exact retI hx hb hr hlocks hS hP hD dX6_counted_162 (rfl) rfl
  · refine lv_tableOut (tgt := 153) hx hb dX6_counted_3 (Or.inr (by decide)) (by decide) ?_
    refine lv_aload_n hx hb dX6_counted_153 rfl (lv_at hl 1 rfl) ?_
    refine va_get (D := D) (ci := 6) (v := .ref m5) (C := RX6) (T := TX6) (N := 9) hx hb hts iX6_counted_X6 hown hk.1 hP 0 rfl rfl 8 (by decide) (hts _ mX6_counted_f22) (fun _ h9 => h9) rfl dX6_counted_154 ?_
    refine lv_iload_n hx hb dX6_counted_157 rfl (lv_at hl 2 rfl) ?_
    refine lv_bipush (v := 6) hx hb dX6_counted_158 (by decide) ?_
    refine lv_isub hx hb dX6_counted_160 ?_
    refine top_int (show nI 11 - 6 = nI 5 from by decide) ?_
    refine aldN hx hb hk hP 4 rfl 5 rfl (by omega) (Nat.le_of_ble_eq_true rfl) dX6_counted_161 ?_
    refine top_int (show _ = (S.1 5 : Int32) from rfl) ?_
    exact retI hx hb hr hlocks hS hP hD dX6_counted_162 (rfl) rfl
  · refine lv_tableOut (tgt := 153) hx hb dX6_counted_3 (Or.inr (by decide)) (by decide) ?_
    refine lv_aload_n hx hb dX6_counted_153 rfl (lv_at hl 1 rfl) ?_
    refine va_get (D := D) (ci := 6) (v := .ref m5) (C := RX6) (T := TX6) (N := 9) hx hb hts iX6_counted_X6 hown hk.1 hP 0 rfl rfl 8 (by decide) (hts _ mX6_counted_f22) (fun _ h9 => h9) rfl dX6_counted_154 ?_
    refine lv_iload_n hx hb dX6_counted_157 rfl (lv_at hl 2 rfl) ?_
    refine lv_bipush (v := 6) hx hb dX6_counted_158 (by decide) ?_
    refine lv_isub hx hb dX6_counted_160 ?_
    refine top_int (show nI 12 - 6 = nI 6 from by decide) ?_
    refine aldN hx hb hk hP 4 rfl 6 rfl (by omega) (Nat.le_of_ble_eq_true rfl) dX6_counted_161 ?_
    refine top_int (show _ = (S.1 6 : Int32) from rfl) ?_
    exact retI hx hb hr hlocks hS hP hD dX6_counted_162 (rfl) rfl
