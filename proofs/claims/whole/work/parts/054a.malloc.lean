theorem mX6_dimmer_f25 : (.fieldLink RX6 25 "StarConsoleModel" "thrown" "I" : Cond) ∈ wsX6_dimmer := by decide +kernel
theorem iX6_dimmer_X6 : ∀ w ∈ wsX60, w ∈ wsX6_dimmer := by decide +kernel
theorem mX6_dimmer_f29 : (.fieldLink RX6 29 "StarConsoleModel" "dimmers" "I" : Cond) ∈ wsX6_dimmer := by decide +kernel
theorem mX6_dimmer_aI : (.arrayClass .int : Cond) ∈ wsX6_dimmer := by decide +kernel
theorem mX6_dimmer_f9 : (.fieldLink RX6 9 "StarConsoleModel" "lamps" "[I" : Cond) ∈ wsX6_dimmer := by decide +kernel
theorem mX6_dimmer_lac : (.methodLink RX6 40 arraycopyName : Cond) ∈ wsX6_dimmer := by decide +kernel
theorem mX6_dimmer_nac : (.native arraycopyName : Cond) ∈ wsX6_dimmer := by decide +kernel
theorem mX6_dimmer_sac : (.static arraycopyName : Cond) ∈ wsX6_dimmer := by decide +kernel
theorem mX6_dimmer_iSys : (.initialized "java/lang/System" : Cond) ∈ wsX6_dimmer := by decide +kernel

theorem hX6_dimmer : yX6_dimmer.cls = RX6 ∧ yX6_dimmer.cls ≠ "java/lang/invoke/MethodHandle" ∧ yX6_dimmer.cls ≠ "java/lang/invoke/VarHandle" ∧ (parseMethodDescriptor yX6_dimmer.desc).map (fun d => d.parameters.length) = some 3 := by decide +kernel
set_option maxHeartbeats 4000000 in
set_option maxRecDepth 100000 in
theorem tX6_dimmer (l : Launch) (D : va_G) (cI : ClassId) (m0 m1 m2 m3 m4 m5 nD nT nC : Nat) (th : Int32) (g : Mx) (a b x : Int32) (hn : nD ≤ 8) : CIm l yX6_dimmer wsX6_dimmer ({ frames := 1, cells := 1, slots := 5, locals := 60 } : Room) D cI ([.ref m0, .int a, .int b, .int x] : List Value) [(m0, .inr (6, [.int th, .int (nI nD), .int (nI nT), .int (nI nC), .ref m1, .ref m2, .ref m3, .ref m4, .ref m5])), (m1, .inl (cI, 40, .inl (fl 5 g)))] (sel (kDim nD a b x) (nI nD) 0) [(m0, .inr (6, [.int (kDim nD a b x), .int (nI (sel (kDim nD a b x) (nD + 1) nD)), .int (nI nT), .int (nI nC), .ref m1, .ref m2, .ref m3, .ref m4, .ref m5])), (m1, .inl (cI, 40, .inl (fl 5 (sel (kDim nD a b x) (dAdd g nD a b x) g))))] 1 5 := by
  refine entIm (cc := cX6_dimmer) (maxL := 5) (ret := (some .int)) (by decide) rfl (Nat.le_of_ble_eq_true rfl) (fun p e s m below meth c A ls hni fx hl => ?_)
  have fx0 := fx
  obtain ⟨hx, hb, hr, hml, hown, hts, hlocks, hk, hP, hD, hA⟩ := fx
  have hown : s.vm.findClass RX6 = some m.cls := hown
  have hS : va_S A s.heap s.heap [] := va_S.rf
  have hP : va_P D vwCl [(m0, .inr (6, [.int th, .int (nI nD), .int (nI nT), .int (nI nC), .ref m1, .ref m2, .ref m3, .ref m4, .ref m5])), (m1, .inl (cI, 40, .inl (fl 5 g)))] s.heap := hP
  have hD : va_D A [(m0, .inr (6, [.int th, .int (nI nD), .int (nI nT), .int (nI nC), .ref m1, .ref m2, .ref m3, .ref m4, .ref m5])), (m1, .inl (cI, 40, .inl (fl 5 g)))] := hD
  have hl : lv_has ls 5 [(0, .ref m0), (1, .int a), (2, .int b), (3, .int x)] := hl
  refine lv_aload_n hx hb dX6_dimmer_0 rfl (lv_at hl 0 rfl) ?_
  refine lv_iconst (v := 0) hx hb dX6_dimmer_1 (by decide) ?_
  refine va_put (D := D) (ci := 6) (v := .int 0) (ty := .int) (C := RX6) (T := TX6) (N := 9) hx hb hts iX6_dimmer_X6 tyX6 tyX6_ok nmX6 hown hk.1 hP hD hS 0 rfl rfl 0 (by decide) (hts _ mX6_dimmer_f25) (fun _ h9 => h9) rfl (by decide +kernel) rfl rfl (Nat.le_of_ble_eq_true rfl) dX6_dimmer_2 (fun H locs hP hD hS => ?_)
  have hP : va_P D vwCl [(m0, .inr (6, [.int 0, .int (nI nD), .int (nI nT), .int (nI nC), .ref m1, .ref m2, .ref m3, .ref m4, .ref m5])), (m1, .inl (cI, 40, .inl (fl 5 g)))] H := hP
  have hD : va_D A [(m0, .inr (6, [.int 0, .int (nI nD), .int (nI nT), .int (nI nC), .ref m1, .ref m2, .ref m3, .ref m4, .ref m5])), (m1, .inl (cI, 40, .inl (fl 5 g)))] := hD
  refine lv_iload_n hx hb dX6_dimmer_5 rfl (lv_at hl 1 rfl) ?_
  refine lv_iconst (v := 0) hx hb dX6_dimmer_6 (by decide) ?_
  refine lv_bipush (v := 11) hx hb dX6_dimmer_7 (by decide) ?_
  refine frI (wc := []) (wc' := []) (w' := [(m0, .inr (6, [.int 0, .int (nI nD), .int (nI nT), .int (nI nC), .ref m1, .ref m2, .ref m3, .ref m4, .ref m5])), (m1, .inl (cI, 40, .inl (fl 5 g)))]) hP hD hS hA [] [0, 1] [0, 1] rfl rfl rfl rfl rfl (va_runS (As := [.int a, .int 0, .int 11]) (rest := []) ⟨hx, hb, hml, hown, hts⟩ (tX6_isIn l D cI a 0 11  _) (va_cwS 3 hts gX6_dimmer_X6_isIn rfl rfl rfl hX6_isIn.2 ⟨Nat.le_of_ble_eq_true rfl, Nat.le_of_ble_eq_true rfl⟩) (preS_of hk hP hD [] rfl rfl) rfl rfl hl.1 rfl (lv_room (Nat.le_of_ble_eq_true rfl)) dX6_dimmer_9 ⟨Nat.le_of_ble_eq_true rfl, Nat.le_of_ble_eq_true rfl⟩) (fun H locs hP hD hS => ?_)
  refine lv_if_eq (tgt := 36) hx hb dX6_dimmer_12 (by decide) (fun c12 => ?_) (fun c12 => ?_)
  · rw [show kDim nD a b x = 1 from by rw [kDim, if_pos c12]]
    refine lv_aload_n hx hb dX6_dimmer_36 rfl (lv_at hl 0 rfl) ?_
    refine lv_iconst (v := 1) hx hb dX6_dimmer_37 (by decide) ?_
    refine frI (wc := [(m0, .inr (6, [.int 0, .int (nI nD), .int (nI nT), .int (nI nC), .ref m1, .ref m2, .ref m3, .ref m4, .ref m5]))]) (wc' := [(m0, .inr (6, [.int 1, .int (nI nD), .int (nI nT), .int (nI nC), .ref m1, .ref m2, .ref m3, .ref m4, .ref m5]))]) (w' := [(m0, .inr (6, [.int 1, .int (nI nD), .int (nI nT), .int (nI nC), .ref m1, .ref m2, .ref m3, .ref m4, .ref m5])), (m1, .inl (cI, 40, .inl (fl 5 g)))]) hP hD hS hA [0] [1] [1, 0] rfl rfl rfl rfl rfl (va_runV (As := [.int 1]) (rest := []) ⟨hx, hb, hml, hown, hts⟩ (tX6_fail l D cI m0 m1 m2 m3 m4 m5 nD nT nC 0 1  _) (cwV 1 hts gX6_dimmer_X6_fail rfl rfl rfl hX6_fail ⟨Nat.le_of_ble_eq_true rfl, Nat.le_of_ble_eq_true rfl⟩) (preV_of hk hP hD [0] rfl rfl (recvO hk hP (ci := 6) (q0 := 0) rfl rfl)) rfl rfl hl.1 rfl (lv_room (Nat.le_of_ble_eq_true rfl)) dX6_dimmer_38 ⟨Nat.le_of_ble_eq_true rfl, Nat.le_of_ble_eq_true rfl⟩) (fun H locs hP hD hS => ?_)
    exact retIm hx hb hr hlocks hS hP hD dX6_dimmer_41 (rfl) rfl (Nat.le_of_ble_eq_true rfl) (Nat.le_of_ble_eq_true rfl)
  · refine lv_iload_n hx hb dX6_dimmer_15 rfl (lv_at hl 2 rfl) ?_
    refine lv_iconst (v := 1) hx hb dX6_dimmer_16 (by decide) ?_
    refine lv_bipush (v := 50) hx hb dX6_dimmer_17 (by decide) ?_
    refine frI (wc := []) (wc' := []) (w' := [(m0, .inr (6, [.int 0, .int (nI nD), .int (nI nT), .int (nI nC), .ref m1, .ref m2, .ref m3, .ref m4, .ref m5])), (m1, .inl (cI, 40, .inl (fl 5 g)))]) hP hD hS hA [] [0, 1] [0, 1] rfl rfl rfl rfl rfl (va_runS (As := [.int b, .int 1, .int 50]) (rest := []) ⟨hx, hb, hml, hown, hts⟩ (tX6_isIn l D cI b 1 50  _) (va_cwS 3 hts gX6_dimmer_X6_isIn rfl rfl rfl hX6_isIn.2 ⟨Nat.le_of_ble_eq_true rfl, Nat.le_of_ble_eq_true rfl⟩) (preS_of hk hP hD [] rfl rfl) rfl rfl hl.1 rfl (lv_room (Nat.le_of_ble_eq_true rfl)) dX6_dimmer_19 ⟨Nat.le_of_ble_eq_true rfl, Nat.le_of_ble_eq_true rfl⟩) (fun H locs hP hD hS => ?_)
    refine lv_if_eq (tgt := 36) hx hb dX6_dimmer_22 (by decide) (fun c22 => ?_) (fun c22 => ?_)
    · rw [show kDim nD a b x = 1 from by rw [kDim, if_neg c12, if_pos c22]]
      refine lv_aload_n hx hb dX6_dimmer_36 rfl (lv_at hl 0 rfl) ?_
      refine lv_iconst (v := 1) hx hb dX6_dimmer_37 (by decide) ?_
      refine frI (wc := [(m0, .inr (6, [.int 0, .int (nI nD), .int (nI nT), .int (nI nC), .ref m1, .ref m2, .ref m3, .ref m4, .ref m5]))]) (wc' := [(m0, .inr (6, [.int 1, .int (nI nD), .int (nI nT), .int (nI nC), .ref m1, .ref m2, .ref m3, .ref m4, .ref m5]))]) (w' := [(m0, .inr (6, [.int 1, .int (nI nD), .int (nI nT), .int (nI nC), .ref m1, .ref m2, .ref m3, .ref m4, .ref m5])), (m1, .inl (cI, 40, .inl (fl 5 g)))]) hP hD hS hA [0] [1] [1, 0] rfl rfl rfl rfl rfl (va_runV (As := [.int 1]) (rest := []) ⟨hx, hb, hml, hown, hts⟩ (tX6_fail l D cI m0 m1 m2 m3 m4 m5 nD nT nC 0 1  _) (cwV 1 hts gX6_dimmer_X6_fail rfl rfl rfl hX6_fail ⟨Nat.le_of_ble_eq_true rfl, Nat.le_of_ble_eq_true rfl⟩) (preV_of hk hP hD [0] rfl rfl (recvO hk hP (ci := 6) (q0 := 0) rfl rfl)) rfl rfl hl.1 rfl (lv_room (Nat.le_of_ble_eq_true rfl)) dX6_dimmer_38 ⟨Nat.le_of_ble_eq_true rfl, Nat.le_of_ble_eq_true rfl⟩) (fun H locs hP hD hS => ?_)
      exact retIm hx hb hr hlocks hS hP hD dX6_dimmer_41 (rfl) rfl (Nat.le_of_ble_eq_true rfl) (Nat.le_of_ble_eq_true rfl)
    · refine lv_iload_n hx hb dX6_dimmer_25 rfl (lv_at hl 3 rfl) ?_
      refine lv_iconst (v := 0) hx hb dX6_dimmer_26 (by decide) ?_
      refine lv_sipush (v := 9999) hx hb dX6_dimmer_27 (by decide) ?_
      refine frI (wc := []) (wc' := []) (w' := [(m0, .inr (6, [.int 0, .int (nI nD), .int (nI nT), .int (nI nC), .ref m1, .ref m2, .ref m3, .ref m4, .ref m5])), (m1, .inl (cI, 40, .inl (fl 5 g)))]) hP hD hS hA [] [0, 1] [0, 1] rfl rfl rfl rfl rfl (va_runS (As := [.int x, .int 0, .int 9999]) (rest := []) ⟨hx, hb, hml, hown, hts⟩ (tX6_isIn l D cI x 0 9999  _) (va_cwS 3 hts gX6_dimmer_X6_isIn rfl rfl rfl hX6_isIn.2 ⟨Nat.le_of_ble_eq_true rfl, Nat.le_of_ble_eq_true rfl⟩) (preS_of hk hP hD [] rfl rfl) rfl rfl hl.1 rfl (lv_room (Nat.le_of_ble_eq_true rfl)) dX6_dimmer_30 ⟨Nat.le_of_ble_eq_true rfl, Nat.le_of_ble_eq_true rfl⟩) (fun H locs hP hD hS => ?_)
      refine lv_if_ne (tgt := 42) hx hb dX6_dimmer_33 (by decide) (fun c33 => ?_) (fun c33 => ?_)
      · refine lv_aload_n hx hb dX6_dimmer_42 rfl (lv_at hl 0 rfl) ?_
        refine va_get (D := D) (ci := 6) (v := .int (nI nD)) (C := RX6) (T := TX6) (N := 9) hx hb hts iX6_dimmer_X6 hown hk.1 hP 0 rfl rfl 1 (by decide) (hts _ mX6_dimmer_f29) (fun _ h9 => h9) rfl dX6_dimmer_43 ?_
        refine lv_bipush (v := 8) hx hb dX6_dimmer_46 (by decide) ?_
        refine icneN (i := nD) (n := 8) (tgt := 57) hx hb (by omega) (by omega) dX6_dimmer_48 (by decide) (fun c48 => ?_) (fun c48 => ?_)
        · rw [show kDim nD a b x = 0 from by rw [kDim, if_neg c12, if_neg c22, if_neg c33, if_neg (by omega)]]
          refine lv_iconst (v := 5) hx hb dX6_dimmer_57 (by decide) ?_
          refine va_newa (atype := .int) (ty := .int) (N' := 5) (a0 := (5, .inl (fun _ => 0))) hx hb (hts _ mX6_dimmer_aI) rfl hk.1 hP hD hS hA (fun _ => rfl) (by decide) (by decide) (Nat.le_of_ble_eq_true rfl) (Nat.le_of_ble_eq_true rfl) (Nat.le_of_ble_eq_true rfl) dX6_dimmer_58 (fun nq1 cA H hKn hP hD hS => ?_)
          obtain rfl : cI = cA := one_cls hKn
          have hP : va_P D vwCl [(m0, .inr (6, [.int 0, .int (nI nD), .int (nI nT), .int (nI nC), .ref m1, .ref m2, .ref m3, .ref m4, .ref m5])), (m1, .inl (cI, 40, .inl (fl 5 g))), (nq1, .inl (cI, 5, .inl (fun _ => 0)))] H := hP
          have hD : va_D A [(m0, .inr (6, [.int 0, .int (nI nD), .int (nI nT), .int (nI nC), .ref m1, .ref m2, .ref m3, .ref m4, .ref m5])), (m1, .inl (cI, 40, .inl (fl 5 g))), (nq1, .inl (cI, 5, .inl (fun _ => 0)))] := hD
          refine lv_dup hx hb dX6_dimmer_60 rfl ?_
          refine lv_iconst (v := 0) hx hb dX6_dimmer_61 (by decide) ?_
          refine lv_iload_n hx hb dX6_dimmer_62 rfl (lv_at hl 1 rfl) ?_
          refine astN hx hb hk hP hD hS 2 rfl 0 rfl (by omega) (Nat.le_of_ble_eq_true rfl) dX6_dimmer_63 (fun H locs hP hD hS => ?_)
          have hP : va_P D vwCl [(m0, .inr (6, [.int 0, .int (nI nD), .int (nI nT), .int (nI nC), .ref m1, .ref m2, .ref m3, .ref m4, .ref m5])), (m1, .inl (cI, 40, .inl (fl 5 g))), (nq1, .inl (cI, 5, .inl (upd (fun _ => 0) 0 a)))] H := hP
          have hD : va_D A [(m0, .inr (6, [.int 0, .int (nI nD), .int (nI nT), .int (nI nC), .ref m1, .ref m2, .ref m3, .ref m4, .ref m5])), (m1, .inl (cI, 40, .inl (fl 5 g))), (nq1, .inl (cI, 5, .inl (upd (fun _ => 0) 0 a)))] := hD
          refine lv_dup hx hb dX6_dimmer_64 rfl ?_
          refine lv_iconst (v := 1) hx hb dX6_dimmer_65 (by decide) ?_
          refine lv_iconst (v := 0) hx hb dX6_dimmer_66 (by decide) ?_
          refine astN hx hb hk hP hD hS 2 rfl 1 rfl (by omega) (Nat.le_of_ble_eq_true rfl) dX6_dimmer_67 (fun H locs hP hD hS => ?_)
          have hP : va_P D vwCl [(m0, .inr (6, [.int 0, .int (nI nD), .int (nI nT), .int (nI nC), .ref m1, .ref m2, .ref m3, .ref m4, .ref m5])), (m1, .inl (cI, 40, .inl (fl 5 g))), (nq1, .inl (cI, 5, .inl (upd (upd (fun _ => 0) 0 a) 1 0)))] H := hP
          have hD : va_D A [(m0, .inr (6, [.int 0, .int (nI nD), .int (nI nT), .int (nI nC), .ref m1, .ref m2, .ref m3, .ref m4, .ref m5])), (m1, .inl (cI, 40, .inl (fl 5 g))), (nq1, .inl (cI, 5, .inl (upd (upd (fun _ => 0) 0 a) 1 0)))] := hD
          refine lv_dup hx hb dX6_dimmer_68 rfl ?_
          refine lv_iconst (v := 2) hx hb dX6_dimmer_69 (by decide) ?_
          refine lv_iconst (v := 0) hx hb dX6_dimmer_70 (by decide) ?_
          refine astN hx hb hk hP hD hS 2 rfl 2 rfl (by omega) (Nat.le_of_ble_eq_true rfl) dX6_dimmer_71 (fun H locs hP hD hS => ?_)
          have hP : va_P D vwCl [(m0, .inr (6, [.int 0, .int (nI nD), .int (nI nT), .int (nI nC), .ref m1, .ref m2, .ref m3, .ref m4, .ref m5])), (m1, .inl (cI, 40, .inl (fl 5 g))), (nq1, .inl (cI, 5, .inl (upd (upd (upd (fun _ => 0) 0 a) 1 0) 2 0)))] H := hP
          have hD : va_D A [(m0, .inr (6, [.int 0, .int (nI nD), .int (nI nT), .int (nI nC), .ref m1, .ref m2, .ref m3, .ref m4, .ref m5])), (m1, .inl (cI, 40, .inl (fl 5 g))), (nq1, .inl (cI, 5, .inl (upd (upd (upd (fun _ => 0) 0 a) 1 0) 2 0)))] := hD
          refine lv_dup hx hb dX6_dimmer_72 rfl ?_
          refine lv_iconst (v := 3) hx hb dX6_dimmer_73 (by decide) ?_
          refine lv_iload_n hx hb dX6_dimmer_74 rfl (lv_at hl 2 rfl) ?_
          refine astN hx hb hk hP hD hS 2 rfl 3 rfl (by omega) (Nat.le_of_ble_eq_true rfl) dX6_dimmer_75 (fun H locs hP hD hS => ?_)
          have hP : va_P D vwCl [(m0, .inr (6, [.int 0, .int (nI nD), .int (nI nT), .int (nI nC), .ref m1, .ref m2, .ref m3, .ref m4, .ref m5])), (m1, .inl (cI, 40, .inl (fl 5 g))), (nq1, .inl (cI, 5, .inl (upd (upd (upd (upd (fun _ => 0) 0 a) 1 0) 2 0) 3 b)))] H := hP
          have hD : va_D A [(m0, .inr (6, [.int 0, .int (nI nD), .int (nI nT), .int (nI nC), .ref m1, .ref m2, .ref m3, .ref m4, .ref m5])), (m1, .inl (cI, 40, .inl (fl 5 g))), (nq1, .inl (cI, 5, .inl (upd (upd (upd (upd (fun _ => 0) 0 a) 1 0) 2 0) 3 b)))] := hD
          refine lv_dup hx hb dX6_dimmer_76 rfl ?_
          refine lv_iconst (v := 4) hx hb dX6_dimmer_77 (by decide) ?_
          refine lv_iload_n hx hb dX6_dimmer_78 rfl (lv_at hl 3 rfl) ?_
          refine astN hx hb hk hP hD hS 2 rfl 4 rfl (by omega) (Nat.le_of_ble_eq_true rfl) dX6_dimmer_79 (fun H locs hP hD hS => ?_)
          have hP : va_P D vwCl [(m0, .inr (6, [.int 0, .int (nI nD), .int (nI nT), .int (nI nC), .ref m1, .ref m2, .ref m3, .ref m4, .ref m5])), (m1, .inl (cI, 40, .inl (fl 5 g))), (nq1, .inl (cI, 5, .inl (upd (upd (upd (upd (upd (fun _ => 0) 0 a) 1 0) 2 0) 3 b) 4 x)))] H := hP
          have hD : va_D A [(m0, .inr (6, [.int 0, .int (nI nD), .int (nI nT), .int (nI nC), .ref m1, .ref m2, .ref m3, .ref m4, .ref m5])), (m1, .inl (cI, 40, .inl (fl 5 g))), (nq1, .inl (cI, 5, .inl (upd (upd (upd (upd (upd (fun _ => 0) 0 a) 1 0) 2 0) 3 b) 4 x)))] := hD
          refine lv_astore (lv' := [(4, .ref nq1), (0, .ref m0), (1, .int a), (2, .int b), (3, .int x)]) hx hb dX6_dimmer_80 hl (by decide) rfl (fun ls hl => ?_)
          refine lv_aload hx hb dX6_dimmer_82 (lv_at hl 0 rfl) ?_
          refine lv_iconst (v := 0) hx hb dX6_dimmer_84 (by decide) ?_
          refine lv_aload_n hx hb dX6_dimmer_85 rfl (lv_at hl 1 rfl) ?_
          refine va_get (D := D) (ci := 6) (v := .ref m1) (C := RX6) (T := TX6) (N := 9) hx hb hts iX6_dimmer_X6 hown hk.1 hP 0 rfl rfl 4 (by decide) (hts _ mX6_dimmer_f9) (fun _ h9 => h9) rfl dX6_dimmer_86 ?_
          refine lv_iconst (v := 5) hx hb dX6_dimmer_89 (by decide) ?_
          refine lv_aload_n hx hb dX6_dimmer_90 rfl (lv_at hl 1 rfl) ?_
          refine va_get (D := D) (ci := 6) (v := .int (nI nD)) (C := RX6) (T := TX6) (N := 9) hx hb hts iX6_dimmer_X6 hown hk.1 hP 0 rfl rfl 1 (by decide) (hts _ mX6_dimmer_f29) (fun _ h9 => h9) rfl dX6_dimmer_91 ?_
          refine lv_imul hx hb dX6_dimmer_94 ?_
          refine top_int (nmulE (a := 5) (b := nD) rfl rfl) ?_
          refine lv_iconst (v := 5) hx hb dX6_dimmer_95 (by decide) ?_
          refine va_copyi hx hb (hml.trans hl.1.symm) hown (hts _ mX6_dimmer_lac) (hts _ mX6_dimmer_nac) (hts _ mX6_dimmer_sac) (hts _ mX6_dimmer_iSys) hk.1 hP hD hS 2 1 0 0 rfl rfl rfl rfl rfl (by decide) (nI_pos (by omega)) (by decide) (by decide) (by rw [nI_clamp (by omega)]; show _ + 5 ≤ 40; omega) (fun _ _ => rfl) (Nat.le_of_ble_eq_true rfl) (Nat.le_of_ble_eq_true rfl) dX6_dimmer_96 (fun H locs hP hD hS => ?_)
          rw [cpy_dim (n := nD) (g := g) (a := a) (b := b) (c := x) (f := upd (upd (upd (upd (upd (fun _ => 0) 0 a) 1 0) 2 0) 3 b) 4 x) hn rfl rfl rfl rfl rfl] at hP hD
          have hP : va_P D vwCl [(m0, .inr (6, [.int 0, .int (nI nD), .int (nI nT), .int (nI nC), .ref m1, .ref m2, .ref m3, .ref m4, .ref m5])), (m1, .inl (cI, 40, .inl (fl 5 (dAdd g nD a b x)))), (nq1, .inl (cI, 5, .inl (upd (upd (upd (upd (upd (fun _ => 0) 0 a) 1 0) 2 0) 3 b) 4 x)))] H := hP
          have hD : va_D A [(m0, .inr (6, [.int 0, .int (nI nD), .int (nI nT), .int (nI nC), .ref m1, .ref m2, .ref m3, .ref m4, .ref m5])), (m1, .inl (cI, 40, .inl (fl 5 (dAdd g nD a b x)))), (nq1, .inl (cI, 5, .inl (upd (upd (upd (upd (upd (fun _ => 0) 0 a) 1 0) 2 0) 3 b) 4 x)))] := hD
          refine lv_aload_n hx hb dX6_dimmer_99 rfl (lv_at hl 1 rfl) ?_
          refine lv_dup hx hb dX6_dimmer_100 rfl ?_
          refine va_get (D := D) (ci := 6) (v := .int (nI nD)) (C := RX6) (T := TX6) (N := 9) hx hb hts iX6_dimmer_X6 hown hk.1 hP 0 rfl rfl 1 (by decide) (hts _ mX6_dimmer_f29) (fun _ h9 => h9) rfl dX6_dimmer_101 ?_
          refine lv_iconst (v := 1) hx hb dX6_dimmer_104 (by decide) ?_
          refine lv_iadd hx hb dX6_dimmer_105 ?_
          refine top_int (naddE (a := nD) (b := 1) rfl rfl) ?_
          refine va_put (D := D) (ci := 6) (v := .int (nI (nD + 1))) (ty := .int) (C := RX6) (T := TX6) (N := 9) hx hb hts iX6_dimmer_X6 tyX6 tyX6_ok nmX6 hown hk.1 hP hD hS 0 rfl rfl 1 (by decide) (hts _ mX6_dimmer_f29) (fun _ h9 => h9) rfl (by decide +kernel) rfl rfl (Nat.le_of_ble_eq_true rfl) dX6_dimmer_106 (fun H locs hP hD hS => ?_)
          have hP : va_P D vwCl [(m0, .inr (6, [.int 0, .int (nI (nD + 1)), .int (nI nT), .int (nI nC), .ref m1, .ref m2, .ref m3, .ref m4, .ref m5])), (m1, .inl (cI, 40, .inl (fl 5 (dAdd g nD a b x)))), (nq1, .inl (cI, 5, .inl (upd (upd (upd (upd (upd (fun _ => 0) 0 a) 1 0) 2 0) 3 b) 4 x)))] H := hP
          have hD : va_D A [(m0, .inr (6, [.int 0, .int (nI (nD + 1)), .int (nI nT), .int (nI nC), .ref m1, .ref m2, .ref m3, .ref m4, .ref m5])), (m1, .inl (cI, 40, .inl (fl 5 (dAdd g nD a b x)))), (nq1, .inl (cI, 5, .inl (upd (upd (upd (upd (upd (fun _ => 0) 0 a) 1 0) 2 0) 3 b) 4 x)))] := hD
          refine lv_aload_n hx hb dX6_dimmer_109 rfl (lv_at hl 1 rfl) ?_
          refine va_get (D := D) (ci := 6) (v := .int (nI (nD + 1))) (C := RX6) (T := TX6) (N := 9) hx hb hts iX6_dimmer_X6 hown hk.1 hP 0 rfl rfl 1 (by decide) (hts _ mX6_dimmer_f29) (fun _ h9 => h9) rfl dX6_dimmer_110 ?_
          refine lv_iconst (v := 1) hx hb dX6_dimmer_113 (by decide) ?_
          refine lv_isub hx hb dX6_dimmer_114 ?_
          refine top_int (show nI (nD + 1) - 1 = nI nD from nI_pred nD) ?_
          have hP := hP.sub (ws' := [(m0, .inr (6, [.int 0, .int (nI (nD + 1)), .int (nI nT), .int (nI nC), .ref m1, .ref m2, .ref m3, .ref m4, .ref m5])), (m1, .inl (cI, 40, .inl (fl 5 (dAdd g nD a b x))))]) [0, 1] rfl
          have hD := hD.sub (ws' := [(m0, .inr (6, [.int 0, .int (nI (nD + 1)), .int (nI nT), .int (nI nC), .ref m1, .ref m2, .ref m3, .ref m4, .ref m5])), (m1, .inl (cI, 40, .inl (fl 5 (dAdd g nD a b x))))]) [0, 1] (by decide) rfl
          exact retIm hx hb hr hlocks hS hP hD dX6_dimmer_115 (rfl) rfl (Nat.le_of_ble_eq_true rfl) (Nat.le_of_ble_eq_true rfl)
        · rw [show kDim nD a b x = 2 from by rw [kDim, if_neg c12, if_neg c22, if_neg c33, if_pos (by omega)]]
          refine lv_aload_n hx hb dX6_dimmer_51 rfl (lv_at hl 0 rfl) ?_
          refine lv_iconst (v := 2) hx hb dX6_dimmer_52 (by decide) ?_
          refine frI (wc := [(m0, .inr (6, [.int 0, .int (nI nD), .int (nI nT), .int (nI nC), .ref m1, .ref m2, .ref m3, .ref m4, .ref m5]))]) (wc' := [(m0, .inr (6, [.int 2, .int (nI nD), .int (nI nT), .int (nI nC), .ref m1, .ref m2, .ref m3, .ref m4, .ref m5]))]) (w' := [(m0, .inr (6, [.int 2, .int (nI nD), .int (nI nT), .int (nI nC), .ref m1, .ref m2, .ref m3, .ref m4, .ref m5])), (m1, .inl (cI, 40, .inl (fl 5 g)))]) hP hD hS hA [0] [1] [1, 0] rfl rfl rfl rfl rfl (va_runV (As := [.int 2]) (rest := []) ⟨hx, hb, hml, hown, hts⟩ (tX6_fail l D cI m0 m1 m2 m3 m4 m5 nD nT nC 0 2  _) (cwV 1 hts gX6_dimmer_X6_fail rfl rfl rfl hX6_fail ⟨Nat.le_of_ble_eq_true rfl, Nat.le_of_ble_eq_true rfl⟩) (preV_of hk hP hD [0] rfl rfl (recvO hk hP (ci := 6) (q0 := 0) rfl rfl)) rfl rfl hl.1 rfl (lv_room (Nat.le_of_ble_eq_true rfl)) dX6_dimmer_53 ⟨Nat.le_of_ble_eq_true rfl, Nat.le_of_ble_eq_true rfl⟩) (fun H locs hP hD hS => ?_)
          exact retIm hx hb hr hlocks hS hP hD dX6_dimmer_56 (rfl) rfl (Nat.le_of_ble_eq_true rfl) (Nat.le_of_ble_eq_true rfl)
      · rw [show kDim nD a b x = 1 from by rw [kDim, if_neg c12, if_neg c22, if_pos c33]]
        refine lv_aload_n hx hb dX6_dimmer_36 rfl (lv_at hl 0 rfl) ?_
        refine lv_iconst (v := 1) hx hb dX6_dimmer_37 (by decide) ?_
        refine frI (wc := [(m0, .inr (6, [.int 0, .int (nI nD), .int (nI nT), .int (nI nC), .ref m1, .ref m2, .ref m3, .ref m4, .ref m5]))]) (wc' := [(m0, .inr (6, [.int 1, .int (nI nD), .int (nI nT), .int (nI nC), .ref m1, .ref m2, .ref m3, .ref m4, .ref m5]))]) (w' := [(m0, .inr (6, [.int 1, .int (nI nD), .int (nI nT), .int (nI nC), .ref m1, .ref m2, .ref m3, .ref m4, .ref m5])), (m1, .inl (cI, 40, .inl (fl 5 g)))]) hP hD hS hA [0] [1] [1, 0] rfl rfl rfl rfl rfl (va_runV (As := [.int 1]) (rest := []) ⟨hx, hb, hml, hown, hts⟩ (tX6_fail l D cI m0 m1 m2 m3 m4 m5 nD nT nC 0 1  _) (cwV 1 hts gX6_dimmer_X6_fail rfl rfl rfl hX6_fail ⟨Nat.le_of_ble_eq_true rfl, Nat.le_of_ble_eq_true rfl⟩) (preV_of hk hP hD [0] rfl rfl (recvO hk hP (ci := 6) (q0 := 0) rfl rfl)) rfl rfl hl.1 rfl (lv_room (Nat.le_of_ble_eq_true rfl)) dX6_dimmer_38 ⟨Nat.le_of_ble_eq_true rfl, Nat.le_of_ble_eq_true rfl⟩) (fun H locs hP hD hS => ?_)
        exact retIm hx hb hr hlocks hS hP hD dX6_dimmer_41 (rfl) rfl (Nat.le_of_ble_eq_true rfl) (Nat.le_of_ble_eq_true rfl)

theorem mX6_cue_f25 : (.fieldLink RX6 25 "StarConsoleModel" "thrown" "I" : Cond) ∈ wsX6_cue := by decide +kernel
theorem iX6_cue_X6 : ∀ w ∈ wsX60, w ∈ wsX6_cue := by decide +kernel
theorem mX6_cue_f64 : (.fieldLink RX6 64 "StarConsoleModel" "cues" "I" : Cond) ∈ wsX6_cue := by decide +kernel
theorem mX6_cue_aI : (.arrayClass .int : Cond) ∈ wsX6_cue := by decide +kernel
theorem mX6_cue_f19 : (.fieldLink RX6 19 "StarConsoleModel" "show" "[I" : Cond) ∈ wsX6_cue := by decide +kernel
theorem mX6_cue_lac : (.methodLink RX6 40 arraycopyName : Cond) ∈ wsX6_cue := by decide +kernel
theorem mX6_cue_nac : (.native arraycopyName : Cond) ∈ wsX6_cue := by decide +kernel
theorem mX6_cue_sac : (.static arraycopyName : Cond) ∈ wsX6_cue := by decide +kernel
theorem mX6_cue_iSys : (.initialized "java/lang/System" : Cond) ∈ wsX6_cue := by decide +kernel

theorem hX6_cue : yX6_cue.cls = RX6 ∧ yX6_cue.cls ≠ "java/lang/invoke/MethodHandle" ∧ yX6_cue.cls ≠ "java/lang/invoke/VarHandle" ∧ (parseMethodDescriptor yX6_cue.desc).map (fun d => d.parameters.length) = some 4 := by decide +kernel
set_option maxHeartbeats 4000000 in
set_option maxRecDepth 100000 in
theorem tX6_cue (l : Launch) (D : va_G) (cI : ClassId) (m0 m1 m2 m3 m4 m5 nD nT nC : Nat) (th : Int32) (cu : Mx) (ti kd a b : Int32) (hn : nD ≤ 8) (hC : nC ≤ 24) : CIm l yX6_cue wsX6_cue ({ frames := 3, cells := 1, slots := 4, locals := 66 } : Room) D cI ([.ref m0, .int ti, .int kd, .int a, .int b] : List Value) [(m0, .inr (6, [.int th, .int (nI nD), .int (nI nT), .int (nI nC), .ref m1, .ref m2, .ref m3, .ref m4, .ref m5])), (m4, .inl (cI, 96, .inl (fl 4 cu)))] (sel (kCue nD nC ti kd a b) (nI nC) 0) [(m0, .inr (6, [.int (kCue nD nC ti kd a b), .int (nI nD), .int (nI nT), .int (nI (sel (kCue nD nC ti kd a b) (nC + 1) nC)), .ref m1, .ref m2, .ref m3, .ref m4, .ref m5])), (m4, .inl (cI, 96, .inl (fl 4 (sel (kCue nD nC ti kd a b) (uAdd cu nC ti kd a b) cu))))] 1 4 := by
  refine entIm (cc := cX6_cue) (maxL := 6) (ret := (some .int)) (by decide) rfl (Nat.le_of_ble_eq_true rfl) (fun p e s m below meth c A ls hni fx hl => ?_)
  have fx0 := fx
  obtain ⟨hx, hb, hr, hml, hown, hts, hlocks, hk, hP, hD, hA⟩ := fx
  have hown : s.vm.findClass RX6 = some m.cls := hown
  have hS : va_S A s.heap s.heap [] := va_S.rf
  have hP : va_P D vwCl [(m0, .inr (6, [.int th, .int (nI nD), .int (nI nT), .int (nI nC), .ref m1, .ref m2, .ref m3, .ref m4, .ref m5])), (m4, .inl (cI, 96, .inl (fl 4 cu)))] s.heap := hP
  have hD : va_D A [(m0, .inr (6, [.int th, .int (nI nD), .int (nI nT), .int (nI nC), .ref m1, .ref m2, .ref m3, .ref m4, .ref m5])), (m4, .inl (cI, 96, .inl (fl 4 cu)))] := hD
  have hl : lv_has ls 6 [(0, .ref m0), (1, .int ti), (2, .int kd), (3, .int a), (4, .int b)] := hl
  refine lv_aload_n hx hb dX6_cue_0 rfl (lv_at hl 0 rfl) ?_
  refine lv_iconst (v := 0) hx hb dX6_cue_1 (by decide) ?_
  refine va_put (D := D) (ci := 6) (v := .int 0) (ty := .int) (C := RX6) (T := TX6) (N := 9) hx hb hts iX6_cue_X6 tyX6 tyX6_ok nmX6 hown hk.1 hP hD hS 0 rfl rfl 0 (by decide) (hts _ mX6_cue_f25) (fun _ h9 => h9) rfl (by decide +kernel) rfl rfl (Nat.le_of_ble_eq_true rfl) dX6_cue_2 (fun H locs hP hD hS => ?_)
  have hP : va_P D vwCl [(m0, .inr (6, [.int 0, .int (nI nD), .int (nI nT), .int (nI nC), .ref m1, .ref m2, .ref m3, .ref m4, .ref m5])), (m4, .inl (cI, 96, .inl (fl 4 cu)))] H := hP
  have hD : va_D A [(m0, .inr (6, [.int 0, .int (nI nD), .int (nI nT), .int (nI nC), .ref m1, .ref m2, .ref m3, .ref m4, .ref m5])), (m4, .inl (cI, 96, .inl (fl 4 cu)))] := hD
  refine lv_iload_n hx hb dX6_cue_5 rfl (lv_at hl 1 rfl) ?_
  refine lv_iconst (v := 0) hx hb dX6_cue_6 (by decide) ?_
  refine lv_sipush (v := 999) hx hb dX6_cue_7 (by decide) ?_
  refine frI (wc := []) (wc' := []) (w' := [(m0, .inr (6, [.int 0, .int (nI nD), .int (nI nT), .int (nI nC), .ref m1, .ref m2, .ref m3, .ref m4, .ref m5])), (m4, .inl (cI, 96, .inl (fl 4 cu)))]) hP hD hS hA [] [0, 1] [0, 1] rfl rfl rfl rfl rfl (va_runS (As := [.int ti, .int 0, .int 999]) (rest := []) ⟨hx, hb, hml, hown, hts⟩ (tX6_isIn l D cI ti 0 999  _) (va_cwS 3 hts gX6_cue_X6_isIn rfl rfl rfl hX6_isIn.2 ⟨Nat.le_of_ble_eq_true rfl, Nat.le_of_ble_eq_true rfl⟩) (preS_of hk hP hD [] rfl rfl) rfl rfl hl.1 rfl (lv_room (Nat.le_of_ble_eq_true rfl)) dX6_cue_10 ⟨Nat.le_of_ble_eq_true rfl, Nat.le_of_ble_eq_true rfl⟩) (fun H locs hP hD hS => ?_)
  refine lv_if_eq (tgt := 27) hx hb dX6_cue_13 (by decide) (fun c13 => ?_) (fun c13 => ?_)
  · rw [show kCue nD nC ti kd a b = 1 from by rw [kCue, if_pos c13]]
    refine lv_aload_n hx hb dX6_cue_27 rfl (lv_at hl 0 rfl) ?_
    refine lv_iconst (v := 1) hx hb dX6_cue_28 (by decide) ?_
    refine frI (wc := [(m0, .inr (6, [.int 0, .int (nI nD), .int (nI nT), .int (nI nC), .ref m1, .ref m2, .ref m3, .ref m4, .ref m5]))]) (wc' := [(m0, .inr (6, [.int 1, .int (nI nD), .int (nI nT), .int (nI nC), .ref m1, .ref m2, .ref m3, .ref m4, .ref m5]))]) (w' := [(m0, .inr (6, [.int 1, .int (nI nD), .int (nI nT), .int (nI nC), .ref m1, .ref m2, .ref m3, .ref m4, .ref m5])), (m4, .inl (cI, 96, .inl (fl 4 cu)))]) hP hD hS hA [0] [1] [1, 0] rfl rfl rfl rfl rfl (va_runV (As := [.int 1]) (rest := []) ⟨hx, hb, hml, hown, hts⟩ (tX6_fail l D cI m0 m1 m2 m3 m4 m5 nD nT nC 0 1  _) (cwV 1 hts gX6_cue_X6_fail rfl rfl rfl hX6_fail ⟨Nat.le_of_ble_eq_true rfl, Nat.le_of_ble_eq_true rfl⟩) (preV_of hk hP hD [0] rfl rfl (recvO hk hP (ci := 6) (q0 := 0) rfl rfl)) rfl rfl hl.1 rfl (lv_room (Nat.le_of_ble_eq_true rfl)) dX6_cue_29 ⟨Nat.le_of_ble_eq_true rfl, Nat.le_of_ble_eq_true rfl⟩) (fun H locs hP hD hS => ?_)
    exact retIm hx hb hr hlocks hS hP hD dX6_cue_32 (rfl) rfl (Nat.le_of_ble_eq_true rfl) (Nat.le_of_ble_eq_true rfl)
  · refine lv_aload_n hx hb dX6_cue_16 rfl (lv_at hl 0 rfl) ?_
    refine lv_iload_n hx hb dX6_cue_17 rfl (lv_at hl 2 rfl) ?_
    refine lv_iload_n hx hb dX6_cue_18 rfl (lv_at hl 3 rfl) ?_
    refine lv_iload hx hb dX6_cue_19 (lv_at hl 4 rfl) ?_
    refine frI (wc := [(m0, .inr (6, [.int 0, .int (nI nD), .int (nI nT), .int (nI nC), .ref m1, .ref m2, .ref m3, .ref m4, .ref m5]))]) (wc' := [(m0, .inr (6, [.int 0, .int (nI nD), .int (nI nT), .int (nI nC), .ref m1, .ref m2, .ref m3, .ref m4, .ref m5]))]) (w' := [(m0, .inr (6, [.int 0, .int (nI nD), .int (nI nT), .int (nI nC), .ref m1, .ref m2, .ref m3, .ref m4, .ref m5])), (m4, .inl (cI, 96, .inl (fl 4 cu)))]) hP hD hS hA [0] [1] [1, 0] rfl rfl rfl rfl rfl (va_runV (As := [.int kd, .int a, .int b]) (rest := []) ⟨hx, hb, hml, hown, hts⟩ (tX6_isCue l D cI m0 m1 m2 m3 m4 m5 nD nT nC 0 kd a b (by omega) _) (cwV 3 hts gX6_cue_X6_isCue rfl rfl rfl hX6_isCue ⟨Nat.le_of_ble_eq_true rfl, Nat.le_of_ble_eq_true rfl⟩) (preV_of hk hP hD [0] rfl rfl (recvO hk hP (ci := 6) (q0 := 0) rfl rfl)) rfl rfl hl.1 rfl (lv_room (Nat.le_of_ble_eq_true rfl)) dX6_cue_21 ⟨Nat.le_of_ble_eq_true rfl, Nat.le_of_ble_eq_true rfl⟩) (fun H locs hP hD hS => ?_)
    refine lv_if_ne (tgt := 33) hx hb dX6_cue_24 (by decide) (fun c24 => ?_) (fun c24 => ?_)
    · refine lv_aload_n hx hb dX6_cue_33 rfl (lv_at hl 0 rfl) ?_
      refine va_get (D := D) (ci := 6) (v := .int (nI nC)) (C := RX6) (T := TX6) (N := 9) hx hb hts iX6_cue_X6 hown hk.1 hP 0 rfl rfl 3 (by decide) (hts _ mX6_cue_f64) (fun _ h9 => h9) rfl dX6_cue_34 ?_
      refine lv_bipush (v := 24) hx hb dX6_cue_37 (by decide) ?_
      refine icneN (i := nC) (n := 24) (tgt := 48) hx hb (by omega) (by omega) dX6_cue_39 (by decide) (fun c39 => ?_) (fun c39 => ?_)
      · rw [show kCue nD nC ti kd a b = 0 from by rw [kCue, if_neg c13, if_neg (su_kd c24), if_neg c24, if_neg (by omega)]]
        refine lv_iconst (v := 4) hx hb dX6_cue_48 (by decide) ?_
        refine va_newa (atype := .int) (ty := .int) (N' := 4) (a0 := (4, .inl (fun _ => 0))) hx hb (hts _ mX6_cue_aI) rfl hk.1 hP hD hS hA (fun _ => rfl) (by decide) (by decide) (Nat.le_of_ble_eq_true rfl) (Nat.le_of_ble_eq_true rfl) (Nat.le_of_ble_eq_true rfl) dX6_cue_49 (fun nq1 cA H hKn hP hD hS => ?_)
        obtain rfl : cI = cA := one_cls hKn
        have hP : va_P D vwCl [(m0, .inr (6, [.int 0, .int (nI nD), .int (nI nT), .int (nI nC), .ref m1, .ref m2, .ref m3, .ref m4, .ref m5])), (m4, .inl (cI, 96, .inl (fl 4 cu))), (nq1, .inl (cI, 4, .inl (fun _ => 0)))] H := hP
        have hD : va_D A [(m0, .inr (6, [.int 0, .int (nI nD), .int (nI nT), .int (nI nC), .ref m1, .ref m2, .ref m3, .ref m4, .ref m5])), (m4, .inl (cI, 96, .inl (fl 4 cu))), (nq1, .inl (cI, 4, .inl (fun _ => 0)))] := hD
        refine lv_dup hx hb dX6_cue_51 rfl ?_
        refine lv_iconst (v := 0) hx hb dX6_cue_52 (by decide) ?_
        refine lv_iload_n hx hb dX6_cue_53 rfl (lv_at hl 1 rfl) ?_
        refine astN hx hb hk hP hD hS 2 rfl 0 rfl (by omega) (Nat.le_of_ble_eq_true rfl) dX6_cue_54 (fun H locs hP hD hS => ?_)
        have hP : va_P D vwCl [(m0, .inr (6, [.int 0, .int (nI nD), .int (nI nT), .int (nI nC), .ref m1, .ref m2, .ref m3, .ref m4, .ref m5])), (m4, .inl (cI, 96, .inl (fl 4 cu))), (nq1, .inl (cI, 4, .inl (upd (fun _ => 0) 0 ti)))] H := hP
        have hD : va_D A [(m0, .inr (6, [.int 0, .int (nI nD), .int (nI nT), .int (nI nC), .ref m1, .ref m2, .ref m3, .ref m4, .ref m5])), (m4, .inl (cI, 96, .inl (fl 4 cu))), (nq1, .inl (cI, 4, .inl (upd (fun _ => 0) 0 ti)))] := hD
        refine lv_dup hx hb dX6_cue_55 rfl ?_
        refine lv_iconst (v := 1) hx hb dX6_cue_56 (by decide) ?_
        refine lv_iload_n hx hb dX6_cue_57 rfl (lv_at hl 2 rfl) ?_
        refine astN hx hb hk hP hD hS 2 rfl 1 rfl (by omega) (Nat.le_of_ble_eq_true rfl) dX6_cue_58 (fun H locs hP hD hS => ?_)
        have hP : va_P D vwCl [(m0, .inr (6, [.int 0, .int (nI nD), .int (nI nT), .int (nI nC), .ref m1, .ref m2, .ref m3, .ref m4, .ref m5])), (m4, .inl (cI, 96, .inl (fl 4 cu))), (nq1, .inl (cI, 4, .inl (upd (upd (fun _ => 0) 0 ti) 1 kd)))] H := hP
        have hD : va_D A [(m0, .inr (6, [.int 0, .int (nI nD), .int (nI nT), .int (nI nC), .ref m1, .ref m2, .ref m3, .ref m4, .ref m5])), (m4, .inl (cI, 96, .inl (fl 4 cu))), (nq1, .inl (cI, 4, .inl (upd (upd (fun _ => 0) 0 ti) 1 kd)))] := hD
        refine lv_dup hx hb dX6_cue_59 rfl ?_
        refine lv_iconst (v := 2) hx hb dX6_cue_60 (by decide) ?_
        refine lv_iload_n hx hb dX6_cue_61 rfl (lv_at hl 3 rfl) ?_
        refine astN hx hb hk hP hD hS 2 rfl 2 rfl (by omega) (Nat.le_of_ble_eq_true rfl) dX6_cue_62 (fun H locs hP hD hS => ?_)
        have hP : va_P D vwCl [(m0, .inr (6, [.int 0, .int (nI nD), .int (nI nT), .int (nI nC), .ref m1, .ref m2, .ref m3, .ref m4, .ref m5])), (m4, .inl (cI, 96, .inl (fl 4 cu))), (nq1, .inl (cI, 4, .inl (upd (upd (upd (fun _ => 0) 0 ti) 1 kd) 2 a)))] H := hP
        have hD : va_D A [(m0, .inr (6, [.int 0, .int (nI nD), .int (nI nT), .int (nI nC), .ref m1, .ref m2, .ref m3, .ref m4, .ref m5])), (m4, .inl (cI, 96, .inl (fl 4 cu))), (nq1, .inl (cI, 4, .inl (upd (upd (upd (fun _ => 0) 0 ti) 1 kd) 2 a)))] := hD
        refine lv_dup hx hb dX6_cue_63 rfl ?_
        refine lv_iconst (v := 3) hx hb dX6_cue_64 (by decide) ?_
        refine lv_iload hx hb dX6_cue_65 (lv_at hl 4 rfl) ?_
        refine astN hx hb hk hP hD hS 2 rfl 3 rfl (by omega) (Nat.le_of_ble_eq_true rfl) dX6_cue_67 (fun H locs hP hD hS => ?_)
        have hP : va_P D vwCl [(m0, .inr (6, [.int 0, .int (nI nD), .int (nI nT), .int (nI nC), .ref m1, .ref m2, .ref m3, .ref m4, .ref m5])), (m4, .inl (cI, 96, .inl (fl 4 cu))), (nq1, .inl (cI, 4, .inl (upd (upd (upd (upd (fun _ => 0) 0 ti) 1 kd) 2 a) 3 b)))] H := hP
        have hD : va_D A [(m0, .inr (6, [.int 0, .int (nI nD), .int (nI nT), .int (nI nC), .ref m1, .ref m2, .ref m3, .ref m4, .ref m5])), (m4, .inl (cI, 96, .inl (fl 4 cu))), (nq1, .inl (cI, 4, .inl (upd (upd (upd (upd (fun _ => 0) 0 ti) 1 kd) 2 a) 3 b)))] := hD
        refine lv_astore (lv' := [(5, .ref nq1), (0, .ref m0), (1, .int ti), (2, .int kd), (3, .int a), (4, .int b)]) hx hb dX6_cue_68 hl (by decide) rfl (fun ls hl => ?_)
        refine lv_aload hx hb dX6_cue_70 (lv_at hl 0 rfl) ?_
        refine lv_iconst (v := 0) hx hb dX6_cue_72 (by decide) ?_
        refine lv_aload_n hx hb dX6_cue_73 rfl (lv_at hl 1 rfl) ?_
        refine va_get (D := D) (ci := 6) (v := .ref m4) (C := RX6) (T := TX6) (N := 9) hx hb hts iX6_cue_X6 hown hk.1 hP 0 rfl rfl 7 (by decide) (hts _ mX6_cue_f19) (fun _ h9 => h9) rfl dX6_cue_74 ?_
        refine lv_iconst (v := 4) hx hb dX6_cue_77 (by decide) ?_
        refine lv_aload_n hx hb dX6_cue_78 rfl (lv_at hl 1 rfl) ?_
        refine va_get (D := D) (ci := 6) (v := .int (nI nC)) (C := RX6) (T := TX6) (N := 9) hx hb hts iX6_cue_X6 hown hk.1 hP 0 rfl rfl 3 (by decide) (hts _ mX6_cue_f64) (fun _ h9 => h9) rfl dX6_cue_79 ?_
        refine lv_imul hx hb dX6_cue_82 ?_
        refine top_int (nmulE (a := 4) (b := nC) rfl rfl) ?_
        refine lv_iconst (v := 4) hx hb dX6_cue_83 (by decide) ?_
        refine va_copyi hx hb (hml.trans hl.1.symm) hown (hts _ mX6_cue_lac) (hts _ mX6_cue_nac) (hts _ mX6_cue_sac) (hts _ mX6_cue_iSys) hk.1 hP hD hS 2 1 0 0 rfl rfl rfl rfl rfl (by decide) (nI_pos (by omega)) (by decide) (by decide) (by rw [nI_clamp (by omega)]; show _ + 4 ≤ 96; omega) (fun _ _ => rfl) (Nat.le_of_ble_eq_true rfl) (Nat.le_of_ble_eq_true rfl) dX6_cue_84 (fun H locs hP hD hS => ?_)
        rw [cpy_cue (n := nC) (g := cu) (a := ti) (b := kd) (c := a) (e := b) (f := upd (upd (upd (upd (fun _ => 0) 0 ti) 1 kd) 2 a) 3 b) hC rfl rfl rfl rfl] at hP hD
        have hP : va_P D vwCl [(m0, .inr (6, [.int 0, .int (nI nD), .int (nI nT), .int (nI nC), .ref m1, .ref m2, .ref m3, .ref m4, .ref m5])), (m4, .inl (cI, 96, .inl (fl 4 (uAdd cu nC ti kd a b)))), (nq1, .inl (cI, 4, .inl (upd (upd (upd (upd (fun _ => 0) 0 ti) 1 kd) 2 a) 3 b)))] H := hP
        have hD : va_D A [(m0, .inr (6, [.int 0, .int (nI nD), .int (nI nT), .int (nI nC), .ref m1, .ref m2, .ref m3, .ref m4, .ref m5])), (m4, .inl (cI, 96, .inl (fl 4 (uAdd cu nC ti kd a b)))), (nq1, .inl (cI, 4, .inl (upd (upd (upd (upd (fun _ => 0) 0 ti) 1 kd) 2 a) 3 b)))] := hD
        refine lv_aload_n hx hb dX6_cue_87 rfl (lv_at hl 1 rfl) ?_
        refine lv_dup hx hb dX6_cue_88 rfl ?_
        refine va_get (D := D) (ci := 6) (v := .int (nI nC)) (C := RX6) (T := TX6) (N := 9) hx hb hts iX6_cue_X6 hown hk.1 hP 0 rfl rfl 3 (by decide) (hts _ mX6_cue_f64) (fun _ h9 => h9) rfl dX6_cue_89 ?_
        refine lv_iconst (v := 1) hx hb dX6_cue_92 (by decide) ?_
        refine lv_iadd hx hb dX6_cue_93 ?_
        refine top_int (naddE (a := nC) (b := 1) rfl rfl) ?_
        refine va_put (D := D) (ci := 6) (v := .int (nI (nC + 1))) (ty := .int) (C := RX6) (T := TX6) (N := 9) hx hb hts iX6_cue_X6 tyX6 tyX6_ok nmX6 hown hk.1 hP hD hS 0 rfl rfl 3 (by decide) (hts _ mX6_cue_f64) (fun _ h9 => h9) rfl (by decide +kernel) rfl rfl (Nat.le_of_ble_eq_true rfl) dX6_cue_94 (fun H locs hP hD hS => ?_)
        have hP : va_P D vwCl [(m0, .inr (6, [.int 0, .int (nI nD), .int (nI nT), .int (nI (nC + 1)), .ref m1, .ref m2, .ref m3, .ref m4, .ref m5])), (m4, .inl (cI, 96, .inl (fl 4 (uAdd cu nC ti kd a b)))), (nq1, .inl (cI, 4, .inl (upd (upd (upd (upd (fun _ => 0) 0 ti) 1 kd) 2 a) 3 b)))] H := hP
        have hD : va_D A [(m0, .inr (6, [.int 0, .int (nI nD), .int (nI nT), .int (nI (nC + 1)), .ref m1, .ref m2, .ref m3, .ref m4, .ref m5])), (m4, .inl (cI, 96, .inl (fl 4 (uAdd cu nC ti kd a b)))), (nq1, .inl (cI, 4, .inl (upd (upd (upd (upd (fun _ => 0) 0 ti) 1 kd) 2 a) 3 b)))] := hD
        refine lv_aload_n hx hb dX6_cue_97 rfl (lv_at hl 1 rfl) ?_
        refine va_get (D := D) (ci := 6) (v := .int (nI (nC + 1))) (C := RX6) (T := TX6) (N := 9) hx hb hts iX6_cue_X6 hown hk.1 hP 0 rfl rfl 3 (by decide) (hts _ mX6_cue_f64) (fun _ h9 => h9) rfl dX6_cue_98 ?_
        refine lv_iconst (v := 1) hx hb dX6_cue_101 (by decide) ?_
        refine lv_isub hx hb dX6_cue_102 ?_
        refine top_int (show nI (nC + 1) - 1 = nI nC from nI_pred nC) ?_
        have hP := hP.sub (ws' := [(m0, .inr (6, [.int 0, .int (nI nD), .int (nI nT), .int (nI (nC + 1)), .ref m1, .ref m2, .ref m3, .ref m4, .ref m5])), (m4, .inl (cI, 96, .inl (fl 4 (uAdd cu nC ti kd a b))))]) [0, 1] rfl
        have hD := hD.sub (ws' := [(m0, .inr (6, [.int 0, .int (nI nD), .int (nI nT), .int (nI (nC + 1)), .ref m1, .ref m2, .ref m3, .ref m4, .ref m5])), (m4, .inl (cI, 96, .inl (fl 4 (uAdd cu nC ti kd a b))))]) [0, 1] (by decide) rfl
        exact retIm hx hb hr hlocks hS hP hD dX6_cue_103 (rfl) rfl (Nat.le_of_ble_eq_true rfl) (Nat.le_of_ble_eq_true rfl)
      · rw [show kCue nD nC ti kd a b = 2 from by rw [kCue, if_neg c13, if_neg (su_kd c24), if_neg c24, if_pos (by omega)]]
        refine lv_aload_n hx hb dX6_cue_42 rfl (lv_at hl 0 rfl) ?_
        refine lv_iconst (v := 2) hx hb dX6_cue_43 (by decide) ?_
        refine frI (wc := [(m0, .inr (6, [.int 0, .int (nI nD), .int (nI nT), .int (nI nC), .ref m1, .ref m2, .ref m3, .ref m4, .ref m5]))]) (wc' := [(m0, .inr (6, [.int 2, .int (nI nD), .int (nI nT), .int (nI nC), .ref m1, .ref m2, .ref m3, .ref m4, .ref m5]))]) (w' := [(m0, .inr (6, [.int 2, .int (nI nD), .int (nI nT), .int (nI nC), .ref m1, .ref m2, .ref m3, .ref m4, .ref m5])), (m4, .inl (cI, 96, .inl (fl 4 cu)))]) hP hD hS hA [0] [1] [1, 0] rfl rfl rfl rfl rfl (va_runV (As := [.int 2]) (rest := []) ⟨hx, hb, hml, hown, hts⟩ (tX6_fail l D cI m0 m1 m2 m3 m4 m5 nD nT nC 0 2  _) (cwV 1 hts gX6_cue_X6_fail rfl rfl rfl hX6_fail ⟨Nat.le_of_ble_eq_true rfl, Nat.le_of_ble_eq_true rfl⟩) (preV_of hk hP hD [0] rfl rfl (recvO hk hP (ci := 6) (q0 := 0) rfl rfl)) rfl rfl hl.1 rfl (lv_room (Nat.le_of_ble_eq_true rfl)) dX6_cue_44 ⟨Nat.le_of_ble_eq_true rfl, Nat.le_of_ble_eq_true rfl⟩) (fun H locs hP hD hS => ?_)
        exact retIm hx hb hr hlocks hS hP hD dX6_cue_47 (rfl) rfl (Nat.le_of_ble_eq_true rfl) (Nat.le_of_ble_eq_true rfl)
    · rw [show kCue nD nC ti kd a b = 1 from by unfold kCue; rw [if_neg c13, if_pos c24]; split <;> rfl]
      refine lv_aload_n hx hb dX6_cue_27 rfl (lv_at hl 0 rfl) ?_
      refine lv_iconst (v := 1) hx hb dX6_cue_28 (by decide) ?_
      refine frI (wc := [(m0, .inr (6, [.int 0, .int (nI nD), .int (nI nT), .int (nI nC), .ref m1, .ref m2, .ref m3, .ref m4, .ref m5]))]) (wc' := [(m0, .inr (6, [.int 1, .int (nI nD), .int (nI nT), .int (nI nC), .ref m1, .ref m2, .ref m3, .ref m4, .ref m5]))]) (w' := [(m0, .inr (6, [.int 1, .int (nI nD), .int (nI nT), .int (nI nC), .ref m1, .ref m2, .ref m3, .ref m4, .ref m5])), (m4, .inl (cI, 96, .inl (fl 4 cu)))]) hP hD hS hA [0] [1] [1, 0] rfl rfl rfl rfl rfl (va_runV (As := [.int 1]) (rest := []) ⟨hx, hb, hml, hown, hts⟩ (tX6_fail l D cI m0 m1 m2 m3 m4 m5 nD nT nC 0 1  _) (cwV 1 hts gX6_cue_X6_fail rfl rfl rfl hX6_fail ⟨Nat.le_of_ble_eq_true rfl, Nat.le_of_ble_eq_true rfl⟩) (preV_of hk hP hD [0] rfl rfl (recvO hk hP (ci := 6) (q0 := 0) rfl rfl)) rfl rfl hl.1 rfl (lv_room (Nat.le_of_ble_eq_true rfl)) dX6_cue_29 ⟨Nat.le_of_ble_eq_true rfl, Nat.le_of_ble_eq_true rfl⟩) (fun H locs hP hD hS => ?_)
      exact retIm hx hb hr hlocks hS hP hD dX6_cue_32 (rfl) rfl (Nat.le_of_ble_eq_true rfl) (Nat.le_of_ble_eq_true rfl)
