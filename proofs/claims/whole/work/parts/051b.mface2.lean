theorem jN_0 (f : Nat → Int32) (d : Int64) : jN f 0 d = d := rfl
theorem jM_0 (f : Nat → Nat → Int32) (m : Nat) (d : Int64) : jM f m 0 d = d := rfl

theorem mX6_count_f25 : (.fieldLink RX6 25 "StarConsoleModel" "thrown" "I" : Cond) ∈ wsX6_count := by decide +kernel
theorem iX6_count_X6 : ∀ w ∈ wsX60, w ∈ wsX6_count := by decide +kernel

theorem hX6_count : yX6_count.cls = RX6 ∧ yX6_count.cls ≠ "java/lang/invoke/MethodHandle" ∧ yX6_count.cls ≠ "java/lang/invoke/VarHandle" ∧ (parseMethodDescriptor yX6_count.desc).map (fun d => d.parameters.length) = some 1 := by decide +kernel
set_option maxHeartbeats 4000000 in
set_option maxRecDepth 100000 in
theorem tX6_count (l : Launch) (D : va_G) (cI : ClassId) (m0 m1 m2 m3 m4 m5 nD nT nC : Nat) (th : Int32) (st : Mx) (S : SH) (x : Int32) (hn : nD ≤ 8) (hT : nT ≤ 20) (ht : tOK nT st) (hO : SOK nD S) : CI l yX6_count wsX6_count ({ frames := 5, cells := 0, slots := 0, locals := 113 } : Room) D cI ([.ref m0, .int x] : List Value) [(m0, .inr (6, [.int th, .int (nI nD), .int (nI nT), .int (nI nC), .ref m1, .ref m2, .ref m3, .ref m4, .ref m5])), (m1, .inl (cI, 40, .inl (fl 5 S.2.1))), (m2, .inl (cI, 40, .inl (fl 2 st))), (m3, .inl (cI, 36, .inl (fl 3 S.2.2.2))), (m5, .inl (cI, 8, .inl (numA S.1 S.2.2.1)))] (sel (kCount x) (fcN nD nT nC st S x) 0) [(m0, .inr (6, [.int (kCount x), .int (nI nD), .int (nI nT), .int (nI nC), .ref m1, .ref m2, .ref m3, .ref m4, .ref m5])), (m1, .inl (cI, 40, .inl (fl 5 S.2.1))), (m2, .inl (cI, 40, .inl (fl 2 st))), (m3, .inl (cI, 36, .inl (fl 3 S.2.2.2))), (m5, .inl (cI, 8, .inl (numA S.1 S.2.2.1)))] := by
  refine entI (cc := cX6_count) (maxL := 2) (ret := (some .int)) (by decide) rfl (Nat.le_of_ble_eq_true rfl) (fun p e s m below meth c A ls fx hl => ?_)
  have fx0 := fx
  obtain ⟨hx, hb, hr, hml, hown, hts, hlocks, hk, hP, hD, hA⟩ := fx
  have hown : s.vm.findClass RX6 = some m.cls := hown
  have hS : va_S A s.heap s.heap [] := va_S.rf
  have hP : va_P D vwCl [(m0, .inr (6, [.int th, .int (nI nD), .int (nI nT), .int (nI nC), .ref m1, .ref m2, .ref m3, .ref m4, .ref m5])), (m1, .inl (cI, 40, .inl (fl 5 S.2.1))), (m2, .inl (cI, 40, .inl (fl 2 st))), (m3, .inl (cI, 36, .inl (fl 3 S.2.2.2))), (m5, .inl (cI, 8, .inl (numA S.1 S.2.2.1)))] s.heap := hP
  have hD : va_D A [(m0, .inr (6, [.int th, .int (nI nD), .int (nI nT), .int (nI nC), .ref m1, .ref m2, .ref m3, .ref m4, .ref m5])), (m1, .inl (cI, 40, .inl (fl 5 S.2.1))), (m2, .inl (cI, 40, .inl (fl 2 st))), (m3, .inl (cI, 36, .inl (fl 3 S.2.2.2))), (m5, .inl (cI, 8, .inl (numA S.1 S.2.2.1)))] := hD
  have hl : lv_has ls 2 [(0, .ref m0), (1, .int x)] := hl
  refine lv_aload_n hx hb dX6_count_0 rfl (lv_at hl 0 rfl) ?_
  refine lv_iconst (v := 0) hx hb dX6_count_1 (by decide) ?_
  refine va_put (D := D) (ci := 6) (v := .int 0) (ty := .int) (C := RX6) (T := TX6) (N := 9) hx hb hts iX6_count_X6 tyX6 tyX6_ok nmX6 hown hk.1 hP hD hS 0 rfl rfl 0 (by decide) (hts _ mX6_count_f25) (fun _ h9 => h9) rfl (by decide +kernel) rfl rfl (Nat.le_of_ble_eq_true rfl) dX6_count_2 (fun H locs hP hD hS => ?_)
  have hP : va_P D vwCl [(m0, .inr (6, [.int 0, .int (nI nD), .int (nI nT), .int (nI nC), .ref m1, .ref m2, .ref m3, .ref m4, .ref m5])), (m1, .inl (cI, 40, .inl (fl 5 S.2.1))), (m2, .inl (cI, 40, .inl (fl 2 st))), (m3, .inl (cI, 36, .inl (fl 3 S.2.2.2))), (m5, .inl (cI, 8, .inl (numA S.1 S.2.2.1)))] H := hP
  have hD : va_D A [(m0, .inr (6, [.int 0, .int (nI nD), .int (nI nT), .int (nI nC), .ref m1, .ref m2, .ref m3, .ref m4, .ref m5])), (m1, .inl (cI, 40, .inl (fl 5 S.2.1))), (m2, .inl (cI, 40, .inl (fl 2 st))), (m3, .inl (cI, 36, .inl (fl 3 S.2.2.2))), (m5, .inl (cI, 8, .inl (numA S.1 S.2.2.1)))] := hD
  refine lv_iload_n hx hb dX6_count_5 rfl (lv_at hl 1 rfl) ?_
  refine lv_iconst (v := 0) hx hb dX6_count_6 (by decide) ?_
  refine lv_bipush (v := 12) hx hb dX6_count_7 (by decide) ?_
  refine frI (wc := []) (wc' := []) (w' := [(m0, .inr (6, [.int 0, .int (nI nD), .int (nI nT), .int (nI nC), .ref m1, .ref m2, .ref m3, .ref m4, .ref m5])), (m1, .inl (cI, 40, .inl (fl 5 S.2.1))), (m2, .inl (cI, 40, .inl (fl 2 st))), (m3, .inl (cI, 36, .inl (fl 3 S.2.2.2))), (m5, .inl (cI, 8, .inl (numA S.1 S.2.2.1)))]) hP hD hS hA [] [0, 1, 2, 3, 4] [0, 1, 2, 3, 4] rfl rfl rfl rfl rfl (va_runS (As := [.int x, .int 0, .int 12]) (rest := []) ⟨hx, hb, hml, hown, hts⟩ (tX6_isIn l D cI x 0 12  _) (va_cwS 3 hts gX6_count_X6_isIn rfl rfl rfl hX6_isIn.2 ⟨Nat.le_of_ble_eq_true rfl, Nat.le_of_ble_eq_true rfl⟩) (preS_of hk hP hD [] rfl rfl) rfl rfl hl.1 rfl (lv_room (Nat.le_of_ble_eq_true rfl)) dX6_count_9 ⟨Nat.le_of_ble_eq_true rfl, Nat.le_of_ble_eq_true rfl⟩) (fun H locs hP hD hS => ?_)
  refine lv_if_eq (tgt := 23) hx hb dX6_count_12 (by decide) (fun c12 => ?_) (fun c12 => ?_)
  · rw [show kCount x = 1 from by rw [kCount, if_pos c12]]
    refine lv_aload_n hx hb dX6_count_23 rfl (lv_at hl 0 rfl) ?_
    refine lv_iconst (v := 1) hx hb dX6_count_24 (by decide) ?_
    refine frI (wc := [(m0, .inr (6, [.int 0, .int (nI nD), .int (nI nT), .int (nI nC), .ref m1, .ref m2, .ref m3, .ref m4, .ref m5]))]) (wc' := [(m0, .inr (6, [.int 1, .int (nI nD), .int (nI nT), .int (nI nC), .ref m1, .ref m2, .ref m3, .ref m4, .ref m5]))]) (w' := [(m0, .inr (6, [.int 1, .int (nI nD), .int (nI nT), .int (nI nC), .ref m1, .ref m2, .ref m3, .ref m4, .ref m5])), (m1, .inl (cI, 40, .inl (fl 5 S.2.1))), (m2, .inl (cI, 40, .inl (fl 2 st))), (m3, .inl (cI, 36, .inl (fl 3 S.2.2.2))), (m5, .inl (cI, 8, .inl (numA S.1 S.2.2.1)))]) hP hD hS hA [0] [1, 2, 3, 4] [4, 0, 1, 2, 3] rfl rfl rfl rfl rfl (va_runV (As := [.int 1]) (rest := []) ⟨hx, hb, hml, hown, hts⟩ (tX6_fail l D cI m0 m1 m2 m3 m4 m5 nD nT nC 0 1  _) (cwV 1 hts gX6_count_X6_fail rfl rfl rfl hX6_fail ⟨Nat.le_of_ble_eq_true rfl, Nat.le_of_ble_eq_true rfl⟩) (preV_of hk hP hD [0] rfl rfl (recvO hk hP (ci := 6) (q0 := 0) rfl rfl)) rfl rfl hl.1 rfl (lv_room (Nat.le_of_ble_eq_true rfl)) dX6_count_25 ⟨Nat.le_of_ble_eq_true rfl, Nat.le_of_ble_eq_true rfl⟩) (fun H locs hP hD hS => ?_)
    exact retI hx hb hr hlocks hS hP hD dX6_count_28 (rfl) rfl
  · obtain ⟨v, hv, rfl⟩ := wi_n (n := 12) c12 (by decide) (by decide)
    rw [show kCount (nI v) = 0 from by rw [kCount, if_neg c12]]
    refine lv_aload_n hx hb dX6_count_15 rfl (lv_at hl 0 rfl) ?_
    refine lv_iload_n hx hb dX6_count_16 rfl (lv_at hl 1 rfl) ?_
    refine frI (wc := [(m0, .inr (6, [.int 0, .int (nI nD), .int (nI nT), .int (nI nC), .ref m1, .ref m2, .ref m3, .ref m4, .ref m5])), (m1, .inl (cI, 40, .inl (fl 5 S.2.1))), (m2, .inl (cI, 40, .inl (fl 2 st))), (m3, .inl (cI, 36, .inl (fl 3 S.2.2.2))), (m5, .inl (cI, 8, .inl (numA S.1 S.2.2.1)))]) (wc' := [(m0, .inr (6, [.int 0, .int (nI nD), .int (nI nT), .int (nI nC), .ref m1, .ref m2, .ref m3, .ref m4, .ref m5])), (m1, .inl (cI, 40, .inl (fl 5 S.2.1))), (m2, .inl (cI, 40, .inl (fl 2 st))), (m3, .inl (cI, 36, .inl (fl 3 S.2.2.2))), (m5, .inl (cI, 8, .inl (numA S.1 S.2.2.1)))]) (w' := [(m0, .inr (6, [.int 0, .int (nI nD), .int (nI nT), .int (nI nC), .ref m1, .ref m2, .ref m3, .ref m4, .ref m5])), (m1, .inl (cI, 40, .inl (fl 5 S.2.1))), (m2, .inl (cI, 40, .inl (fl 2 st))), (m3, .inl (cI, 36, .inl (fl 3 S.2.2.2))), (m5, .inl (cI, 8, .inl (numA S.1 S.2.2.1)))]) hP hD hS hA [0, 1, 2, 3, 4] [] [0, 1, 2, 3, 4] rfl rfl rfl rfl rfl (va_runV (As := [.int (nI v)]) (rest := []) ⟨hx, hb, hml, hown, hts⟩ (tX6_counted l D cI m0 m1 m2 m3 m4 m5 nD nT nC 0 st S v hn hT ht hO (by omega) _) (cwV 1 hts gX6_count_X6_counted rfl rfl rfl hX6_counted ⟨Nat.le_of_ble_eq_true rfl, Nat.le_of_ble_eq_true rfl⟩) (preV_of hk hP hD [0, 1, 2, 3, 4] rfl rfl (recvO hk hP (ci := 6) (q0 := 0) rfl rfl)) rfl rfl hl.1 rfl (lv_room (Nat.le_of_ble_eq_true rfl)) dX6_count_17 ⟨Nat.le_of_ble_eq_true rfl, Nat.le_of_ble_eq_true rfl⟩) (fun H locs hP hD hS => ?_)
    refine lv_goto (tgt := 28) hx hb dX6_count_20 (by decide) ?_
    exact retI hx hb hr hlocks hS hP hD dX6_count_28 (rfl) rfl

theorem mX6_next_f25 : (.fieldLink RX6 25 "StarConsoleModel" "thrown" "I" : Cond) ∈ wsX6_next := by decide +kernel
theorem iX6_next_X6 : ∀ w ∈ wsX60, w ∈ wsX6_next := by decide +kernel
theorem mX6_next_f64 : (.fieldLink RX6 64 "StarConsoleModel" "cues" "I" : Cond) ∈ wsX6_next := by decide +kernel
theorem mX6_next_f19 : (.fieldLink RX6 19 "StarConsoleModel" "show" "[I" : Cond) ∈ wsX6_next := by decide +kernel
theorem mX6_next_f22 : (.fieldLink RX6 22 "StarConsoleModel" "numbers" "[I" : Cond) ∈ wsX6_next := by decide +kernel

theorem hX6_next : yX6_next.cls = RX6 ∧ yX6_next.cls ≠ "java/lang/invoke/MethodHandle" ∧ yX6_next.cls ≠ "java/lang/invoke/VarHandle" ∧ (parseMethodDescriptor yX6_next.desc).map (fun d => d.parameters.length) = some 0 := by decide +kernel
set_option maxHeartbeats 4000000 in
set_option maxRecDepth 100000 in
theorem tX6_next (l : Launch) (D : va_G) (cI : ClassId) (m0 m1 m2 m3 m4 m5 nD nT nC : Nat) (th : Int32) (cu : Mx) (nu : Nat → Int32) (nK : Nat) (hC : nC ≤ 24) : CI l yX6_next wsX6_next ({ frames := 0, cells := 0, slots := 0, locals := 0 } : Room) D cI ([.ref m0] : List Value) [(m0, .inr (6, [.int th, .int (nI nD), .int (nI nT), .int (nI nC), .ref m1, .ref m2, .ref m3, .ref m4, .ref m5])), (m4, .inl (cI, 96, .inl (fl 4 cu))), (m5, .inl (cI, 8, .inl (numA nu nK)))] (fbI (fbS (cu 0) (nu 1) nC)) [(m0, .inr (6, [.int 0, .int (nI nD), .int (nI nT), .int (nI nC), .ref m1, .ref m2, .ref m3, .ref m4, .ref m5])), (m4, .inl (cI, 96, .inl (fl 4 cu))), (m5, .inl (cI, 8, .inl (numA nu nK)))] := by
  refine entI (cc := cX6_next) (maxL := 3) (ret := (some .int)) (by decide) rfl (Nat.le_of_ble_eq_true rfl) (fun p e s m below meth c A ls fx hl => ?_)
  have fx0 := fx
  obtain ⟨hx, hb, hr, hml, hown, hts, hlocks, hk, hP, hD, hA⟩ := fx
  have hown : s.vm.findClass RX6 = some m.cls := hown
  have hS : va_S A s.heap s.heap [] := va_S.rf
  have hP : va_P D vwCl [(m0, .inr (6, [.int th, .int (nI nD), .int (nI nT), .int (nI nC), .ref m1, .ref m2, .ref m3, .ref m4, .ref m5])), (m4, .inl (cI, 96, .inl (fl 4 cu))), (m5, .inl (cI, 8, .inl (numA nu nK)))] s.heap := hP
  have hD : va_D A [(m0, .inr (6, [.int th, .int (nI nD), .int (nI nT), .int (nI nC), .ref m1, .ref m2, .ref m3, .ref m4, .ref m5])), (m4, .inl (cI, 96, .inl (fl 4 cu))), (m5, .inl (cI, 8, .inl (numA nu nK)))] := hD
  have hl : lv_has ls 3 [(0, .ref m0)] := hl
  refine lv_aload_n hx hb dX6_next_0 rfl (lv_at hl 0 rfl) ?_
  refine lv_iconst (v := 0) hx hb dX6_next_1 (by decide) ?_
  refine va_put (D := D) (ci := 6) (v := .int 0) (ty := .int) (C := RX6) (T := TX6) (N := 9) hx hb hts iX6_next_X6 tyX6 tyX6_ok nmX6 hown hk.1 hP hD hS 0 rfl rfl 0 (by decide) (hts _ mX6_next_f25) (fun _ h9 => h9) rfl (by decide +kernel) rfl rfl (Nat.le_of_ble_eq_true rfl) dX6_next_2 (fun H locs hP hD hS => ?_)
  have hP : va_P D vwCl [(m0, .inr (6, [.int 0, .int (nI nD), .int (nI nT), .int (nI nC), .ref m1, .ref m2, .ref m3, .ref m4, .ref m5])), (m4, .inl (cI, 96, .inl (fl 4 cu))), (m5, .inl (cI, 8, .inl (numA nu nK)))] H := hP
  have hD : va_D A [(m0, .inr (6, [.int 0, .int (nI nD), .int (nI nT), .int (nI nC), .ref m1, .ref m2, .ref m3, .ref m4, .ref m5])), (m4, .inl (cI, 96, .inl (fl 4 cu))), (m5, .inl (cI, 8, .inl (numA nu nK)))] := hD
  refine lv_iconst (v := (-1)) hx hb dX6_next_5 (by decide) ?_
  refine lv_istore_n (lv' := [(1, .int (-1)), (0, .ref m0)]) hx hb dX6_next_6 rfl hl (by decide) rfl (fun ls hl => ?_)
  refine lv_iconst (v := 0) hx hb dX6_next_7 (by decide) ?_
  refine lv_istore_n (lv' := [(2, .int 0), (1, .int (-1)), (0, .ref m0)]) hx hb dX6_next_8 rfl hl (by decide) rfl (fun ls hl => ?_)
  have key9 : ∀ (ku9 : Nat) (i : Nat), i ≤ nC → nC - i < ku9 → ∀ (H : Heap) (locs : List Loc), va_P D vwCl [(m0, .inr (6, [.int 0, .int (nI nD), .int (nI nT), .int (nI nC), .ref m1, .ref m2, .ref m3, .ref m4, .ref m5])), (m4, .inl (cI, 96, .inl (fl 4 cu))), (m5, .inl (cI, 8, .inl (numA nu nK)))] H → va_D A [(m0, .inr (6, [.int 0, .int (nI nD), .int (nI nT), .int (nI nC), .ref m1, .ref m2, .ref m3, .ref m4, .ref m5])), (m4, .inl (cI, 96, .inl (fl 4 cu))), (m5, .inl (cI, 8, .inl (numA nu nK)))] → va_S A s.heap H locs → ∀ ls : Array Slot, lv_has ls 3 [(2, .int (nI i)), (1, .int (fbI (fbS (cu 0) (nu 1) i))), (0, .ref m0)] → W p l e ({ frames := 0, cells := 0, slots := 0, locals := 0 } : Room) s m ([.ref m0] : List Value).toArray below meth c H locs 0 0 (MQ below (poI D A [(m0, .inr (6, [.int 0, .int (nI nD), .int (nI nT), .int (nI nC), .ref m1, .ref m2, .ref m3, .ref m4, .ref m5])), (m4, .inl (cI, 96, .inl (fl 4 cu))), (m5, .inl (cI, 8, .inl (numA nu nK)))] (fbI (fbS (cu 0) (nu 1) nC))) ([.ref m0] : List Value).toArray s 0 0 A) (F0 m 9 ls []) := by
    intro ku9
    induction ku9 with
    | zero => intro i; intros; omega
    | succ ku9 ih9 =>
      intro i  hi9 hm9  H locs hP hD hS ls hl
      refine lv_iload_n hx hb dX6_next_9 rfl (lv_at hl 0 rfl) ?_
      refine lv_aload_n hx hb dX6_next_10 rfl (lv_at hl 2 rfl) ?_
      refine va_get (D := D) (ci := 6) (v := .int (nI nC)) (C := RX6) (T := TX6) (N := 9) hx hb hts iX6_next_X6 hown hk.1 hP 0 rfl rfl 3 (by decide) (hts _ mX6_next_f64) (fun _ h9 => h9) rfl dX6_next_11 ?_
      refine icgeN (i := i) (n := nC) (tgt := 72) hx hb (by omega) (by omega) dX6_next_14 (by decide) (fun c14 => ?_) (fun c14 => ?_)
      · obtain rfl : nC = i := by omega
        refine lv_iload_n hx hb dX6_next_72 rfl (lv_at hl 1 rfl) ?_
        exact retI hx hb hr hlocks hS hP hD dX6_next_73 (rfl) rfl
      · refine lv_aload_n hx hb dX6_next_17 rfl (lv_at hl 2 rfl) ?_
        refine va_get (D := D) (ci := 6) (v := .ref m4) (C := RX6) (T := TX6) (N := 9) hx hb hts iX6_next_X6 hown hk.1 hP 0 rfl rfl 7 (by decide) (hts _ mX6_next_f19) (fun _ h9 => h9) rfl dX6_next_18 ?_
        refine lv_iconst (v := 4) hx hb dX6_next_21 (by decide) ?_
        refine lv_iload_n hx hb dX6_next_22 rfl (lv_at hl 0 rfl) ?_
        refine lv_imul hx hb dX6_next_23 ?_
        refine top_int (nmulE (a := 4) (b := i) rfl rfl) ?_
        refine lv_iconst (v := 0) hx hb dX6_next_24 (by decide) ?_
        refine lv_iadd hx hb dX6_next_25 ?_
        refine top_int (naddE (a := 4 * i) (b := 0) rfl rfl) ?_
        refine aldN hx hb hk hP 1 rfl ((4 * i) + 0) rfl (by omega) (Nat.le_of_ble_eq_true rfl) dX6_next_26 ?_
        refine top_int (fl_r (d := i) (w := 0) (by omega)) ?_
        refine lv_aload_n hx hb dX6_next_27 rfl (lv_at hl 2 rfl) ?_
        refine va_get (D := D) (ci := 6) (v := .ref m5) (C := RX6) (T := TX6) (N := 9) hx hb hts iX6_next_X6 hown hk.1 hP 0 rfl rfl 8 (by decide) (hts _ mX6_next_f22) (fun _ h9 => h9) rfl dX6_next_28 ?_
        refine lv_iconst (v := 1) hx hb dX6_next_31 (by decide) ?_
        refine aldN hx hb hk hP 2 rfl 1 rfl (by omega) (Nat.le_of_ble_eq_true rfl) dX6_next_32 ?_
        refine top_int (show _ = (nu 1 : Int32) from rfl) ?_
        refine lv_icmp_lt (tgt := 66) hx hb dX6_next_33 (by decide) (fun c33 => ?_) (fun c33 => ?_)
        · refine lv_iinc (v := nI (i + 1)) (lv' := [(2, .int (nI (i + 1))), (1, .int (fbI (fbS (cu 0) (nu 1) i))), (0, .ref m0)]) hx hb dX6_next_66 hl (k := 0) rfl (nI_inc i) (by decide) rfl (fun ls hl => ?_)
          refine lv_goto (tgt := 9) hx hb dX6_next_69 (by decide) ?_
          have ihx := ih9 (i + 1)  (by omega) (by omega)
          rw [show fbS (cu 0) (nu 1) (i + 1) = fbS (cu 0) (nu 1) i from by rw [fbS, if_pos c33]] at ihx
          exact ihx _ _ hP hD hS _ (lv_sub hl [0, 1, 2] rfl)
        · rcases hz : fbS (cu 0) (nu 1) i with _ | j
          · have hl : lv_has ls 3 [(2, .int (nI i)), (1, .int (-1)), (0, .ref m0)] := by rw [hz] at hl; exact hl
            refine lv_iload_n hx hb dX6_next_36 rfl (lv_at hl 1 rfl) ?_
            refine lv_iconst (v := (-1)) hx hb dX6_next_37 (by decide) ?_
            refine lv_icmp_eq (tgt := 64) hx hb dX6_next_38 (by decide) (fun _ => ?_) (fun h => absurd h (by decide))
            refine lv_iload_n hx hb dX6_next_64 rfl (lv_at hl 0 rfl) ?_
            refine lv_istore_n (lv' := [(1, .int (nI i)), (2, .int (nI i)), (0, .ref m0)]) hx hb dX6_next_65 rfl hl (by decide) rfl (fun ls hl => ?_)
            refine lv_iinc (v := nI (i + 1)) (lv' := [(2, .int (nI (i + 1))), (1, .int (nI i)), (0, .ref m0)]) hx hb dX6_next_66 hl (k := 1) rfl (nI_inc i) (by decide) rfl (fun ls hl => ?_)
            refine lv_goto (tgt := 9) hx hb dX6_next_69 (by decide) ?_
            have ihx := ih9 (i + 1)  (by omega) (by omega)
            rw [show fbS (cu 0) (nu 1) (i + 1) = i + 1 from by rw [fbS, if_neg c33, if_pos hz]] at ihx
            exact ihx _ _ hP hD hS _ (lv_sub hl [0, 1, 2] rfl)
          · have hl : lv_has ls 3 [(2, .int (nI i)), (1, .int (nI j)), (0, .ref m0)] := by rw [hz] at hl; exact hl
            have hj := fb_le (cu 0) (nu 1) i
            refine lv_iload_n hx hb dX6_next_36 rfl (lv_at hl 1 rfl) ?_
            refine lv_iconst (v := (-1)) hx hb dX6_next_37 (by decide) ?_
            refine lv_icmp_eq (tgt := 64) hx hb dX6_next_38 (by decide) (fun h => absurd h (nI_nm1 (by omega))) (fun _ => ?_)
            refine lv_aload_n hx hb dX6_next_41 rfl (lv_at hl 2 rfl) ?_
            refine va_get (D := D) (ci := 6) (v := .ref m4) (C := RX6) (T := TX6) (N := 9) hx hb hts iX6_next_X6 hown hk.1 hP 0 rfl rfl 7 (by decide) (hts _ mX6_next_f19) (fun _ h9 => h9) rfl dX6_next_42 ?_
            refine lv_iconst (v := 4) hx hb dX6_next_45 (by decide) ?_
            refine lv_iload_n hx hb dX6_next_46 rfl (lv_at hl 0 rfl) ?_
            refine lv_imul hx hb dX6_next_47 ?_
            refine top_int (nmulE (a := 4) (b := i) rfl rfl) ?_
            refine lv_iconst (v := 0) hx hb dX6_next_48 (by decide) ?_
            refine lv_iadd hx hb dX6_next_49 ?_
            refine top_int (naddE (a := 4 * i) (b := 0) rfl rfl) ?_
            refine aldN hx hb hk hP 1 rfl ((4 * i) + 0) rfl (by omega) (Nat.le_of_ble_eq_true rfl) dX6_next_50 ?_
            refine top_int (fl_r (d := i) (w := 0) (by omega)) ?_
            refine lv_aload_n hx hb dX6_next_51 rfl (lv_at hl 2 rfl) ?_
            refine va_get (D := D) (ci := 6) (v := .ref m4) (C := RX6) (T := TX6) (N := 9) hx hb hts iX6_next_X6 hown hk.1 hP 0 rfl rfl 7 (by decide) (hts _ mX6_next_f19) (fun _ h9 => h9) rfl dX6_next_52 ?_
            refine lv_iconst (v := 4) hx hb dX6_next_55 (by decide) ?_
            refine lv_iload_n hx hb dX6_next_56 rfl (lv_at hl 1 rfl) ?_
            refine lv_imul hx hb dX6_next_57 ?_
            refine top_int (nmulE (a := 4) (b := j) rfl rfl) ?_
            refine lv_iconst (v := 0) hx hb dX6_next_58 (by decide) ?_
            refine lv_iadd hx hb dX6_next_59 ?_
            refine top_int (naddE (a := 4 * j) (b := 0) rfl rfl) ?_
            refine aldN hx hb hk hP 1 rfl ((4 * j) + 0) rfl (by omega) (Nat.le_of_ble_eq_true rfl) dX6_next_60 ?_
            refine top_int (fl_r (d := j) (w := 0) (by omega)) ?_
            refine lv_icmp_ge (tgt := 66) hx hb dX6_next_61 (by decide) (fun c61 => ?_) (fun c61 => ?_)
            · refine lv_iinc (v := nI (i + 1)) (lv' := [(2, .int (nI (i + 1))), (1, .int (nI j)), (0, .ref m0)]) hx hb dX6_next_66 hl (k := 0) rfl (nI_inc i) (by decide) rfl (fun ls hl => ?_)
              refine lv_goto (tgt := 9) hx hb dX6_next_69 (by decide) ?_
              have ihx := ih9 (i + 1)  (by omega) (by omega)
              rw [show fbS (cu 0) (nu 1) (i + 1) = j + 1 from by rw [fbS, if_neg c33, hz, if_neg (Nat.succ_ne_zero j)]; exact if_pos c61] at ihx
              exact ihx _ _ hP hD hS _ (lv_sub hl [0, 1, 2] rfl)
            · refine lv_iload_n hx hb dX6_next_64 rfl (lv_at hl 0 rfl) ?_
              refine lv_istore_n (lv' := [(1, .int (nI i)), (2, .int (nI i)), (0, .ref m0)]) hx hb dX6_next_65 rfl hl (by decide) rfl (fun ls hl => ?_)
              refine lv_iinc (v := nI (i + 1)) (lv' := [(2, .int (nI (i + 1))), (1, .int (nI i)), (0, .ref m0)]) hx hb dX6_next_66 hl (k := 1) rfl (nI_inc i) (by decide) rfl (fun ls hl => ?_)
              refine lv_goto (tgt := 9) hx hb dX6_next_69 (by decide) ?_
              have ihx := ih9 (i + 1)  (by omega) (by omega)
              rw [show fbS (cu 0) (nu 1) (i + 1) = i + 1 from by rw [fbS, if_neg c33, hz, if_neg (Nat.succ_ne_zero j)]; exact if_neg c61] at ihx
              exact ihx _ _ hP hD hS _ (lv_sub hl [0, 1, 2] rfl)
  exact key9 (nC + 1) 0  (by omega) (by omega)  _ _ hP hD hS _ (lv_sub hl [0, 1, 2] rfl)

theorem mX6_when_f25 : (.fieldLink RX6 25 "StarConsoleModel" "thrown" "I" : Cond) ∈ wsX6_when := by decide +kernel
theorem iX6_when_X6 : ∀ w ∈ wsX60, w ∈ wsX6_when := by decide +kernel
theorem mX6_when_f64 : (.fieldLink RX6 64 "StarConsoleModel" "cues" "I" : Cond) ∈ wsX6_when := by decide +kernel
theorem mX6_when_f19 : (.fieldLink RX6 19 "StarConsoleModel" "show" "[I" : Cond) ∈ wsX6_when := by decide +kernel
theorem mX6_when_f22 : (.fieldLink RX6 22 "StarConsoleModel" "numbers" "[I" : Cond) ∈ wsX6_when := by decide +kernel

theorem hX6_when : yX6_when.cls = RX6 ∧ yX6_when.cls ≠ "java/lang/invoke/MethodHandle" ∧ yX6_when.cls ≠ "java/lang/invoke/VarHandle" ∧ (parseMethodDescriptor yX6_when.desc).map (fun d => d.parameters.length) = some 1 := by decide +kernel
set_option maxHeartbeats 4000000 in
set_option maxRecDepth 100000 in
theorem tX6_when (l : Launch) (D : va_G) (cI : ClassId) (m0 m1 m2 m3 m4 m5 nD nT nC : Nat) (th : Int32) (cu : Mx) (nu : Nat → Int32) (nK : Nat) (d : Int32) (hC : nC ≤ 24) (hq : qOK nD nC cu) : CI l yX6_when wsX6_when ({ frames := 1, cells := 0, slots := 0, locals := 22 } : Room) D cI ([.ref m0, .int d] : List Value) [(m0, .inr (6, [.int th, .int (nI nD), .int (nI nT), .int (nI nC), .ref m1, .ref m2, .ref m3, .ref m4, .ref m5])), (m4, .inl (cI, 96, .inl (fl 4 cu))), (m5, .inl (cI, 8, .inl (numA nu nK)))] (sel (kHas nC d) (whI nC cu nu (ix d)) 0) [(m0, .inr (6, [.int (kHas nC d), .int (nI nD), .int (nI nT), .int (nI nC), .ref m1, .ref m2, .ref m3, .ref m4, .ref m5])), (m4, .inl (cI, 96, .inl (fl 4 cu))), (m5, .inl (cI, 8, .inl (numA nu nK)))] := by
  refine entI (cc := cX6_when) (maxL := 4) (ret := (some .int)) (by decide) rfl (Nat.le_of_ble_eq_true rfl) (fun p e s m below meth c A ls fx hl => ?_)
  have fx0 := fx
  obtain ⟨hx, hb, hr, hml, hown, hts, hlocks, hk, hP, hD, hA⟩ := fx
  have hown : s.vm.findClass RX6 = some m.cls := hown
  have hS : va_S A s.heap s.heap [] := va_S.rf
  have hP : va_P D vwCl [(m0, .inr (6, [.int th, .int (nI nD), .int (nI nT), .int (nI nC), .ref m1, .ref m2, .ref m3, .ref m4, .ref m5])), (m4, .inl (cI, 96, .inl (fl 4 cu))), (m5, .inl (cI, 8, .inl (numA nu nK)))] s.heap := hP
  have hD : va_D A [(m0, .inr (6, [.int th, .int (nI nD), .int (nI nT), .int (nI nC), .ref m1, .ref m2, .ref m3, .ref m4, .ref m5])), (m4, .inl (cI, 96, .inl (fl 4 cu))), (m5, .inl (cI, 8, .inl (numA nu nK)))] := hD
  have hl : lv_has ls 4 [(0, .ref m0), (1, .int d)] := hl
  refine lv_aload_n hx hb dX6_when_0 rfl (lv_at hl 0 rfl) ?_
  refine lv_iconst (v := 0) hx hb dX6_when_1 (by decide) ?_
  refine va_put (D := D) (ci := 6) (v := .int 0) (ty := .int) (C := RX6) (T := TX6) (N := 9) hx hb hts iX6_when_X6 tyX6 tyX6_ok nmX6 hown hk.1 hP hD hS 0 rfl rfl 0 (by decide) (hts _ mX6_when_f25) (fun _ h9 => h9) rfl (by decide +kernel) rfl rfl (Nat.le_of_ble_eq_true rfl) dX6_when_2 (fun H locs hP hD hS => ?_)
  have hP : va_P D vwCl [(m0, .inr (6, [.int 0, .int (nI nD), .int (nI nT), .int (nI nC), .ref m1, .ref m2, .ref m3, .ref m4, .ref m5])), (m4, .inl (cI, 96, .inl (fl 4 cu))), (m5, .inl (cI, 8, .inl (numA nu nK)))] H := hP
  have hD : va_D A [(m0, .inr (6, [.int 0, .int (nI nD), .int (nI nT), .int (nI nC), .ref m1, .ref m2, .ref m3, .ref m4, .ref m5])), (m4, .inl (cI, 96, .inl (fl 4 cu))), (m5, .inl (cI, 8, .inl (numA nu nK)))] := hD
  refine lv_iload_n hx hb dX6_when_5 rfl (lv_at hl 1 rfl) ?_
  refine lv_iconst (v := 0) hx hb dX6_when_6 (by decide) ?_
  refine lv_aload_n hx hb dX6_when_7 rfl (lv_at hl 0 rfl) ?_
  refine va_get (D := D) (ci := 6) (v := .int (nI nC)) (C := RX6) (T := TX6) (N := 9) hx hb hts iX6_when_X6 hown hk.1 hP 0 rfl rfl 3 (by decide) (hts _ mX6_when_f64) (fun _ h9 => h9) rfl dX6_when_8 ?_
  refine lv_iconst (v := 1) hx hb dX6_when_11 (by decide) ?_
  refine lv_isub hx hb dX6_when_12 ?_
  refine frI (wc := []) (wc' := []) (w' := [(m0, .inr (6, [.int 0, .int (nI nD), .int (nI nT), .int (nI nC), .ref m1, .ref m2, .ref m3, .ref m4, .ref m5])), (m4, .inl (cI, 96, .inl (fl 4 cu))), (m5, .inl (cI, 8, .inl (numA nu nK)))]) hP hD hS hA [] [0, 1, 2] [0, 1, 2] rfl rfl rfl rfl rfl (va_runS (As := [.int d, .int 0, .int ((nI nC) - 1)]) (rest := []) ⟨hx, hb, hml, hown, hts⟩ (tX6_isIn l D cI d 0 (nI nC - 1)  _) (va_cwS 3 hts gX6_when_X6_isIn rfl rfl rfl hX6_isIn.2 ⟨Nat.le_of_ble_eq_true rfl, Nat.le_of_ble_eq_true rfl⟩) (preS_of hk hP hD [] rfl rfl) rfl rfl hl.1 rfl (lv_room (Nat.le_of_ble_eq_true rfl)) dX6_when_13 ⟨Nat.le_of_ble_eq_true rfl, Nat.le_of_ble_eq_true rfl⟩) (fun H locs hP hD hS => ?_)
  refine top_int (wi_has (by omega)) ?_
  refine lv_if_ne (tgt := 25) hx hb dX6_when_16 (by decide) (fun c16 => ?_) (fun c16 => ?_)
  · obtain ⟨j, hj, rfl⟩ := hasI_k c16
    rw [show kHas nC (nI j) = 0 from by rw [kHas, if_neg c16]]
    rw [ix_n (show j < 1000 by omega)]
    have hq0 := (hq j hj).1
    refine lv_aload_n hx hb dX6_when_25 rfl (lv_at hl 0 rfl) ?_
    refine va_get (D := D) (ci := 6) (v := .ref m4) (C := RX6) (T := TX6) (N := 9) hx hb hts iX6_when_X6 hown hk.1 hP 0 rfl rfl 7 (by decide) (hts _ mX6_when_f19) (fun _ h9 => h9) rfl dX6_when_26 ?_
    refine lv_iconst (v := 4) hx hb dX6_when_29 (by decide) ?_
    refine lv_iload_n hx hb dX6_when_30 rfl (lv_at hl 1 rfl) ?_
    refine lv_imul hx hb dX6_when_31 ?_
    refine top_int (nmulE (a := 4) (b := j) rfl rfl) ?_
    refine lv_iconst (v := 0) hx hb dX6_when_32 (by decide) ?_
    refine lv_iadd hx hb dX6_when_33 ?_
    refine top_int (naddE (a := 4 * j) (b := 0) rfl rfl) ?_
    refine aldN hx hb hk hP 1 rfl ((4 * j) + 0) rfl (by omega) (Nat.le_of_ble_eq_true rfl) dX6_when_34 ?_
    refine top_int (fl_r (d := j) (w := 0) (by omega)) ?_
    refine lv_istore_n (lv' := [(2, .int (cu 0 j)), (0, .ref m0), (1, .int (nI j))]) hx hb dX6_when_35 rfl hl (by decide) rfl (fun ls hl => ?_)
    refine lv_aload_n hx hb dX6_when_36 rfl (lv_at hl 1 rfl) ?_
    refine va_get (D := D) (ci := 6) (v := .ref m5) (C := RX6) (T := TX6) (N := 9) hx hb hts iX6_when_X6 hown hk.1 hP 0 rfl rfl 8 (by decide) (hts _ mX6_when_f22) (fun _ h9 => h9) rfl dX6_when_37 ?_
    refine lv_iconst (v := 2) hx hb dX6_when_40 (by decide) ?_
    refine aldN hx hb hk hP 2 rfl 2 rfl (by omega) (Nat.le_of_ble_eq_true rfl) dX6_when_41 ?_
    refine top_int (show _ = (nu 2 : Int32) from rfl) ?_
    refine lv_if_eq (tgt := 55) hx hb dX6_when_42 (by decide) (fun c42 => ?_) (fun c42 => ?_)
    · refine lv_iconst (v := (-1)) hx hb dX6_when_55 (by decide) ?_
      exact retI hx hb hr hlocks hS hP hD dX6_when_56 (by show (-1 : Int32) = whI nC cu nu j; rw [whI, if_pos c42]) rfl
    · refine lv_iload_n hx hb dX6_when_45 rfl (lv_at hl 0 rfl) ?_
      refine lv_aload_n hx hb dX6_when_46 rfl (lv_at hl 1 rfl) ?_
      refine va_get (D := D) (ci := 6) (v := .ref m5) (C := RX6) (T := TX6) (N := 9) hx hb hts iX6_when_X6 hown hk.1 hP 0 rfl rfl 8 (by decide) (hts _ mX6_when_f22) (fun _ h9 => h9) rfl dX6_when_47 ?_
      refine lv_iconst (v := 1) hx hb dX6_when_50 (by decide) ?_
      refine aldN hx hb hk hP 2 rfl 1 rfl (by omega) (Nat.le_of_ble_eq_true rfl) dX6_when_51 ?_
      refine top_int (show _ = (nu 1 : Int32) from rfl) ?_
      refine lv_icmp_ge (tgt := 57) hx hb dX6_when_52 (by decide) (fun c52 => ?_) (fun c52 => ?_)
      · refine lv_iconst (v := 0) hx hb dX6_when_57 (by decide) ?_
        refine lv_istore_n (lv' := [(3, .int 0), (2, .int (cu 0 j)), (0, .ref m0), (1, .int (nI j))]) hx hb dX6_when_58 rfl hl (by decide) rfl (fun ls hl => ?_)
        have key59 : ∀ (ku59 : Nat) (i : Nat), i ≤ nC → nC - i < ku59 → hwI cu (nu 1) (cu 0 j) i = 0 → ∀ (H : Heap) (locs : List Loc), va_P D vwCl [(m0, .inr (6, [.int 0, .int (nI nD), .int (nI nT), .int (nI nC), .ref m1, .ref m2, .ref m3, .ref m4, .ref m5])), (m4, .inl (cI, 96, .inl (fl 4 cu))), (m5, .inl (cI, 8, .inl (numA nu nK)))] H → va_D A [(m0, .inr (6, [.int 0, .int (nI nD), .int (nI nT), .int (nI nC), .ref m1, .ref m2, .ref m3, .ref m4, .ref m5])), (m4, .inl (cI, 96, .inl (fl 4 cu))), (m5, .inl (cI, 8, .inl (numA nu nK)))] → va_S A s.heap H locs → ∀ ls : Array Slot, lv_has ls 4 [(3, .int (nI i)), (0, .ref m0), (2, .int (cu 0 j))] → W p l e ({ frames := 1, cells := 0, slots := 0, locals := 22 } : Room) s m ([.ref m0, .int (nI j)] : List Value).toArray below meth c H locs 0 0 (MQ below (poI D A [(m0, .inr (6, [.int 0, .int (nI nD), .int (nI nT), .int (nI nC), .ref m1, .ref m2, .ref m3, .ref m4, .ref m5])), (m4, .inl (cI, 96, .inl (fl 4 cu))), (m5, .inl (cI, 8, .inl (numA nu nK)))] (sel (0) (whI nC cu nu (j)) 0)) ([.ref m0, .int (nI j)] : List Value).toArray s 0 0 A) (F0 m 59 ls []) := by
          intro ku59
          induction ku59 with
          | zero => intro i; intros; omega
          | succ ku59 ih59 =>
            intro i  hi59 hm59 hq59_0 H locs hP hD hS ls hl
            refine lv_iload_n hx hb dX6_when_59 rfl (lv_at hl 0 rfl) ?_
            refine lv_aload_n hx hb dX6_when_60 rfl (lv_at hl 1 rfl) ?_
            refine va_get (D := D) (ci := 6) (v := .int (nI nC)) (C := RX6) (T := TX6) (N := 9) hx hb hts iX6_when_X6 hown hk.1 hP 0 rfl rfl 3 (by decide) (hts _ mX6_when_f64) (fun _ h9 => h9) rfl dX6_when_61 ?_
            refine icgeN (i := i) (n := nC) (tgt := 114) hx hb (by omega) (by omega) dX6_when_64 (by decide) (fun c64 => ?_) (fun c64 => ?_)
            · obtain rfl : nC = i := by omega
              refine lv_iload_n hx hb dX6_when_114 rfl (lv_at hl 2 rfl) ?_
              refine lv_aload_n hx hb dX6_when_115 rfl (lv_at hl 1 rfl) ?_
              refine va_get (D := D) (ci := 6) (v := .ref m5) (C := RX6) (T := TX6) (N := 9) hx hb hts iX6_when_X6 hown hk.1 hP 0 rfl rfl 8 (by decide) (hts _ mX6_when_f22) (fun _ h9 => h9) rfl dX6_when_116 ?_
              refine lv_iconst (v := 1) hx hb dX6_when_119 (by decide) ?_
              refine aldN hx hb hk hP 2 rfl 1 rfl (by omega) (Nat.le_of_ble_eq_true rfl) dX6_when_120 ?_
              refine top_int (show _ = (nu 1 : Int32) from rfl) ?_
              refine lv_isub hx hb dX6_when_121 ?_
              refine lv_iconst (v := 1) hx hb dX6_when_122 (by decide) ?_
              refine lv_iadd hx hb dX6_when_123 ?_
              exact retI hx hb hr hlocks hS hP hD dX6_when_124 (by show _ = whI nC cu nu j; rw [whI, if_neg c42, if_neg (Int32.not_lt.mpr c52), if_pos hq59_0]) rfl
            · refine lv_aload_n hx hb dX6_when_67 rfl (lv_at hl 1 rfl) ?_
              refine va_get (D := D) (ci := 6) (v := .ref m4) (C := RX6) (T := TX6) (N := 9) hx hb hts iX6_when_X6 hown hk.1 hP 0 rfl rfl 7 (by decide) (hts _ mX6_when_f19) (fun _ h9 => h9) rfl dX6_when_68 ?_
              refine lv_iconst (v := 4) hx hb dX6_when_71 (by decide) ?_
              refine lv_iload_n hx hb dX6_when_72 rfl (lv_at hl 0 rfl) ?_
              refine lv_imul hx hb dX6_when_73 ?_
              refine top_int (nmulE (a := 4) (b := i) rfl rfl) ?_
              refine lv_iconst (v := 1) hx hb dX6_when_74 (by decide) ?_
              refine lv_iadd hx hb dX6_when_75 ?_
              refine top_int (naddE (a := 4 * i) (b := 1) rfl rfl) ?_
              refine aldN hx hb hk hP 1 rfl ((4 * i) + 1) rfl (by omega) (Nat.le_of_ble_eq_true rfl) dX6_when_76 ?_
              refine top_int (fl_r (d := i) (w := 1) (by omega)) ?_
              refine lv_iconst (v := 4) hx hb dX6_when_77 (by decide) ?_
              refine lv_icmp_ne (tgt := 108) hx hb dX6_when_78 (by decide) (fun c78 => ?_) (fun c78 => ?_)
              · refine lv_iinc (v := nI (i + 1)) (lv' := [(3, .int (nI (i + 1))), (0, .ref m0), (2, .int (cu 0 j))]) hx hb dX6_when_108 hl (k := 0) rfl (nI_inc i) (by decide) rfl (fun ls hl => ?_)
                refine lv_goto (tgt := 59) hx hb dX6_when_111 (by decide) ?_
                exact ih59 (i + 1)  (by omega) (by omega) (by rw [hwI, if_pos hq59_0, hw1, if_neg c78]) _ _ hP hD hS _ (lv_sub hl [0, 1, 2] rfl)
              · refine lv_aload_n hx hb dX6_when_81 rfl (lv_at hl 1 rfl) ?_
                refine va_get (D := D) (ci := 6) (v := .ref m4) (C := RX6) (T := TX6) (N := 9) hx hb hts iX6_when_X6 hown hk.1 hP 0 rfl rfl 7 (by decide) (hts _ mX6_when_f19) (fun _ h9 => h9) rfl dX6_when_82 ?_
                refine lv_iconst (v := 4) hx hb dX6_when_85 (by decide) ?_
                refine lv_iload_n hx hb dX6_when_86 rfl (lv_at hl 0 rfl) ?_
                refine lv_imul hx hb dX6_when_87 ?_
                refine top_int (nmulE (a := 4) (b := i) rfl rfl) ?_
                refine lv_iconst (v := 0) hx hb dX6_when_88 (by decide) ?_
                refine lv_iadd hx hb dX6_when_89 ?_
                refine top_int (naddE (a := 4 * i) (b := 0) rfl rfl) ?_
                refine aldN hx hb hk hP 1 rfl ((4 * i) + 0) rfl (by omega) (Nat.le_of_ble_eq_true rfl) dX6_when_90 ?_
                refine top_int (fl_r (d := i) (w := 0) (by omega)) ?_
                refine lv_aload_n hx hb dX6_when_91 rfl (lv_at hl 1 rfl) ?_
                refine va_get (D := D) (ci := 6) (v := .ref m5) (C := RX6) (T := TX6) (N := 9) hx hb hts iX6_when_X6 hown hk.1 hP 0 rfl rfl 8 (by decide) (hts _ mX6_when_f22) (fun _ h9 => h9) rfl dX6_when_92 ?_
                refine lv_iconst (v := 1) hx hb dX6_when_95 (by decide) ?_
                refine aldN hx hb hk hP 2 rfl 1 rfl (by omega) (Nat.le_of_ble_eq_true rfl) dX6_when_96 ?_
                refine top_int (show _ = (nu 1 : Int32) from rfl) ?_
                refine lv_iload_n hx hb dX6_when_97 rfl (lv_at hl 2 rfl) ?_
                refine lv_iconst (v := 1) hx hb dX6_when_98 (by decide) ?_
                refine lv_isub hx hb dX6_when_99 ?_
                refine frI (wc := []) (wc' := []) (w' := [(m0, .inr (6, [.int 0, .int (nI nD), .int (nI nT), .int (nI nC), .ref m1, .ref m2, .ref m3, .ref m4, .ref m5])), (m4, .inl (cI, 96, .inl (fl 4 cu))), (m5, .inl (cI, 8, .inl (numA nu nK)))]) hP hD hS hA [] [0, 1, 2] [0, 1, 2] rfl rfl rfl rfl rfl (va_runS (As := [.int (cu 0 i), .int (nu 1), .int ((cu 0 j) - 1)]) (rest := []) ⟨hx, hb, hml, hown, hts⟩ (tX6_isIn l D cI (cu 0 i) (nu 1) (cu 0 j - 1)  _) (va_cwS 3 hts gX6_when_X6_isIn rfl rfl rfl hX6_isIn.2 ⟨Nat.le_of_ble_eq_true rfl, Nat.le_of_ble_eq_true rfl⟩) (preS_of hk hP hD [] rfl rfl) rfl rfl hl.1 rfl (lv_room (Nat.le_of_ble_eq_true rfl)) dX6_when_100 ⟨Nat.le_of_ble_eq_true rfl, Nat.le_of_ble_eq_true rfl⟩) (fun H locs hP hD hS => ?_)
                refine top_int (wi_hw hq0 c78) ?_
                refine lv_if_eq (tgt := 108) hx hb dX6_when_103 (by decide) (fun c103 => ?_) (fun c103 => ?_)
                · refine lv_iinc (v := nI (i + 1)) (lv' := [(3, .int (nI (i + 1))), (0, .ref m0), (2, .int (cu 0 j))]) hx hb dX6_when_108 hl (k := 0) rfl (nI_inc i) (by decide) rfl (fun ls hl => ?_)
                  refine lv_goto (tgt := 59) hx hb dX6_when_111 (by decide) ?_
                  exact ih59 (i + 1)  (by omega) (by omega) (by rw [hwI, if_pos hq59_0]; exact c103) _ _ hP hD hS _ (lv_sub hl [0, 1, 2] rfl)
                · refine lv_iconst (v := (-1)) hx hb dX6_when_106 (by decide) ?_
                  exact retI hx hb hr hlocks hS hP hD dX6_when_107 (by show (-1 : Int32) = whI nC cu nu j; rw [whI, if_neg c42, if_neg (Int32.not_lt.mpr c52), if_neg (by rw [hwI_hit hq59_0 ((hw1_b _ _ _ _).resolve_left c103) nC c64]; decide)]) rfl
        exact key59 (nC + 1) 0  (by omega) (by omega) rfl _ _ hP hD hS _ (lv_sub hl [0, 2, 1] rfl)
      · refine lv_iconst (v := (-1)) hx hb dX6_when_55 (by decide) ?_
        exact retI hx hb hr hlocks hS hP hD dX6_when_56 (by show (-1 : Int32) = whI nC cu nu j; rw [whI, if_neg c42, if_pos (Int32.not_le.mp c52)]) rfl
  · rw [show kHas nC d = 1 from by rw [kHas, if_pos c16]]
    refine lv_aload_n hx hb dX6_when_19 rfl (lv_at hl 0 rfl) ?_
    refine lv_iconst (v := 1) hx hb dX6_when_20 (by decide) ?_
    refine frI (wc := [(m0, .inr (6, [.int 0, .int (nI nD), .int (nI nT), .int (nI nC), .ref m1, .ref m2, .ref m3, .ref m4, .ref m5]))]) (wc' := [(m0, .inr (6, [.int 1, .int (nI nD), .int (nI nT), .int (nI nC), .ref m1, .ref m2, .ref m3, .ref m4, .ref m5]))]) (w' := [(m0, .inr (6, [.int 1, .int (nI nD), .int (nI nT), .int (nI nC), .ref m1, .ref m2, .ref m3, .ref m4, .ref m5])), (m4, .inl (cI, 96, .inl (fl 4 cu))), (m5, .inl (cI, 8, .inl (numA nu nK)))]) hP hD hS hA [0] [1, 2] [2, 0, 1] rfl rfl rfl rfl rfl (va_runV (As := [.int 1]) (rest := []) ⟨hx, hb, hml, hown, hts⟩ (tX6_fail l D cI m0 m1 m2 m3 m4 m5 nD nT nC 0 1  _) (cwV 1 hts gX6_when_X6_fail rfl rfl rfl hX6_fail ⟨Nat.le_of_ble_eq_true rfl, Nat.le_of_ble_eq_true rfl⟩) (preV_of hk hP hD [0] rfl rfl (recvO hk hP (ci := 6) (q0 := 0) rfl rfl)) rfl rfl hl.1 rfl (lv_room (Nat.le_of_ble_eq_true rfl)) dX6_when_21 ⟨Nat.le_of_ble_eq_true rfl, Nat.le_of_ble_eq_true rfl⟩) (fun H locs hP hD hS => ?_)
    exact retI hx hb hr hlocks hS hP hD dX6_when_24 (rfl) rfl

theorem mX6_darkest_f25 : (.fieldLink RX6 25 "StarConsoleModel" "thrown" "I" : Cond) ∈ wsX6_darkest := by decide +kernel
theorem iX6_darkest_X6 : ∀ w ∈ wsX60, w ∈ wsX6_darkest := by decide +kernel

theorem hX6_darkest : yX6_darkest.cls = RX6 ∧ yX6_darkest.cls ≠ "java/lang/invoke/MethodHandle" ∧ yX6_darkest.cls ≠ "java/lang/invoke/VarHandle" ∧ (parseMethodDescriptor yX6_darkest.desc).map (fun d => d.parameters.length) = some 0 := by decide +kernel
set_option maxHeartbeats 4000000 in
set_option maxRecDepth 100000 in
theorem tX6_darkest (l : Launch) (D : va_G) (cI : ClassId) (m0 m1 m2 m3 m4 m5 nD nT nC : Nat) (th : Int32) (g : Mx) (hn : nD ≤ 8) (hg : gOK nD g) : CI l yX6_darkest wsX6_darkest ({ frames := 2, cells := 0, slots := 0, locals := 46 } : Room) D cI ([.ref m0] : List Value) [(m0, .inr (6, [.int th, .int (nI nD), .int (nI nT), .int (nI nC), .ref m1, .ref m2, .ref m3, .ref m4, .ref m5])), (m1, .inl (cI, 40, .inl (fl 5 g)))] (nI (dkB (fun p => glS (g 0) (g 1) (nI p) nD) 12)) [(m0, .inr (6, [.int 0, .int (nI nD), .int (nI nT), .int (nI nC), .ref m1, .ref m2, .ref m3, .ref m4, .ref m5])), (m1, .inl (cI, 40, .inl (fl 5 g)))] := by
  refine entI (cc := cX6_darkest) (maxL := 3) (ret := (some .int)) (by decide) rfl (Nat.le_of_ble_eq_true rfl) (fun p e s m below meth c A ls fx hl => ?_)
  have fx0 := fx
  obtain ⟨hx, hb, hr, hml, hown, hts, hlocks, hk, hP, hD, hA⟩ := fx
  have hown : s.vm.findClass RX6 = some m.cls := hown
  have hS : va_S A s.heap s.heap [] := va_S.rf
  have hP : va_P D vwCl [(m0, .inr (6, [.int th, .int (nI nD), .int (nI nT), .int (nI nC), .ref m1, .ref m2, .ref m3, .ref m4, .ref m5])), (m1, .inl (cI, 40, .inl (fl 5 g)))] s.heap := hP
  have hD : va_D A [(m0, .inr (6, [.int th, .int (nI nD), .int (nI nT), .int (nI nC), .ref m1, .ref m2, .ref m3, .ref m4, .ref m5])), (m1, .inl (cI, 40, .inl (fl 5 g)))] := hD
  have hl : lv_has ls 3 [(0, .ref m0)] := hl
  refine lv_aload_n hx hb dX6_darkest_0 rfl (lv_at hl 0 rfl) ?_
  refine lv_iconst (v := 0) hx hb dX6_darkest_1 (by decide) ?_
  refine va_put (D := D) (ci := 6) (v := .int 0) (ty := .int) (C := RX6) (T := TX6) (N := 9) hx hb hts iX6_darkest_X6 tyX6 tyX6_ok nmX6 hown hk.1 hP hD hS 0 rfl rfl 0 (by decide) (hts _ mX6_darkest_f25) (fun _ h9 => h9) rfl (by decide +kernel) rfl rfl (Nat.le_of_ble_eq_true rfl) dX6_darkest_2 (fun H locs hP hD hS => ?_)
  have hP : va_P D vwCl [(m0, .inr (6, [.int 0, .int (nI nD), .int (nI nT), .int (nI nC), .ref m1, .ref m2, .ref m3, .ref m4, .ref m5])), (m1, .inl (cI, 40, .inl (fl 5 g)))] H := hP
  have hD : va_D A [(m0, .inr (6, [.int 0, .int (nI nD), .int (nI nT), .int (nI nC), .ref m1, .ref m2, .ref m3, .ref m4, .ref m5])), (m1, .inl (cI, 40, .inl (fl 5 g)))] := hD
  refine lv_iconst (v := 0) hx hb dX6_darkest_5 (by decide) ?_
  refine lv_istore_n (lv' := [(1, .int 0), (0, .ref m0)]) hx hb dX6_darkest_6 rfl hl (by decide) rfl (fun ls hl => ?_)
  refine lv_iconst (v := 1) hx hb dX6_darkest_7 (by decide) ?_
  refine lv_istore_n (lv' := [(2, .int 1), (1, .int 0), (0, .ref m0)]) hx hb dX6_darkest_8 rfl hl (by decide) rfl (fun ls hl => ?_)
  have key9 : ∀ (ku9 : Nat) (i : Nat), i ≤ 12 → 12 - i < ku9 → ∀ (H : Heap) (locs : List Loc), va_P D vwCl [(m0, .inr (6, [.int 0, .int (nI nD), .int (nI nT), .int (nI nC), .ref m1, .ref m2, .ref m3, .ref m4, .ref m5])), (m1, .inl (cI, 40, .inl (fl 5 g)))] H → va_D A [(m0, .inr (6, [.int 0, .int (nI nD), .int (nI nT), .int (nI nC), .ref m1, .ref m2, .ref m3, .ref m4, .ref m5])), (m1, .inl (cI, 40, .inl (fl 5 g)))] → va_S A s.heap H locs → ∀ ls : Array Slot, lv_has ls 3 [(2, .int (nI i)), (1, .int (nI (dkB (fun p => glS (g 0) (g 1) (nI p) nD) i))), (0, .ref m0)] → W p l e ({ frames := 2, cells := 0, slots := 0, locals := 46 } : Room) s m ([.ref m0] : List Value).toArray below meth c H locs 0 0 (MQ below (poI D A [(m0, .inr (6, [.int 0, .int (nI nD), .int (nI nT), .int (nI nC), .ref m1, .ref m2, .ref m3, .ref m4, .ref m5])), (m1, .inl (cI, 40, .inl (fl 5 g)))] (nI (dkB (fun p => glS (g 0) (g 1) (nI p) nD) 12))) ([.ref m0] : List Value).toArray s 0 0 A) (F0 m 9 ls []) := by
    intro ku9
    induction ku9 with
    | zero => intro i; intros; omega
    | succ ku9 ih9 =>
      intro i  hi9 hm9  H locs hP hD hS ls hl
      refine lv_iload_n hx hb dX6_darkest_9 rfl (lv_at hl 0 rfl) ?_
      refine lv_bipush (v := 12) hx hb dX6_darkest_10 (by decide) ?_
      refine icgeN (i := i) (n := 12) (tgt := 36) hx hb (by omega) (by omega) dX6_darkest_12 (by decide) (fun c12 => ?_) (fun c12 => ?_)
      · obtain rfl : 12 = i := by omega
        refine lv_iload_n hx hb dX6_darkest_36 rfl (lv_at hl 1 rfl) ?_
        exact retI hx hb hr hlocks hS hP hD dX6_darkest_37 (rfl) rfl
      · refine lv_aload_n hx hb dX6_darkest_15 rfl (lv_at hl 2 rfl) ?_
        refine lv_iload_n hx hb dX6_darkest_16 rfl (lv_at hl 0 rfl) ?_
        refine frI (wc := [(m0, .inr (6, [.int 0, .int (nI nD), .int (nI nT), .int (nI nC), .ref m1, .ref m2, .ref m3, .ref m4, .ref m5])), (m1, .inl (cI, 40, .inl (fl 5 g)))]) (wc' := [(m0, .inr (6, [.int 0, .int (nI nD), .int (nI nT), .int (nI nC), .ref m1, .ref m2, .ref m3, .ref m4, .ref m5])), (m1, .inl (cI, 40, .inl (fl 5 g)))]) (w' := [(m0, .inr (6, [.int 0, .int (nI nD), .int (nI nT), .int (nI nC), .ref m1, .ref m2, .ref m3, .ref m4, .ref m5])), (m1, .inl (cI, 40, .inl (fl 5 g)))]) hP hD hS hA [0, 1] [] [0, 1] rfl rfl rfl rfl rfl (va_runV (As := [.int (nI i)]) (rest := []) ⟨hx, hb, hml, hown, hts⟩ (tX6_glareOf l D cI m0 m1 m2 m3 m4 m5 nD nT nC 0 g (nI i) hn hg ⟨by rw [nI_toInt (by have := c12; omega)]; omega, by rw [nI_toInt (by have := c12; omega)]; have := c12; omega⟩ _) (cwV 1 hts gX6_darkest_X6_glareOf rfl rfl rfl hX6_glareOf ⟨Nat.le_of_ble_eq_true rfl, Nat.le_of_ble_eq_true rfl⟩) (preV_of hk hP hD [0, 1] rfl rfl (recvO hk hP (ci := 6) (q0 := 0) rfl rfl)) rfl rfl hl.1 rfl (lv_room (Nat.le_of_ble_eq_true rfl)) dX6_darkest_17 ⟨Nat.le_of_ble_eq_true rfl, Nat.le_of_ble_eq_true rfl⟩) (fun H locs hP hD hS => ?_)
        refine lv_aload_n hx hb dX6_darkest_20 rfl (lv_at hl 2 rfl) ?_
        refine lv_iload_n hx hb dX6_darkest_21 rfl (lv_at hl 1 rfl) ?_
        refine frI (wc := [(m0, .inr (6, [.int 0, .int (nI nD), .int (nI nT), .int (nI nC), .ref m1, .ref m2, .ref m3, .ref m4, .ref m5])), (m1, .inl (cI, 40, .inl (fl 5 g)))]) (wc' := [(m0, .inr (6, [.int 0, .int (nI nD), .int (nI nT), .int (nI nC), .ref m1, .ref m2, .ref m3, .ref m4, .ref m5])), (m1, .inl (cI, 40, .inl (fl 5 g)))]) (w' := [(m0, .inr (6, [.int 0, .int (nI nD), .int (nI nT), .int (nI nC), .ref m1, .ref m2, .ref m3, .ref m4, .ref m5])), (m1, .inl (cI, 40, .inl (fl 5 g)))]) hP hD hS hA [0, 1] [] [0, 1] rfl rfl rfl rfl rfl (va_runV (As := [.int (nI (dkB (fun p => glS (g 0) (g 1) (nI p) nD) i))]) (rest := [.int (glS (g 0) (g 1) (nI i) nD)]) ⟨hx, hb, hml, hown, hts⟩ (tX6_glareOf l D cI m0 m1 m2 m3 m4 m5 nD nT nC 0 g (nI (dkB (fun p => glS (g 0) (g 1) (nI p) nD) i)) hn hg ⟨by rw [nI_toInt (by have := dkB_le (fun p => glS (g 0) (g 1) (nI p) nD) i; omega)]; omega, by rw [nI_toInt (by have := dkB_le (fun p => glS (g 0) (g 1) (nI p) nD) i; omega)]; have := dkB_le (fun p => glS (g 0) (g 1) (nI p) nD) i; omega⟩ _) (cwV 1 hts gX6_darkest_X6_glareOf rfl rfl rfl hX6_glareOf ⟨Nat.le_of_ble_eq_true rfl, Nat.le_of_ble_eq_true rfl⟩) (preV_of hk hP hD [0, 1] rfl rfl (recvO hk hP (ci := 6) (q0 := 0) rfl rfl)) rfl rfl hl.1 rfl (lv_room (Nat.le_of_ble_eq_true rfl)) dX6_darkest_22 ⟨Nat.le_of_ble_eq_true rfl, Nat.le_of_ble_eq_true rfl⟩) (fun H locs hP hD hS => ?_)
        refine lv_icmp_ge (tgt := 30) hx hb dX6_darkest_25 (by decide) (fun c25 => ?_) (fun c25 => ?_)
        · refine lv_iinc (v := nI (i + 1)) (lv' := [(2, .int (nI (i + 1))), (1, .int (nI (dkB (fun p => glS (g 0) (g 1) (nI p) nD) i))), (0, .ref m0)]) hx hb dX6_darkest_30 hl (k := 0) rfl (nI_inc i) (by decide) rfl (fun ls hl => ?_)
          refine lv_goto (tgt := 9) hx hb dX6_darkest_33 (by decide) ?_
          have ihx := ih9 (i + 1)  (by omega) (by omega)
          rw [show dkB (fun p => glS (g 0) (g 1) (nI p) nD) (i + 1) = dkB (fun p => glS (g 0) (g 1) (nI p) nD) i from if_pos c25] at ihx
          exact ihx _ _ hP hD hS _ (lv_sub hl [0, 1, 2] rfl)
        · refine lv_iload_n hx hb dX6_darkest_28 rfl (lv_at hl 0 rfl) ?_
          refine lv_istore_n (lv' := [(1, .int (nI i)), (2, .int (nI i)), (0, .ref m0)]) hx hb dX6_darkest_29 rfl hl (by decide) rfl (fun ls hl => ?_)
          refine lv_iinc (v := nI (i + 1)) (lv' := [(2, .int (nI (i + 1))), (1, .int (nI i)), (0, .ref m0)]) hx hb dX6_darkest_30 hl (k := 1) rfl (nI_inc i) (by decide) rfl (fun ls hl => ?_)
          refine lv_goto (tgt := 9) hx hb dX6_darkest_33 (by decide) ?_
          have ihx := ih9 (i + 1)  (by omega) (by omega)
          rw [show dkB (fun p => glS (g 0) (g 1) (nI p) nD) (i + 1) = i from if_neg c25] at ihx
          exact ihx _ _ hP hD hS _ (lv_sub hl [0, 1, 2] rfl)
  have hl : lv_has ls 3 [(2, .int 1), (1, .int (nI (dkB (fun p => glS (g 0) (g 1) (nI p) nD) 1))), (0, .ref m0)] := by rw [dkB_1]; exact hl
  exact key9 (12 + 1) 1  (by omega) (by omega)  _ _ hP hD hS _ (lv_sub hl [0, 1, 2] rfl)

theorem mX6_digest_f25 : (.fieldLink RX6 25 "StarConsoleModel" "thrown" "I" : Cond) ∈ wsX6_digest := by decide +kernel
theorem iX6_digest_X6 : ∀ w ∈ wsX60, w ∈ wsX6_digest := by decide +kernel
theorem mX6_digest_k126 : (.constantLong RX6 126 (1109) : Cond) ∈ wsX6_digest := by decide +kernel
theorem mX6_digest_k128 : (.constantLong RX6 128 (31) : Cond) ∈ wsX6_digest := by decide +kernel
theorem mX6_digest_f29 : (.fieldLink RX6 29 "StarConsoleModel" "dimmers" "I" : Cond) ∈ wsX6_digest := by decide +kernel
theorem mX6_digest_f9 : (.fieldLink RX6 9 "StarConsoleModel" "lamps" "[I" : Cond) ∈ wsX6_digest := by decide +kernel
theorem mX6_digest_f58 : (.fieldLink RX6 58 "StarConsoleModel" "stars" "I" : Cond) ∈ wsX6_digest := by decide +kernel
theorem mX6_digest_f22 : (.fieldLink RX6 22 "StarConsoleModel" "numbers" "[I" : Cond) ∈ wsX6_digest := by decide +kernel
theorem mX6_digest_f64 : (.fieldLink RX6 64 "StarConsoleModel" "cues" "I" : Cond) ∈ wsX6_digest := by decide +kernel
theorem mX6_digest_f19 : (.fieldLink RX6 19 "StarConsoleModel" "show" "[I" : Cond) ∈ wsX6_digest := by decide +kernel
set_option maxHeartbeats 4000000 in
set_option maxRecDepth 100000 in
theorem tX6_digest_s6 (l : Launch) (D : va_G) (cI : ClassId) (m0 m1 m2 m3 m4 m5 nD nT nC : Nat) (th : Int32) (st cu : Mx) (S : SH) (hn : nD ≤ 8) (hT : nT ≤ 20) (ht : tOK nT st) (hO : SOK nD S) (hC : nC ≤ 24) (p : Program) (e : Env) (s : State) (m : MethodId) (below : List Frame) (meth : Method) (c : Code) (A : Nat → Prop) (fx : FX p s m meth c cX6_digest 5 (some .long) ([.ref m0] : List Value) wsX6_digest yX6_digest D cI A [(m0, .inr (6, [.int th, .int (nI nD), .int (nI nT), .int (nI nC), .ref m1, .ref m2, .ref m3, .ref m4, .ref m5])), (m1, .inl (cI, 40, .inl (fl 5 S.2.1))), (m2, .inl (cI, 40, .inl (fl 2 st))), (m3, .inl (cI, 36, .inl (fl 3 S.2.2.2))), (m4, .inl (cI, 96, .inl (fl 4 cu))), (m5, .inl (cI, 8, .inl (numA S.1 S.2.2.1)))]) (H : Heap) (locs : List Loc) (hP : va_P D vwCl [(m0, .inr (6, [.int 0, .int (nI nD), .int (nI nT), .int (nI nC), .ref m1, .ref m2, .ref m3, .ref m4, .ref m5])), (m1, .inl (cI, 40, .inl (fl 5 S.2.1))), (m2, .inl (cI, 40, .inl (fl 2 st))), (m3, .inl (cI, 36, .inl (fl 3 S.2.2.2))), (m4, .inl (cI, 96, .inl (fl 4 cu))), (m5, .inl (cI, 8, .inl (numA S.1 S.2.2.1)))] H) (hD : va_D A [(m0, .inr (6, [.int 0, .int (nI nD), .int (nI nT), .int (nI nC), .ref m1, .ref m2, .ref m3, .ref m4, .ref m5])), (m1, .inl (cI, 40, .inl (fl 5 S.2.1))), (m2, .inl (cI, 40, .inl (fl 2 st))), (m3, .inl (cI, 36, .inl (fl 3 S.2.2.2))), (m4, .inl (cI, 96, .inl (fl 4 cu))), (m5, .inl (cI, 8, .inl (numA S.1 S.2.2.1)))]) (hS : va_S A s.heap H locs) (ls : Array Slot) (hl : lv_has ls 5 [(1, .long (jM (fun i w => fcK nD S.2.1 S.2.2.2 i (nI w)) 4 (S.2.2.1) (jM (fun i w => fcS nD S.2.1 st (S.1 5) i (nI w)) 4 nT (jM (fun i w => S.2.1 w i) 5 nD (jN (fun p => glS (S.2.1 0) (S.2.1 1) (nI p) nD) 12 (jN (fun w => fcN nD nT nC st S (nI w)) 13 1109)))))), (0, .ref m0)]) : W p l e ({ frames := 5, cells := 0, slots := 0, locals := 113 } : Room) s m ([.ref m0] : List Value).toArray below meth c H locs 0 0 (MQ below (poL D A [(m0, .inr (6, [.int 0, .int (nI nD), .int (nI nT), .int (nI nC), .ref m1, .ref m2, .ref m3, .ref m4, .ref m5])), (m1, .inl (cI, 40, .inl (fl 5 S.2.1))), (m2, .inl (cI, 40, .inl (fl 2 st))), (m3, .inl (cI, 36, .inl (fl 3 S.2.2.2))), (m4, .inl (cI, 96, .inl (fl 4 cu))), (m5, .inl (cI, 8, .inl (numA S.1 S.2.2.1)))] (dgF nD nT nC st cu S)) ([.ref m0] : List Value).toArray s 0 0 A) (F0 m 190 ls []) := by
  have fx0 := fx
  obtain ⟨hx, hb, hr, hml, hown, hts, hlocks, hk, hP0, hD0, hA⟩ := fx
  have hown : s.vm.findClass RX6 = some m.cls := hown
  refine lv_iconst (v := 0) hx hb dX6_digest_190 (by decide) ?_
  refine lv_istore_n (lv' := [(3, .int 0), (1, .long (jM (fun i w => fcK nD S.2.1 S.2.2.2 i (nI w)) 4 (S.2.2.1) (jM (fun i w => fcS nD S.2.1 st (S.1 5) i (nI w)) 4 nT (jM (fun i w => S.2.1 w i) 5 nD (jN (fun p => glS (S.2.1 0) (S.2.1 1) (nI p) nD) 12 (jN (fun w => fcN nD nT nC st S (nI w)) 13 1109)))))), (0, .ref m0)]) hx hb dX6_digest_191 rfl hl (by decide) rfl (fun ls hl => ?_)
  have key192 : ∀ (ku192 : Nat) (ia : Nat), ia ≤ 4 * nC → 4 * nC - ia < ku192 → ∀ (H : Heap) (locs : List Loc), va_P D vwCl [(m0, .inr (6, [.int 0, .int (nI nD), .int (nI nT), .int (nI nC), .ref m1, .ref m2, .ref m3, .ref m4, .ref m5])), (m1, .inl (cI, 40, .inl (fl 5 S.2.1))), (m2, .inl (cI, 40, .inl (fl 2 st))), (m3, .inl (cI, 36, .inl (fl 3 S.2.2.2))), (m4, .inl (cI, 96, .inl (fl 4 cu))), (m5, .inl (cI, 8, .inl (numA S.1 S.2.2.1)))] H → va_D A [(m0, .inr (6, [.int 0, .int (nI nD), .int (nI nT), .int (nI nC), .ref m1, .ref m2, .ref m3, .ref m4, .ref m5])), (m1, .inl (cI, 40, .inl (fl 5 S.2.1))), (m2, .inl (cI, 40, .inl (fl 2 st))), (m3, .inl (cI, 36, .inl (fl 3 S.2.2.2))), (m4, .inl (cI, 96, .inl (fl 4 cu))), (m5, .inl (cI, 8, .inl (numA S.1 S.2.2.1)))] → va_S A s.heap H locs → ∀ ls : Array Slot, lv_has ls 5 [(3, .int (nI ia)), (1, .long (jN (fl 4 cu) ia (jM (fun i w => fcK nD S.2.1 S.2.2.2 i (nI w)) 4 S.2.2.1 (jM (fun i w => fcS nD S.2.1 st (S.1 5) i (nI w)) 4 nT (jM (fun i w => S.2.1 w i) 5 nD (jN (fun p => glS (S.2.1 0) (S.2.1 1) (nI p) nD) 12 (jN (fun w => fcN nD nT nC st S (nI w)) 13 1109))))))), (0, .ref m0)] → W p l e ({ frames := 5, cells := 0, slots := 0, locals := 113 } : Room) s m ([.ref m0] : List Value).toArray below meth c H locs 0 0 (MQ below (poL D A [(m0, .inr (6, [.int 0, .int (nI nD), .int (nI nT), .int (nI nC), .ref m1, .ref m2, .ref m3, .ref m4, .ref m5])), (m1, .inl (cI, 40, .inl (fl 5 S.2.1))), (m2, .inl (cI, 40, .inl (fl 2 st))), (m3, .inl (cI, 36, .inl (fl 3 S.2.2.2))), (m4, .inl (cI, 96, .inl (fl 4 cu))), (m5, .inl (cI, 8, .inl (numA S.1 S.2.2.1)))] (dgF nD nT nC st cu S)) ([.ref m0] : List Value).toArray s 0 0 A) (F0 m 192 ls []) := by
    intro ku192
    induction ku192 with
    | zero => intro ia; intros; omega
    | succ ku192 ih192 =>
      intro ia  hi192 hm192  H locs hP hD hS ls hl
      refine lv_iload_n hx hb dX6_digest_192 rfl (lv_at hl 0 rfl) ?_
      refine lv_iconst (v := 4) hx hb dX6_digest_193 (by decide) ?_
      refine lv_aload_n hx hb dX6_digest_194 rfl (lv_at hl 2 rfl) ?_
      refine va_get (D := D) (ci := 6) (v := .int (nI nC)) (C := RX6) (T := TX6) (N := 9) hx hb hts iX6_digest_X6 hown hk.1 hP 0 rfl rfl 3 (by decide) (hts _ mX6_digest_f64) (fun _ h9 => h9) rfl dX6_digest_195 ?_
      refine lv_imul hx hb dX6_digest_198 ?_
      refine top_int (nmulE (a := 4) (b := nC) rfl rfl) ?_
      refine icgeN (i := ia) (n := 4 * nC) (tgt := 222) hx hb (by omega) (by omega) dX6_digest_199 (by decide) (fun c199 => ?_) (fun c199 => ?_)
      · obtain rfl : 4 * nC = ia := by omega
        have hl : lv_has ls 5 [(3, .int (nI (4 * nC))), (1, .long (dgF nD nT nC st cu S)), (0, .ref m0)] := by rw [← show jN (fl 4 cu) (4 * nC) _ = dgF nD nT nC st cu S from jN_fl 4 cu (by decide) _ nC]; exact hl
        refine lv_lload_n hx hb dX6_digest_222 rfl (lv_at hl 1 rfl) ?_
        exact retL hx hb hr hlocks hS hP hD dX6_digest_223 (rfl)
      · refine lv_lload_n hx hb dX6_digest_202 rfl (lv_at hl 1 rfl) ?_
        refine lv_ldc2 hx hb hown (hts _ mX6_digest_k128) dX6_digest_203 ?_
        refine lv_lmul hx hb dX6_digest_206 ?_
        refine lv_aload_n hx hb dX6_digest_207 rfl (lv_at hl 2 rfl) ?_
        refine va_get (D := D) (ci := 6) (v := .ref m4) (C := RX6) (T := TX6) (N := 9) hx hb hts iX6_digest_X6 hown hk.1 hP 0 rfl rfl 7 (by decide) (hts _ mX6_digest_f19) (fun _ h9 => h9) rfl dX6_digest_208 ?_
        refine lv_iload_n hx hb dX6_digest_211 rfl (lv_at hl 0 rfl) ?_
        refine aldN hx hb hk hP 4 rfl ia rfl (by omega) (Nat.le_of_ble_eq_true rfl) dX6_digest_212 ?_
        refine lv_i2l hx hb dX6_digest_213 rfl ?_
        refine lv_ladd hx hb dX6_digest_214 ?_
        refine lv_lstore_n (lv' := [(1, .long ((((jN (fl 4 cu) ia (jM (fun i w => fcK nD S.2.1 S.2.2.2 i (nI w)) 4 S.2.2.1 (jM (fun i w => fcS nD S.2.1 st (S.1 5) i (nI w)) 4 nT (jM (fun i w => S.2.1 w i) 5 nD (jN (fun p => glS (S.2.1 0) (S.2.1 1) (nI p) nD) 12 (jN (fun w => fcN nD nT nC st S (nI w)) 13 1109)))))) * 31)) + ((((fl 4 cu) ia).toInt64)))), (3, .int (nI ia)), (0, .ref m0)]) hx hb dX6_digest_215 rfl hl (by decide) rfl (fun ls hl => ?_)
        refine lv_iinc (v := nI (ia + 1)) (lv' := [(3, .int (nI (ia + 1))), (1, .long ((((jN (fl 4 cu) ia (jM (fun i w => fcK nD S.2.1 S.2.2.2 i (nI w)) 4 S.2.2.1 (jM (fun i w => fcS nD S.2.1 st (S.1 5) i (nI w)) 4 nT (jM (fun i w => S.2.1 w i) 5 nD (jN (fun p => glS (S.2.1 0) (S.2.1 1) (nI p) nD) 12 (jN (fun w => fcN nD nT nC st S (nI w)) 13 1109)))))) * 31)) + ((((fl 4 cu) ia).toInt64)))), (0, .ref m0)]) hx hb dX6_digest_216 hl (k := 1) rfl (nI_inc ia) (by decide) rfl (fun ls hl => ?_)
        refine lv_goto (tgt := 192) hx hb dX6_digest_219 (by decide) ?_
        exact ih192 (ia + 1)  (by omega) (by omega)  _ _ hP hD hS _ (lv_sub hl [0, 1, 2] rfl)
  have hl : lv_has ls 5 [(3, .int 0), (1, .long (jN (fl 4 cu) 0 (jM (fun i w => fcK nD S.2.1 S.2.2.2 i (nI w)) 4 S.2.2.1 (jM (fun i w => fcS nD S.2.1 st (S.1 5) i (nI w)) 4 nT (jM (fun i w => S.2.1 w i) 5 nD (jN (fun p => glS (S.2.1 0) (S.2.1 1) (nI p) nD) 12 (jN (fun w => fcN nD nT nC st S (nI w)) 13 1109))))))), (0, .ref m0)] := by rw [jN_0 (fl 4 cu)]; exact hl
  exact key192 (4 * nC + 1) 0  (by omega) (by omega)  _ _ hP hD hS _ (lv_sub hl [0, 1, 2] rfl)
set_option maxHeartbeats 4000000 in
set_option maxRecDepth 100000 in
theorem tX6_digest_s5 (l : Launch) (D : va_G) (cI : ClassId) (m0 m1 m2 m3 m4 m5 nD nT nC : Nat) (th : Int32) (st cu : Mx) (S : SH) (hn : nD ≤ 8) (hT : nT ≤ 20) (ht : tOK nT st) (hO : SOK nD S) (hC : nC ≤ 24) (p : Program) (e : Env) (s : State) (m : MethodId) (below : List Frame) (meth : Method) (c : Code) (A : Nat → Prop) (fx : FX p s m meth c cX6_digest 5 (some .long) ([.ref m0] : List Value) wsX6_digest yX6_digest D cI A [(m0, .inr (6, [.int th, .int (nI nD), .int (nI nT), .int (nI nC), .ref m1, .ref m2, .ref m3, .ref m4, .ref m5])), (m1, .inl (cI, 40, .inl (fl 5 S.2.1))), (m2, .inl (cI, 40, .inl (fl 2 st))), (m3, .inl (cI, 36, .inl (fl 3 S.2.2.2))), (m4, .inl (cI, 96, .inl (fl 4 cu))), (m5, .inl (cI, 8, .inl (numA S.1 S.2.2.1)))]) (H : Heap) (locs : List Loc) (hP : va_P D vwCl [(m0, .inr (6, [.int 0, .int (nI nD), .int (nI nT), .int (nI nC), .ref m1, .ref m2, .ref m3, .ref m4, .ref m5])), (m1, .inl (cI, 40, .inl (fl 5 S.2.1))), (m2, .inl (cI, 40, .inl (fl 2 st))), (m3, .inl (cI, 36, .inl (fl 3 S.2.2.2))), (m4, .inl (cI, 96, .inl (fl 4 cu))), (m5, .inl (cI, 8, .inl (numA S.1 S.2.2.1)))] H) (hD : va_D A [(m0, .inr (6, [.int 0, .int (nI nD), .int (nI nT), .int (nI nC), .ref m1, .ref m2, .ref m3, .ref m4, .ref m5])), (m1, .inl (cI, 40, .inl (fl 5 S.2.1))), (m2, .inl (cI, 40, .inl (fl 2 st))), (m3, .inl (cI, 36, .inl (fl 3 S.2.2.2))), (m4, .inl (cI, 96, .inl (fl 4 cu))), (m5, .inl (cI, 8, .inl (numA S.1 S.2.2.1)))]) (hS : va_S A s.heap H locs) (ls : Array Slot) (hl : lv_has ls 5 [(1, .long (jM (fun i w => fcS nD S.2.1 st (S.1 5) i (nI w)) 4 (nT) (jM (fun i w => S.2.1 w i) 5 nD (jN (fun p => glS (S.2.1 0) (S.2.1 1) (nI p) nD) 12 (jN (fun w => fcN nD nT nC st S (nI w)) 13 1109))))), (0, .ref m0)]) : W p l e ({ frames := 5, cells := 0, slots := 0, locals := 113 } : Room) s m ([.ref m0] : List Value).toArray below meth c H locs 0 0 (MQ below (poL D A [(m0, .inr (6, [.int 0, .int (nI nD), .int (nI nT), .int (nI nC), .ref m1, .ref m2, .ref m3, .ref m4, .ref m5])), (m1, .inl (cI, 40, .inl (fl 5 S.2.1))), (m2, .inl (cI, 40, .inl (fl 2 st))), (m3, .inl (cI, 36, .inl (fl 3 S.2.2.2))), (m4, .inl (cI, 96, .inl (fl 4 cu))), (m5, .inl (cI, 8, .inl (numA S.1 S.2.2.1)))] (dgF nD nT nC st cu S)) ([.ref m0] : List Value).toArray s 0 0 A) (F0 m 141 ls []) := by
  have fx0 := fx
  obtain ⟨hx, hb, hr, hml, hown, hts, hlocks, hk, hP0, hD0, hA⟩ := fx
  have hown : s.vm.findClass RX6 = some m.cls := hown
  refine lv_iconst (v := 0) hx hb dX6_digest_141 (by decide) ?_
  refine lv_istore_n (lv' := [(3, .int 0), (1, .long (jM (fun i w => fcS nD S.2.1 st (S.1 5) i (nI w)) 4 (nT) (jM (fun i w => S.2.1 w i) 5 nD (jN (fun p => glS (S.2.1 0) (S.2.1 1) (nI p) nD) 12 (jN (fun w => fcN nD nT nC st S (nI w)) 13 1109))))), (0, .ref m0)]) hx hb dX6_digest_142 rfl hl (by decide) rfl (fun ls hl => ?_)
  have key143 : ∀ (ku143 : Nat) (ia : Nat), ia ≤ S.2.2.1 → S.2.2.1 - ia < ku143 → ∀ (H : Heap) (locs : List Loc), va_P D vwCl [(m0, .inr (6, [.int 0, .int (nI nD), .int (nI nT), .int (nI nC), .ref m1, .ref m2, .ref m3, .ref m4, .ref m5])), (m1, .inl (cI, 40, .inl (fl 5 S.2.1))), (m2, .inl (cI, 40, .inl (fl 2 st))), (m3, .inl (cI, 36, .inl (fl 3 S.2.2.2))), (m4, .inl (cI, 96, .inl (fl 4 cu))), (m5, .inl (cI, 8, .inl (numA S.1 S.2.2.1)))] H → va_D A [(m0, .inr (6, [.int 0, .int (nI nD), .int (nI nT), .int (nI nC), .ref m1, .ref m2, .ref m3, .ref m4, .ref m5])), (m1, .inl (cI, 40, .inl (fl 5 S.2.1))), (m2, .inl (cI, 40, .inl (fl 2 st))), (m3, .inl (cI, 36, .inl (fl 3 S.2.2.2))), (m4, .inl (cI, 96, .inl (fl 4 cu))), (m5, .inl (cI, 8, .inl (numA S.1 S.2.2.1)))] → va_S A s.heap H locs → ∀ ls : Array Slot, lv_has ls 5 [(3, .int (nI ia)), (1, .long (jM (fun i w => fcK nD S.2.1 S.2.2.2 i (nI w)) 4 ia (jM (fun i w => fcS nD S.2.1 st (S.1 5) i (nI w)) 4 nT (jM (fun i w => S.2.1 w i) 5 nD (jN (fun p => glS (S.2.1 0) (S.2.1 1) (nI p) nD) 12 (jN (fun w => fcN nD nT nC st S (nI w)) 13 1109)))))), (0, .ref m0)] → W p l e ({ frames := 5, cells := 0, slots := 0, locals := 113 } : Room) s m ([.ref m0] : List Value).toArray below meth c H locs 0 0 (MQ below (poL D A [(m0, .inr (6, [.int 0, .int (nI nD), .int (nI nT), .int (nI nC), .ref m1, .ref m2, .ref m3, .ref m4, .ref m5])), (m1, .inl (cI, 40, .inl (fl 5 S.2.1))), (m2, .inl (cI, 40, .inl (fl 2 st))), (m3, .inl (cI, 36, .inl (fl 3 S.2.2.2))), (m4, .inl (cI, 96, .inl (fl 4 cu))), (m5, .inl (cI, 8, .inl (numA S.1 S.2.2.1)))] (dgF nD nT nC st cu S)) ([.ref m0] : List Value).toArray s 0 0 A) (F0 m 143 ls []) := by
    intro ku143
    induction ku143 with
    | zero => intro ia; intros; omega
    | succ ku143 ih143 =>
      intro ia  hi143 hm143  H locs hP hD hS ls hl
      have hK12 := hO.1
      refine lv_iload_n hx hb dX6_digest_143 rfl (lv_at hl 0 rfl) ?_
      refine lv_aload_n hx hb dX6_digest_144 rfl (lv_at hl 2 rfl) ?_
      refine va_get (D := D) (ci := 6) (v := .ref m5) (C := RX6) (T := TX6) (N := 9) hx hb hts iX6_digest_X6 hown hk.1 hP 0 rfl rfl 8 (by decide) (hts _ mX6_digest_f22) (fun _ h9 => h9) rfl dX6_digest_145 ?_
      refine lv_bipush (v := 7) hx hb dX6_digest_148 (by decide) ?_
      refine aldN hx hb hk hP 5 rfl 7 rfl (by omega) (Nat.le_of_ble_eq_true rfl) dX6_digest_150 ?_
      refine top_int (show _ = (nI S.2.2.1 : Int32) from rfl) ?_
      refine icgeN (i := ia) (n := S.2.2.1) (tgt := 190) hx hb (by omega) (by omega) dX6_digest_151 (by decide) (fun c151 => ?_) (fun c151 => ?_)
      · obtain rfl : S.2.2.1 = ia := by omega
        exact tX6_digest_s6 l D cI m0 m1 m2 m3 m4 m5 nD nT nC th st cu S hn hT ht hO hC p e s m below meth c A fx0 _ _ hP hD hS _ (lv_sub hl [1, 2] rfl)
      · refine lv_iconst (v := 0) hx hb dX6_digest_154 (by decide) ?_
        refine lv_istore (lv' := [(4, .int 0), (3, .int (nI ia)), (1, .long (jM (fun i w => fcK nD S.2.1 S.2.2.2 i (nI w)) 4 ia (jM (fun i w => fcS nD S.2.1 st (S.1 5) i (nI w)) 4 nT (jM (fun i w => S.2.1 w i) 5 nD (jN (fun p => glS (S.2.1 0) (S.2.1 1) (nI p) nD) 12 (jN (fun w => fcN nD nT nC st S (nI w)) 13 1109)))))), (0, .ref m0)]) hx hb dX6_digest_155 hl (by decide) rfl (fun ls hl => ?_)
        have key157 : ∀ (ku157 : Nat) (j : Nat), j ≤ 4 → 4 - j < ku157 → ∀ (H : Heap) (locs : List Loc), va_P D vwCl [(m0, .inr (6, [.int 0, .int (nI nD), .int (nI nT), .int (nI nC), .ref m1, .ref m2, .ref m3, .ref m4, .ref m5])), (m1, .inl (cI, 40, .inl (fl 5 S.2.1))), (m2, .inl (cI, 40, .inl (fl 2 st))), (m3, .inl (cI, 36, .inl (fl 3 S.2.2.2))), (m4, .inl (cI, 96, .inl (fl 4 cu))), (m5, .inl (cI, 8, .inl (numA S.1 S.2.2.1)))] H → va_D A [(m0, .inr (6, [.int 0, .int (nI nD), .int (nI nT), .int (nI nC), .ref m1, .ref m2, .ref m3, .ref m4, .ref m5])), (m1, .inl (cI, 40, .inl (fl 5 S.2.1))), (m2, .inl (cI, 40, .inl (fl 2 st))), (m3, .inl (cI, 36, .inl (fl 3 S.2.2.2))), (m4, .inl (cI, 96, .inl (fl 4 cu))), (m5, .inl (cI, 8, .inl (numA S.1 S.2.2.1)))] → va_S A s.heap H locs → ∀ ls : Array Slot, lv_has ls 5 [(4, .int (nI j)), (3, .int (nI ia)), (1, .long (jN ((fun i w => fcK nD S.2.1 S.2.2.2 i (nI w)) ia) j (jM (fun i w => fcK nD S.2.1 S.2.2.2 i (nI w)) 4 ia (jM (fun i w => fcS nD S.2.1 st (S.1 5) i (nI w)) 4 nT (jM (fun i w => S.2.1 w i) 5 nD (jN (fun p => glS (S.2.1 0) (S.2.1 1) (nI p) nD) 12 (jN (fun w => fcN nD nT nC st S (nI w)) 13 1109))))))), (0, .ref m0)] → W p l e ({ frames := 5, cells := 0, slots := 0, locals := 113 } : Room) s m ([.ref m0] : List Value).toArray below meth c H locs 0 0 (MQ below (poL D A [(m0, .inr (6, [.int 0, .int (nI nD), .int (nI nT), .int (nI nC), .ref m1, .ref m2, .ref m3, .ref m4, .ref m5])), (m1, .inl (cI, 40, .inl (fl 5 S.2.1))), (m2, .inl (cI, 40, .inl (fl 2 st))), (m3, .inl (cI, 36, .inl (fl 3 S.2.2.2))), (m4, .inl (cI, 96, .inl (fl 4 cu))), (m5, .inl (cI, 8, .inl (numA S.1 S.2.2.1)))] (dgF nD nT nC st cu S)) ([.ref m0] : List Value).toArray s 0 0 A) (F0 m 157 ls []) := by
          intro ku157
          induction ku157 with
          | zero => intro j; intros; omega
          | succ ku157 ih157 =>
            intro j  hi157 hm157  H locs hP hD hS ls hl
            refine lv_iload hx hb dX6_digest_157 (lv_at hl 0 rfl) ?_
            refine lv_iconst (v := 4) hx hb dX6_digest_159 (by decide) ?_
            refine icgeN (i := j) (n := 4) (tgt := 184) hx hb (by omega) (by omega) dX6_digest_160 (by decide) (fun c160 => ?_) (fun c160 => ?_)
            · obtain rfl : j = 4 := by omega
              refine lv_iinc (v := nI (ia + 1)) (lv' := [(3, .int (nI (ia + 1))), (4, .int (nI 4)), (1, .long (jN ((fun i w => fcK nD S.2.1 S.2.2.2 i (nI w)) ia) 4 (jM (fun i w => fcK nD S.2.1 S.2.2.2 i (nI w)) 4 ia (jM (fun i w => fcS nD S.2.1 st (S.1 5) i (nI w)) 4 nT (jM (fun i w => S.2.1 w i) 5 nD (jN (fun p => glS (S.2.1 0) (S.2.1 1) (nI p) nD) 12 (jN (fun w => fcN nD nT nC st S (nI w)) 13 1109))))))), (0, .ref m0)]) hx hb dX6_digest_184 hl (k := 1) rfl (nI_inc ia) (by decide) rfl (fun ls hl => ?_)
              refine lv_goto (tgt := 143) hx hb dX6_digest_187 (by decide) ?_
              exact ih143 (ia + 1)  (by omega) (by omega)  _ _ hP hD hS _ (lv_sub hl [0, 2, 3] rfl)
            · refine lv_lload_n hx hb dX6_digest_163 rfl (lv_at hl 2 rfl) ?_
              refine lv_ldc2 hx hb hown (hts _ mX6_digest_k128) dX6_digest_164 ?_
              refine lv_lmul hx hb dX6_digest_167 ?_
              refine lv_aload_n hx hb dX6_digest_168 rfl (lv_at hl 3 rfl) ?_
              refine lv_iload_n hx hb dX6_digest_169 rfl (lv_at hl 1 rfl) ?_
              refine lv_iload hx hb dX6_digest_170 (lv_at hl 0 rfl) ?_
              refine frI (wc := [(m0, .inr (6, [.int 0, .int (nI nD), .int (nI nT), .int (nI nC), .ref m1, .ref m2, .ref m3, .ref m4, .ref m5])), (m1, .inl (cI, 40, .inl (fl 5 S.2.1))), (m3, .inl (cI, 36, .inl (fl 3 S.2.2.2)))]) (wc' := [(m0, .inr (6, [.int 0, .int (nI nD), .int (nI nT), .int (nI nC), .ref m1, .ref m2, .ref m3, .ref m4, .ref m5])), (m1, .inl (cI, 40, .inl (fl 5 S.2.1))), (m3, .inl (cI, 36, .inl (fl 3 S.2.2.2)))]) (w' := [(m0, .inr (6, [.int 0, .int (nI nD), .int (nI nT), .int (nI nC), .ref m1, .ref m2, .ref m3, .ref m4, .ref m5])), (m1, .inl (cI, 40, .inl (fl 5 S.2.1))), (m2, .inl (cI, 40, .inl (fl 2 st))), (m3, .inl (cI, 36, .inl (fl 3 S.2.2.2))), (m4, .inl (cI, 96, .inl (fl 4 cu))), (m5, .inl (cI, 8, .inl (numA S.1 S.2.2.1)))]) hP hD hS hA [0, 1, 3] [2, 4, 5] [3, 4, 0, 5, 1, 2] rfl rfl rfl rfl rfl (va_runV (As := [.int (nI ia), .int (nI j)]) (rest := [.long ((jN ((fun i w => fcK nD S.2.1 S.2.2.2 i (nI w)) ia) j (jM (fun i w => fcK nD S.2.1 S.2.2.2 i (nI w)) 4 ia (jM (fun i w => fcS nD S.2.1 st (S.1 5) i (nI w)) 4 nT (jM (fun i w => S.2.1 w i) 5 nD (jN (fun p => glS (S.2.1 0) (S.2.1 1) (nI p) nD) 12 (jN (fun w => fcN nD nT nC st S (nI w)) 13 1109)))))) * 31)]) ⟨hx, hb, hml, hown, hts⟩ (tX6_cometTold l D cI m0 m1 m2 m3 m4 m5 nD nT nC 0 S.2.1 S.2.2.2 ia j hn hO.2.1 (by omega) (hO.2.2.1 ia (by omega)).1 (by omega) _) (cwV 2 hts gX6_digest_X6_cometTold rfl rfl rfl hX6_cometTold ⟨Nat.le_of_ble_eq_true rfl, Nat.le_of_ble_eq_true rfl⟩) (preV_of hk hP hD [0, 1, 3] rfl rfl (recvO hk hP (ci := 6) (q0 := 0) rfl rfl)) rfl rfl hl.1 rfl (lv_room (Nat.le_of_ble_eq_true rfl)) dX6_digest_172 ⟨Nat.le_of_ble_eq_true rfl, Nat.le_of_ble_eq_true rfl⟩) (fun H locs hP hD hS => ?_)
              refine lv_i2l hx hb dX6_digest_175 rfl ?_
              refine lv_ladd hx hb dX6_digest_176 ?_
              refine lv_lstore_n (lv' := [(1, .long ((((jN ((fun i w => fcK nD S.2.1 S.2.2.2 i (nI w)) ia) j (jM (fun i w => fcK nD S.2.1 S.2.2.2 i (nI w)) 4 ia (jM (fun i w => fcS nD S.2.1 st (S.1 5) i (nI w)) 4 nT (jM (fun i w => S.2.1 w i) 5 nD (jN (fun p => glS (S.2.1 0) (S.2.1 1) (nI p) nD) 12 (jN (fun w => fcN nD nT nC st S (nI w)) 13 1109)))))) * 31)) + (((fcK nD S.2.1 S.2.2.2 ia (nI j)).toInt64)))), (4, .int (nI j)), (3, .int (nI ia)), (0, .ref m0)]) hx hb dX6_digest_177 rfl hl (by decide) rfl (fun ls hl => ?_)
              refine lv_iinc (v := nI (j + 1)) (lv' := [(4, .int (nI (j + 1))), (1, .long ((((jN ((fun i w => fcK nD S.2.1 S.2.2.2 i (nI w)) ia) j (jM (fun i w => fcK nD S.2.1 S.2.2.2 i (nI w)) 4 ia (jM (fun i w => fcS nD S.2.1 st (S.1 5) i (nI w)) 4 nT (jM (fun i w => S.2.1 w i) 5 nD (jN (fun p => glS (S.2.1 0) (S.2.1 1) (nI p) nD) 12 (jN (fun w => fcN nD nT nC st S (nI w)) 13 1109)))))) * 31)) + (((fcK nD S.2.1 S.2.2.2 ia (nI j)).toInt64)))), (3, .int (nI ia)), (0, .ref m0)]) hx hb dX6_digest_178 hl (k := 1) rfl (nI_inc j) (by decide) rfl (fun ls hl => ?_)
              refine lv_goto (tgt := 157) hx hb dX6_digest_181 (by decide) ?_
              exact ih157 (j + 1)  (by omega) (by omega)  _ _ hP hD hS _ (lv_sub hl [0, 2, 1, 3] rfl)
        exact key157 (4 + 1) 0  (by omega) (by omega)  _ _ hP hD hS _ (lv_sub hl [0, 1, 2, 3] rfl)
  have hK12 := hO.1
  have hl : lv_has ls 5 [(3, .int 0), (1, .long (jM (fun i w => fcK nD S.2.1 S.2.2.2 i (nI w)) 4 0 (jM (fun i w => fcS nD S.2.1 st (S.1 5) i (nI w)) 4 nT (jM (fun i w => S.2.1 w i) 5 nD (jN (fun p => glS (S.2.1 0) (S.2.1 1) (nI p) nD) 12 (jN (fun w => fcN nD nT nC st S (nI w)) 13 1109)))))), (0, .ref m0)] := by rw [jM_0 (fun i w => fcK nD S.2.1 S.2.2.2 i (nI w))]; exact hl
  exact key143 (S.2.2.1 + 1) 0  (by omega) (by omega)  _ _ hP hD hS _ (lv_sub hl [0, 1, 2] rfl)
set_option maxHeartbeats 4000000 in
set_option maxRecDepth 100000 in
theorem tX6_digest_s4 (l : Launch) (D : va_G) (cI : ClassId) (m0 m1 m2 m3 m4 m5 nD nT nC : Nat) (th : Int32) (st cu : Mx) (S : SH) (hn : nD ≤ 8) (hT : nT ≤ 20) (ht : tOK nT st) (hO : SOK nD S) (hC : nC ≤ 24) (p : Program) (e : Env) (s : State) (m : MethodId) (below : List Frame) (meth : Method) (c : Code) (A : Nat → Prop) (fx : FX p s m meth c cX6_digest 5 (some .long) ([.ref m0] : List Value) wsX6_digest yX6_digest D cI A [(m0, .inr (6, [.int th, .int (nI nD), .int (nI nT), .int (nI nC), .ref m1, .ref m2, .ref m3, .ref m4, .ref m5])), (m1, .inl (cI, 40, .inl (fl 5 S.2.1))), (m2, .inl (cI, 40, .inl (fl 2 st))), (m3, .inl (cI, 36, .inl (fl 3 S.2.2.2))), (m4, .inl (cI, 96, .inl (fl 4 cu))), (m5, .inl (cI, 8, .inl (numA S.1 S.2.2.1)))]) (H : Heap) (locs : List Loc) (hP : va_P D vwCl [(m0, .inr (6, [.int 0, .int (nI nD), .int (nI nT), .int (nI nC), .ref m1, .ref m2, .ref m3, .ref m4, .ref m5])), (m1, .inl (cI, 40, .inl (fl 5 S.2.1))), (m2, .inl (cI, 40, .inl (fl 2 st))), (m3, .inl (cI, 36, .inl (fl 3 S.2.2.2))), (m4, .inl (cI, 96, .inl (fl 4 cu))), (m5, .inl (cI, 8, .inl (numA S.1 S.2.2.1)))] H) (hD : va_D A [(m0, .inr (6, [.int 0, .int (nI nD), .int (nI nT), .int (nI nC), .ref m1, .ref m2, .ref m3, .ref m4, .ref m5])), (m1, .inl (cI, 40, .inl (fl 5 S.2.1))), (m2, .inl (cI, 40, .inl (fl 2 st))), (m3, .inl (cI, 36, .inl (fl 3 S.2.2.2))), (m4, .inl (cI, 96, .inl (fl 4 cu))), (m5, .inl (cI, 8, .inl (numA S.1 S.2.2.1)))]) (hS : va_S A s.heap H locs) (ls : Array Slot) (hl : lv_has ls 5 [(1, .long (jM (fun i w => S.2.1 w i) 5 nD (jN (fun p => glS (S.2.1 0) (S.2.1 1) (nI p) nD) 12 (jN (fun w => fcN nD nT nC st S (nI w)) 13 1109)))), (0, .ref m0)]) : W p l e ({ frames := 5, cells := 0, slots := 0, locals := 113 } : Room) s m ([.ref m0] : List Value).toArray below meth c H locs 0 0 (MQ below (poL D A [(m0, .inr (6, [.int 0, .int (nI nD), .int (nI nT), .int (nI nC), .ref m1, .ref m2, .ref m3, .ref m4, .ref m5])), (m1, .inl (cI, 40, .inl (fl 5 S.2.1))), (m2, .inl (cI, 40, .inl (fl 2 st))), (m3, .inl (cI, 36, .inl (fl 3 S.2.2.2))), (m4, .inl (cI, 96, .inl (fl 4 cu))), (m5, .inl (cI, 8, .inl (numA S.1 S.2.2.1)))] (dgF nD nT nC st cu S)) ([.ref m0] : List Value).toArray s 0 0 A) (F0 m 95 ls []) := by
  have fx0 := fx
  obtain ⟨hx, hb, hr, hml, hown, hts, hlocks, hk, hP0, hD0, hA⟩ := fx
  have hown : s.vm.findClass RX6 = some m.cls := hown
  refine lv_iconst (v := 0) hx hb dX6_digest_95 (by decide) ?_
  refine lv_istore_n (lv' := [(3, .int 0), (1, .long (jM (fun i w => S.2.1 w i) 5 nD (jN (fun p => glS (S.2.1 0) (S.2.1 1) (nI p) nD) 12 (jN (fun w => fcN nD nT nC st S (nI w)) 13 1109)))), (0, .ref m0)]) hx hb dX6_digest_96 rfl hl (by decide) rfl (fun ls hl => ?_)
  have key97 : ∀ (ku97 : Nat) (ia : Nat), ia ≤ nT → nT - ia < ku97 → ∀ (H : Heap) (locs : List Loc), va_P D vwCl [(m0, .inr (6, [.int 0, .int (nI nD), .int (nI nT), .int (nI nC), .ref m1, .ref m2, .ref m3, .ref m4, .ref m5])), (m1, .inl (cI, 40, .inl (fl 5 S.2.1))), (m2, .inl (cI, 40, .inl (fl 2 st))), (m3, .inl (cI, 36, .inl (fl 3 S.2.2.2))), (m4, .inl (cI, 96, .inl (fl 4 cu))), (m5, .inl (cI, 8, .inl (numA S.1 S.2.2.1)))] H → va_D A [(m0, .inr (6, [.int 0, .int (nI nD), .int (nI nT), .int (nI nC), .ref m1, .ref m2, .ref m3, .ref m4, .ref m5])), (m1, .inl (cI, 40, .inl (fl 5 S.2.1))), (m2, .inl (cI, 40, .inl (fl 2 st))), (m3, .inl (cI, 36, .inl (fl 3 S.2.2.2))), (m4, .inl (cI, 96, .inl (fl 4 cu))), (m5, .inl (cI, 8, .inl (numA S.1 S.2.2.1)))] → va_S A s.heap H locs → ∀ ls : Array Slot, lv_has ls 5 [(3, .int (nI ia)), (1, .long (jM (fun i w => fcS nD S.2.1 st (S.1 5) i (nI w)) 4 ia (jM (fun i w => S.2.1 w i) 5 nD (jN (fun p => glS (S.2.1 0) (S.2.1 1) (nI p) nD) 12 (jN (fun w => fcN nD nT nC st S (nI w)) 13 1109))))), (0, .ref m0)] → W p l e ({ frames := 5, cells := 0, slots := 0, locals := 113 } : Room) s m ([.ref m0] : List Value).toArray below meth c H locs 0 0 (MQ below (poL D A [(m0, .inr (6, [.int 0, .int (nI nD), .int (nI nT), .int (nI nC), .ref m1, .ref m2, .ref m3, .ref m4, .ref m5])), (m1, .inl (cI, 40, .inl (fl 5 S.2.1))), (m2, .inl (cI, 40, .inl (fl 2 st))), (m3, .inl (cI, 36, .inl (fl 3 S.2.2.2))), (m4, .inl (cI, 96, .inl (fl 4 cu))), (m5, .inl (cI, 8, .inl (numA S.1 S.2.2.1)))] (dgF nD nT nC st cu S)) ([.ref m0] : List Value).toArray s 0 0 A) (F0 m 97 ls []) := by
    intro ku97
    induction ku97 with
    | zero => intro ia; intros; omega
    | succ ku97 ih97 =>
      intro ia  hi97 hm97  H locs hP hD hS ls hl
      refine lv_iload_n hx hb dX6_digest_97 rfl (lv_at hl 0 rfl) ?_
      refine lv_aload_n hx hb dX6_digest_98 rfl (lv_at hl 2 rfl) ?_
      refine va_get (D := D) (ci := 6) (v := .int (nI nT)) (C := RX6) (T := TX6) (N := 9) hx hb hts iX6_digest_X6 hown hk.1 hP 0 rfl rfl 2 (by decide) (hts _ mX6_digest_f58) (fun _ h9 => h9) rfl dX6_digest_99 ?_
      refine icgeN (i := ia) (n := nT) (tgt := 141) hx hb (by omega) (by omega) dX6_digest_102 (by decide) (fun c102 => ?_) (fun c102 => ?_)
      · obtain rfl : nT = ia := by omega
        exact tX6_digest_s5 l D cI m0 m1 m2 m3 m4 m5 nD nT nC th st cu S hn hT ht hO hC p e s m below meth c A fx0 _ _ hP hD hS _ (lv_sub hl [1, 2] rfl)
      · refine lv_iconst (v := 0) hx hb dX6_digest_105 (by decide) ?_
        refine lv_istore (lv' := [(4, .int 0), (3, .int (nI ia)), (1, .long (jM (fun i w => fcS nD S.2.1 st (S.1 5) i (nI w)) 4 ia (jM (fun i w => S.2.1 w i) 5 nD (jN (fun p => glS (S.2.1 0) (S.2.1 1) (nI p) nD) 12 (jN (fun w => fcN nD nT nC st S (nI w)) 13 1109))))), (0, .ref m0)]) hx hb dX6_digest_106 hl (by decide) rfl (fun ls hl => ?_)
        have key108 : ∀ (ku108 : Nat) (j : Nat), j ≤ 4 → 4 - j < ku108 → ∀ (H : Heap) (locs : List Loc), va_P D vwCl [(m0, .inr (6, [.int 0, .int (nI nD), .int (nI nT), .int (nI nC), .ref m1, .ref m2, .ref m3, .ref m4, .ref m5])), (m1, .inl (cI, 40, .inl (fl 5 S.2.1))), (m2, .inl (cI, 40, .inl (fl 2 st))), (m3, .inl (cI, 36, .inl (fl 3 S.2.2.2))), (m4, .inl (cI, 96, .inl (fl 4 cu))), (m5, .inl (cI, 8, .inl (numA S.1 S.2.2.1)))] H → va_D A [(m0, .inr (6, [.int 0, .int (nI nD), .int (nI nT), .int (nI nC), .ref m1, .ref m2, .ref m3, .ref m4, .ref m5])), (m1, .inl (cI, 40, .inl (fl 5 S.2.1))), (m2, .inl (cI, 40, .inl (fl 2 st))), (m3, .inl (cI, 36, .inl (fl 3 S.2.2.2))), (m4, .inl (cI, 96, .inl (fl 4 cu))), (m5, .inl (cI, 8, .inl (numA S.1 S.2.2.1)))] → va_S A s.heap H locs → ∀ ls : Array Slot, lv_has ls 5 [(4, .int (nI j)), (3, .int (nI ia)), (1, .long (jN ((fun i w => fcS nD S.2.1 st (S.1 5) i (nI w)) ia) j (jM (fun i w => fcS nD S.2.1 st (S.1 5) i (nI w)) 4 ia (jM (fun i w => S.2.1 w i) 5 nD (jN (fun p => glS (S.2.1 0) (S.2.1 1) (nI p) nD) 12 (jN (fun w => fcN nD nT nC st S (nI w)) 13 1109)))))), (0, .ref m0)] → W p l e ({ frames := 5, cells := 0, slots := 0, locals := 113 } : Room) s m ([.ref m0] : List Value).toArray below meth c H locs 0 0 (MQ below (poL D A [(m0, .inr (6, [.int 0, .int (nI nD), .int (nI nT), .int (nI nC), .ref m1, .ref m2, .ref m3, .ref m4, .ref m5])), (m1, .inl (cI, 40, .inl (fl 5 S.2.1))), (m2, .inl (cI, 40, .inl (fl 2 st))), (m3, .inl (cI, 36, .inl (fl 3 S.2.2.2))), (m4, .inl (cI, 96, .inl (fl 4 cu))), (m5, .inl (cI, 8, .inl (numA S.1 S.2.2.1)))] (dgF nD nT nC st cu S)) ([.ref m0] : List Value).toArray s 0 0 A) (F0 m 108 ls []) := by
          intro ku108
          induction ku108 with
          | zero => intro j; intros; omega
          | succ ku108 ih108 =>
            intro j  hi108 hm108  H locs hP hD hS ls hl
            refine lv_iload hx hb dX6_digest_108 (lv_at hl 0 rfl) ?_
            refine lv_iconst (v := 4) hx hb dX6_digest_110 (by decide) ?_
            refine icgeN (i := j) (n := 4) (tgt := 135) hx hb (by omega) (by omega) dX6_digest_111 (by decide) (fun c111 => ?_) (fun c111 => ?_)
            · obtain rfl : j = 4 := by omega
              refine lv_iinc (v := nI (ia + 1)) (lv' := [(3, .int (nI (ia + 1))), (4, .int (nI 4)), (1, .long (jN ((fun i w => fcS nD S.2.1 st (S.1 5) i (nI w)) ia) 4 (jM (fun i w => fcS nD S.2.1 st (S.1 5) i (nI w)) 4 ia (jM (fun i w => S.2.1 w i) 5 nD (jN (fun p => glS (S.2.1 0) (S.2.1 1) (nI p) nD) 12 (jN (fun w => fcN nD nT nC st S (nI w)) 13 1109)))))), (0, .ref m0)]) hx hb dX6_digest_135 hl (k := 1) rfl (nI_inc ia) (by decide) rfl (fun ls hl => ?_)
              refine lv_goto (tgt := 97) hx hb dX6_digest_138 (by decide) ?_
              exact ih97 (ia + 1)  (by omega) (by omega)  _ _ hP hD hS _ (lv_sub hl [0, 2, 3] rfl)
            · refine lv_lload_n hx hb dX6_digest_114 rfl (lv_at hl 2 rfl) ?_
              refine lv_ldc2 hx hb hown (hts _ mX6_digest_k128) dX6_digest_115 ?_
              refine lv_lmul hx hb dX6_digest_118 ?_
              refine lv_aload_n hx hb dX6_digest_119 rfl (lv_at hl 3 rfl) ?_
              refine lv_iload_n hx hb dX6_digest_120 rfl (lv_at hl 1 rfl) ?_
              refine lv_iload hx hb dX6_digest_121 (lv_at hl 0 rfl) ?_
              refine frI (wc := [(m0, .inr (6, [.int 0, .int (nI nD), .int (nI nT), .int (nI nC), .ref m1, .ref m2, .ref m3, .ref m4, .ref m5])), (m1, .inl (cI, 40, .inl (fl 5 S.2.1))), (m2, .inl (cI, 40, .inl (fl 2 st))), (m5, .inl (cI, 8, .inl (numA S.1 S.2.2.1)))]) (wc' := [(m0, .inr (6, [.int 0, .int (nI nD), .int (nI nT), .int (nI nC), .ref m1, .ref m2, .ref m3, .ref m4, .ref m5])), (m1, .inl (cI, 40, .inl (fl 5 S.2.1))), (m2, .inl (cI, 40, .inl (fl 2 st))), (m5, .inl (cI, 8, .inl (numA S.1 S.2.2.1)))]) (w' := [(m0, .inr (6, [.int 0, .int (nI nD), .int (nI nT), .int (nI nC), .ref m1, .ref m2, .ref m3, .ref m4, .ref m5])), (m1, .inl (cI, 40, .inl (fl 5 S.2.1))), (m2, .inl (cI, 40, .inl (fl 2 st))), (m3, .inl (cI, 36, .inl (fl 3 S.2.2.2))), (m4, .inl (cI, 96, .inl (fl 4 cu))), (m5, .inl (cI, 8, .inl (numA S.1 S.2.2.1)))]) hP hD hS hA [0, 1, 2, 5] [3, 4] [2, 3, 4, 0, 1, 5] rfl rfl rfl rfl rfl (va_runV (As := [.int (nI ia), .int (nI j)]) (rest := [.long ((jN ((fun i w => fcS nD S.2.1 st (S.1 5) i (nI w)) ia) j (jM (fun i w => fcS nD S.2.1 st (S.1 5) i (nI w)) 4 ia (jM (fun i w => S.2.1 w i) 5 nD (jN (fun p => glS (S.2.1 0) (S.2.1 1) (nI p) nD) 12 (jN (fun w => fcN nD nT nC st S (nI w)) 13 1109))))) * 31)]) ⟨hx, hb, hml, hown, hts⟩ (tX6_starTold l D cI m0 m1 m2 m3 m4 m5 nD nT nC 0 S.2.1 st S.1 S.2.2.1 ia j hn hO.2.1 hT ht hO.2.2.2.2.1 (by omega) (by omega) _) (cwV 2 hts gX6_digest_X6_starTold rfl rfl rfl hX6_starTold ⟨Nat.le_of_ble_eq_true rfl, Nat.le_of_ble_eq_true rfl⟩) (preV_of hk hP hD [0, 1, 2, 5] rfl rfl (recvO hk hP (ci := 6) (q0 := 0) rfl rfl)) rfl rfl hl.1 rfl (lv_room (Nat.le_of_ble_eq_true rfl)) dX6_digest_123 ⟨Nat.le_of_ble_eq_true rfl, Nat.le_of_ble_eq_true rfl⟩) (fun H locs hP hD hS => ?_)
              refine lv_i2l hx hb dX6_digest_126 rfl ?_
              refine lv_ladd hx hb dX6_digest_127 ?_
              refine lv_lstore_n (lv' := [(1, .long ((((jN ((fun i w => fcS nD S.2.1 st (S.1 5) i (nI w)) ia) j (jM (fun i w => fcS nD S.2.1 st (S.1 5) i (nI w)) 4 ia (jM (fun i w => S.2.1 w i) 5 nD (jN (fun p => glS (S.2.1 0) (S.2.1 1) (nI p) nD) 12 (jN (fun w => fcN nD nT nC st S (nI w)) 13 1109))))) * 31)) + (((fcS nD S.2.1 st (S.1 5) ia (nI j)).toInt64)))), (4, .int (nI j)), (3, .int (nI ia)), (0, .ref m0)]) hx hb dX6_digest_128 rfl hl (by decide) rfl (fun ls hl => ?_)
              refine lv_iinc (v := nI (j + 1)) (lv' := [(4, .int (nI (j + 1))), (1, .long ((((jN ((fun i w => fcS nD S.2.1 st (S.1 5) i (nI w)) ia) j (jM (fun i w => fcS nD S.2.1 st (S.1 5) i (nI w)) 4 ia (jM (fun i w => S.2.1 w i) 5 nD (jN (fun p => glS (S.2.1 0) (S.2.1 1) (nI p) nD) 12 (jN (fun w => fcN nD nT nC st S (nI w)) 13 1109))))) * 31)) + (((fcS nD S.2.1 st (S.1 5) ia (nI j)).toInt64)))), (3, .int (nI ia)), (0, .ref m0)]) hx hb dX6_digest_129 hl (k := 1) rfl (nI_inc j) (by decide) rfl (fun ls hl => ?_)
              refine lv_goto (tgt := 108) hx hb dX6_digest_132 (by decide) ?_
              exact ih108 (j + 1)  (by omega) (by omega)  _ _ hP hD hS _ (lv_sub hl [0, 2, 1, 3] rfl)
        exact key108 (4 + 1) 0  (by omega) (by omega)  _ _ hP hD hS _ (lv_sub hl [0, 1, 2, 3] rfl)
  have hl : lv_has ls 5 [(3, .int 0), (1, .long (jM (fun i w => fcS nD S.2.1 st (S.1 5) i (nI w)) 4 0 (jM (fun i w => S.2.1 w i) 5 nD (jN (fun p => glS (S.2.1 0) (S.2.1 1) (nI p) nD) 12 (jN (fun w => fcN nD nT nC st S (nI w)) 13 1109))))), (0, .ref m0)] := by rw [jM_0 (fun i w => fcS nD S.2.1 st (S.1 5) i (nI w))]; exact hl
  exact key97 (nT + 1) 0  (by omega) (by omega)  _ _ hP hD hS _ (lv_sub hl [0, 1, 2] rfl)
set_option maxHeartbeats 4000000 in
set_option maxRecDepth 100000 in
theorem tX6_digest_s3 (l : Launch) (D : va_G) (cI : ClassId) (m0 m1 m2 m3 m4 m5 nD nT nC : Nat) (th : Int32) (st cu : Mx) (S : SH) (hn : nD ≤ 8) (hT : nT ≤ 20) (ht : tOK nT st) (hO : SOK nD S) (hC : nC ≤ 24) (p : Program) (e : Env) (s : State) (m : MethodId) (below : List Frame) (meth : Method) (c : Code) (A : Nat → Prop) (fx : FX p s m meth c cX6_digest 5 (some .long) ([.ref m0] : List Value) wsX6_digest yX6_digest D cI A [(m0, .inr (6, [.int th, .int (nI nD), .int (nI nT), .int (nI nC), .ref m1, .ref m2, .ref m3, .ref m4, .ref m5])), (m1, .inl (cI, 40, .inl (fl 5 S.2.1))), (m2, .inl (cI, 40, .inl (fl 2 st))), (m3, .inl (cI, 36, .inl (fl 3 S.2.2.2))), (m4, .inl (cI, 96, .inl (fl 4 cu))), (m5, .inl (cI, 8, .inl (numA S.1 S.2.2.1)))]) (H : Heap) (locs : List Loc) (hP : va_P D vwCl [(m0, .inr (6, [.int 0, .int (nI nD), .int (nI nT), .int (nI nC), .ref m1, .ref m2, .ref m3, .ref m4, .ref m5])), (m1, .inl (cI, 40, .inl (fl 5 S.2.1))), (m2, .inl (cI, 40, .inl (fl 2 st))), (m3, .inl (cI, 36, .inl (fl 3 S.2.2.2))), (m4, .inl (cI, 96, .inl (fl 4 cu))), (m5, .inl (cI, 8, .inl (numA S.1 S.2.2.1)))] H) (hD : va_D A [(m0, .inr (6, [.int 0, .int (nI nD), .int (nI nT), .int (nI nC), .ref m1, .ref m2, .ref m3, .ref m4, .ref m5])), (m1, .inl (cI, 40, .inl (fl 5 S.2.1))), (m2, .inl (cI, 40, .inl (fl 2 st))), (m3, .inl (cI, 36, .inl (fl 3 S.2.2.2))), (m4, .inl (cI, 96, .inl (fl 4 cu))), (m5, .inl (cI, 8, .inl (numA S.1 S.2.2.1)))]) (hS : va_S A s.heap H locs) (ls : Array Slot) (hl : lv_has ls 5 [(1, .long (jN (fun p => glS (S.2.1 0) (S.2.1 1) (nI p) nD) (12) (jN (fun w => fcN nD nT nC st S (nI w)) 13 1109))), (0, .ref m0)]) : W p l e ({ frames := 5, cells := 0, slots := 0, locals := 113 } : Room) s m ([.ref m0] : List Value).toArray below meth c H locs 0 0 (MQ below (poL D A [(m0, .inr (6, [.int 0, .int (nI nD), .int (nI nT), .int (nI nC), .ref m1, .ref m2, .ref m3, .ref m4, .ref m5])), (m1, .inl (cI, 40, .inl (fl 5 S.2.1))), (m2, .inl (cI, 40, .inl (fl 2 st))), (m3, .inl (cI, 36, .inl (fl 3 S.2.2.2))), (m4, .inl (cI, 96, .inl (fl 4 cu))), (m5, .inl (cI, 8, .inl (numA S.1 S.2.2.1)))] (dgF nD nT nC st cu S)) ([.ref m0] : List Value).toArray s 0 0 A) (F0 m 63 ls []) := by
  have fx0 := fx
  obtain ⟨hx, hb, hr, hml, hown, hts, hlocks, hk, hP0, hD0, hA⟩ := fx
  have hown : s.vm.findClass RX6 = some m.cls := hown
  refine lv_iconst (v := 0) hx hb dX6_digest_63 (by decide) ?_
  refine lv_istore_n (lv' := [(3, .int 0), (1, .long (jN (fun p => glS (S.2.1 0) (S.2.1 1) (nI p) nD) (12) (jN (fun w => fcN nD nT nC st S (nI w)) 13 1109))), (0, .ref m0)]) hx hb dX6_digest_64 rfl hl (by decide) rfl (fun ls hl => ?_)
  have key65 : ∀ (ku65 : Nat) (ia : Nat), ia ≤ 5 * nD → 5 * nD - ia < ku65 → ∀ (H : Heap) (locs : List Loc), va_P D vwCl [(m0, .inr (6, [.int 0, .int (nI nD), .int (nI nT), .int (nI nC), .ref m1, .ref m2, .ref m3, .ref m4, .ref m5])), (m1, .inl (cI, 40, .inl (fl 5 S.2.1))), (m2, .inl (cI, 40, .inl (fl 2 st))), (m3, .inl (cI, 36, .inl (fl 3 S.2.2.2))), (m4, .inl (cI, 96, .inl (fl 4 cu))), (m5, .inl (cI, 8, .inl (numA S.1 S.2.2.1)))] H → va_D A [(m0, .inr (6, [.int 0, .int (nI nD), .int (nI nT), .int (nI nC), .ref m1, .ref m2, .ref m3, .ref m4, .ref m5])), (m1, .inl (cI, 40, .inl (fl 5 S.2.1))), (m2, .inl (cI, 40, .inl (fl 2 st))), (m3, .inl (cI, 36, .inl (fl 3 S.2.2.2))), (m4, .inl (cI, 96, .inl (fl 4 cu))), (m5, .inl (cI, 8, .inl (numA S.1 S.2.2.1)))] → va_S A s.heap H locs → ∀ ls : Array Slot, lv_has ls 5 [(3, .int (nI ia)), (1, .long (jN (fl 5 S.2.1) ia (jN (fun p => glS (S.2.1 0) (S.2.1 1) (nI p) nD) 12 (jN (fun w => fcN nD nT nC st S (nI w)) 13 1109)))), (0, .ref m0)] → W p l e ({ frames := 5, cells := 0, slots := 0, locals := 113 } : Room) s m ([.ref m0] : List Value).toArray below meth c H locs 0 0 (MQ below (poL D A [(m0, .inr (6, [.int 0, .int (nI nD), .int (nI nT), .int (nI nC), .ref m1, .ref m2, .ref m3, .ref m4, .ref m5])), (m1, .inl (cI, 40, .inl (fl 5 S.2.1))), (m2, .inl (cI, 40, .inl (fl 2 st))), (m3, .inl (cI, 36, .inl (fl 3 S.2.2.2))), (m4, .inl (cI, 96, .inl (fl 4 cu))), (m5, .inl (cI, 8, .inl (numA S.1 S.2.2.1)))] (dgF nD nT nC st cu S)) ([.ref m0] : List Value).toArray s 0 0 A) (F0 m 65 ls []) := by
    intro ku65
    induction ku65 with
    | zero => intro ia; intros; omega
    | succ ku65 ih65 =>
      intro ia  hi65 hm65  H locs hP hD hS ls hl
      refine lv_iload_n hx hb dX6_digest_65 rfl (lv_at hl 0 rfl) ?_
      refine lv_iconst (v := 5) hx hb dX6_digest_66 (by decide) ?_
      refine lv_aload_n hx hb dX6_digest_67 rfl (lv_at hl 2 rfl) ?_
      refine va_get (D := D) (ci := 6) (v := .int (nI nD)) (C := RX6) (T := TX6) (N := 9) hx hb hts iX6_digest_X6 hown hk.1 hP 0 rfl rfl 1 (by decide) (hts _ mX6_digest_f29) (fun _ h9 => h9) rfl dX6_digest_68 ?_
      refine lv_imul hx hb dX6_digest_71 ?_
      refine top_int (nmulE (a := 5) (b := nD) rfl rfl) ?_
      refine icgeN (i := ia) (n := 5 * nD) (tgt := 95) hx hb (by omega) (by omega) dX6_digest_72 (by decide) (fun c72 => ?_) (fun c72 => ?_)
      · obtain rfl : 5 * nD = ia := by omega
        have hl : lv_has ls 5 [(3, .int (nI (5 * nD))), (1, .long (jM (fun i w => S.2.1 w i) 5 nD (jN (fun p => glS (S.2.1 0) (S.2.1 1) (nI p) nD) 12 (jN (fun w => fcN nD nT nC st S (nI w)) 13 1109)))), (0, .ref m0)] := by rw [← jN_fl 5 S.2.1 (by decide) _ nD]; exact hl
        exact tX6_digest_s4 l D cI m0 m1 m2 m3 m4 m5 nD nT nC th st cu S hn hT ht hO hC p e s m below meth c A fx0 _ _ hP hD hS _ (lv_sub hl [1, 2] rfl)
      · refine lv_lload_n hx hb dX6_digest_75 rfl (lv_at hl 1 rfl) ?_
        refine lv_ldc2 hx hb hown (hts _ mX6_digest_k128) dX6_digest_76 ?_
        refine lv_lmul hx hb dX6_digest_79 ?_
        refine lv_aload_n hx hb dX6_digest_80 rfl (lv_at hl 2 rfl) ?_
        refine va_get (D := D) (ci := 6) (v := .ref m1) (C := RX6) (T := TX6) (N := 9) hx hb hts iX6_digest_X6 hown hk.1 hP 0 rfl rfl 4 (by decide) (hts _ mX6_digest_f9) (fun _ h9 => h9) rfl dX6_digest_81 ?_
        refine lv_iload_n hx hb dX6_digest_84 rfl (lv_at hl 0 rfl) ?_
        refine aldN hx hb hk hP 1 rfl ia rfl (by omega) (Nat.le_of_ble_eq_true rfl) dX6_digest_85 ?_
        refine lv_i2l hx hb dX6_digest_86 rfl ?_
        refine lv_ladd hx hb dX6_digest_87 ?_
        refine lv_lstore_n (lv' := [(1, .long ((((jN (fl 5 S.2.1) ia (jN (fun p => glS (S.2.1 0) (S.2.1 1) (nI p) nD) 12 (jN (fun w => fcN nD nT nC st S (nI w)) 13 1109))) * 31)) + ((((fl 5 S.2.1) ia).toInt64)))), (3, .int (nI ia)), (0, .ref m0)]) hx hb dX6_digest_88 rfl hl (by decide) rfl (fun ls hl => ?_)
        refine lv_iinc (v := nI (ia + 1)) (lv' := [(3, .int (nI (ia + 1))), (1, .long ((((jN (fl 5 S.2.1) ia (jN (fun p => glS (S.2.1 0) (S.2.1 1) (nI p) nD) 12 (jN (fun w => fcN nD nT nC st S (nI w)) 13 1109))) * 31)) + ((((fl 5 S.2.1) ia).toInt64)))), (0, .ref m0)]) hx hb dX6_digest_89 hl (k := 1) rfl (nI_inc ia) (by decide) rfl (fun ls hl => ?_)
        refine lv_goto (tgt := 65) hx hb dX6_digest_92 (by decide) ?_
        exact ih65 (ia + 1)  (by omega) (by omega)  _ _ hP hD hS _ (lv_sub hl [0, 1, 2] rfl)
  have hl : lv_has ls 5 [(3, .int 0), (1, .long (jN (fl 5 S.2.1) 0 (jN (fun p => glS (S.2.1 0) (S.2.1 1) (nI p) nD) 12 (jN (fun w => fcN nD nT nC st S (nI w)) 13 1109)))), (0, .ref m0)] := by rw [jN_0 (fl 5 S.2.1)]; exact hl
  exact key65 (5 * nD + 1) 0  (by omega) (by omega)  _ _ hP hD hS _ (lv_sub hl [0, 1, 2] rfl)

theorem hX6_digest : yX6_digest.cls = RX6 ∧ yX6_digest.cls ≠ "java/lang/invoke/MethodHandle" ∧ yX6_digest.cls ≠ "java/lang/invoke/VarHandle" ∧ (parseMethodDescriptor yX6_digest.desc).map (fun d => d.parameters.length) = some 0 := by decide +kernel
set_option maxHeartbeats 4000000 in
set_option maxRecDepth 100000 in
theorem tX6_digest (l : Launch) (D : va_G) (cI : ClassId) (m0 m1 m2 m3 m4 m5 nD nT nC : Nat) (th : Int32) (st cu : Mx) (S : SH) (hn : nD ≤ 8) (hT : nT ≤ 20) (ht : tOK nT st) (hO : SOK nD S) (hC : nC ≤ 24) : CL l yX6_digest wsX6_digest ({ frames := 5, cells := 0, slots := 0, locals := 113 } : Room) D cI ([.ref m0] : List Value) [(m0, .inr (6, [.int th, .int (nI nD), .int (nI nT), .int (nI nC), .ref m1, .ref m2, .ref m3, .ref m4, .ref m5])), (m1, .inl (cI, 40, .inl (fl 5 S.2.1))), (m2, .inl (cI, 40, .inl (fl 2 st))), (m3, .inl (cI, 36, .inl (fl 3 S.2.2.2))), (m4, .inl (cI, 96, .inl (fl 4 cu))), (m5, .inl (cI, 8, .inl (numA S.1 S.2.2.1)))] (dgF nD nT nC st cu S) [(m0, .inr (6, [.int 0, .int (nI nD), .int (nI nT), .int (nI nC), .ref m1, .ref m2, .ref m3, .ref m4, .ref m5])), (m1, .inl (cI, 40, .inl (fl 5 S.2.1))), (m2, .inl (cI, 40, .inl (fl 2 st))), (m3, .inl (cI, 36, .inl (fl 3 S.2.2.2))), (m4, .inl (cI, 96, .inl (fl 4 cu))), (m5, .inl (cI, 8, .inl (numA S.1 S.2.2.1)))] := by
  refine entL (cc := cX6_digest) (maxL := 5) (ret := (some .long)) (by decide) rfl (Nat.le_of_ble_eq_true rfl) (fun p e s m below meth c A ls fx hl => ?_)
  have fx0 := fx
  obtain ⟨hx, hb, hr, hml, hown, hts, hlocks, hk, hP, hD, hA⟩ := fx
  have hown : s.vm.findClass RX6 = some m.cls := hown
  have hS : va_S A s.heap s.heap [] := va_S.rf
  have hP : va_P D vwCl [(m0, .inr (6, [.int th, .int (nI nD), .int (nI nT), .int (nI nC), .ref m1, .ref m2, .ref m3, .ref m4, .ref m5])), (m1, .inl (cI, 40, .inl (fl 5 S.2.1))), (m2, .inl (cI, 40, .inl (fl 2 st))), (m3, .inl (cI, 36, .inl (fl 3 S.2.2.2))), (m4, .inl (cI, 96, .inl (fl 4 cu))), (m5, .inl (cI, 8, .inl (numA S.1 S.2.2.1)))] s.heap := hP
  have hD : va_D A [(m0, .inr (6, [.int th, .int (nI nD), .int (nI nT), .int (nI nC), .ref m1, .ref m2, .ref m3, .ref m4, .ref m5])), (m1, .inl (cI, 40, .inl (fl 5 S.2.1))), (m2, .inl (cI, 40, .inl (fl 2 st))), (m3, .inl (cI, 36, .inl (fl 3 S.2.2.2))), (m4, .inl (cI, 96, .inl (fl 4 cu))), (m5, .inl (cI, 8, .inl (numA S.1 S.2.2.1)))] := hD
  have hl : lv_has ls 5 [(0, .ref m0)] := hl
  refine lv_aload_n hx hb dX6_digest_0 rfl (lv_at hl 0 rfl) ?_
  refine lv_iconst (v := 0) hx hb dX6_digest_1 (by decide) ?_
  refine va_put (D := D) (ci := 6) (v := .int 0) (ty := .int) (C := RX6) (T := TX6) (N := 9) hx hb hts iX6_digest_X6 tyX6 tyX6_ok nmX6 hown hk.1 hP hD hS 0 rfl rfl 0 (by decide) (hts _ mX6_digest_f25) (fun _ h9 => h9) rfl (by decide +kernel) rfl rfl (Nat.le_of_ble_eq_true rfl) dX6_digest_2 (fun H locs hP hD hS => ?_)
  have hP : va_P D vwCl [(m0, .inr (6, [.int 0, .int (nI nD), .int (nI nT), .int (nI nC), .ref m1, .ref m2, .ref m3, .ref m4, .ref m5])), (m1, .inl (cI, 40, .inl (fl 5 S.2.1))), (m2, .inl (cI, 40, .inl (fl 2 st))), (m3, .inl (cI, 36, .inl (fl 3 S.2.2.2))), (m4, .inl (cI, 96, .inl (fl 4 cu))), (m5, .inl (cI, 8, .inl (numA S.1 S.2.2.1)))] H := hP
  have hD : va_D A [(m0, .inr (6, [.int 0, .int (nI nD), .int (nI nT), .int (nI nC), .ref m1, .ref m2, .ref m3, .ref m4, .ref m5])), (m1, .inl (cI, 40, .inl (fl 5 S.2.1))), (m2, .inl (cI, 40, .inl (fl 2 st))), (m3, .inl (cI, 36, .inl (fl 3 S.2.2.2))), (m4, .inl (cI, 96, .inl (fl 4 cu))), (m5, .inl (cI, 8, .inl (numA S.1 S.2.2.1)))] := hD
  refine lv_ldc2 hx hb hown (hts _ mX6_digest_k126) dX6_digest_5 ?_
  refine lv_lstore_n (lv' := [(1, .long 1109), (0, .ref m0)]) hx hb dX6_digest_8 rfl hl (by decide) rfl (fun ls hl => ?_)
  refine lv_iconst (v := 0) hx hb dX6_digest_9 (by decide) ?_
  refine lv_istore_n (lv' := [(3, .int 0), (1, .long 1109), (0, .ref m0)]) hx hb dX6_digest_10 rfl hl (by decide) rfl (fun ls hl => ?_)
  have key11 : ∀ (ku11 : Nat) (ia : Nat), ia ≤ 13 → 13 - ia < ku11 → ∀ (H : Heap) (locs : List Loc), va_P D vwCl [(m0, .inr (6, [.int 0, .int (nI nD), .int (nI nT), .int (nI nC), .ref m1, .ref m2, .ref m3, .ref m4, .ref m5])), (m1, .inl (cI, 40, .inl (fl 5 S.2.1))), (m2, .inl (cI, 40, .inl (fl 2 st))), (m3, .inl (cI, 36, .inl (fl 3 S.2.2.2))), (m4, .inl (cI, 96, .inl (fl 4 cu))), (m5, .inl (cI, 8, .inl (numA S.1 S.2.2.1)))] H → va_D A [(m0, .inr (6, [.int 0, .int (nI nD), .int (nI nT), .int (nI nC), .ref m1, .ref m2, .ref m3, .ref m4, .ref m5])), (m1, .inl (cI, 40, .inl (fl 5 S.2.1))), (m2, .inl (cI, 40, .inl (fl 2 st))), (m3, .inl (cI, 36, .inl (fl 3 S.2.2.2))), (m4, .inl (cI, 96, .inl (fl 4 cu))), (m5, .inl (cI, 8, .inl (numA S.1 S.2.2.1)))] → va_S A s.heap H locs → ∀ ls : Array Slot, lv_has ls 5 [(3, .int (nI ia)), (1, .long (jN (fun w => fcN nD nT nC st S (nI w)) ia 1109)), (0, .ref m0)] → W p l e ({ frames := 5, cells := 0, slots := 0, locals := 113 } : Room) s m ([.ref m0] : List Value).toArray below meth c H locs 0 0 (MQ below (poL D A [(m0, .inr (6, [.int 0, .int (nI nD), .int (nI nT), .int (nI nC), .ref m1, .ref m2, .ref m3, .ref m4, .ref m5])), (m1, .inl (cI, 40, .inl (fl 5 S.2.1))), (m2, .inl (cI, 40, .inl (fl 2 st))), (m3, .inl (cI, 36, .inl (fl 3 S.2.2.2))), (m4, .inl (cI, 96, .inl (fl 4 cu))), (m5, .inl (cI, 8, .inl (numA S.1 S.2.2.1)))] (dgF nD nT nC st cu S)) ([.ref m0] : List Value).toArray s 0 0 A) (F0 m 11 ls []) := by
    intro ku11
    induction ku11 with
    | zero => intro ia; intros; omega
    | succ ku11 ih11 =>
      intro ia  hi11 hm11  H locs hP hD hS ls hl
      refine lv_iload_n hx hb dX6_digest_11 rfl (lv_at hl 0 rfl) ?_
      refine lv_bipush (v := 13) hx hb dX6_digest_12 (by decide) ?_
      refine icgeN (i := ia) (n := 13) (tgt := 36) hx hb (by omega) (by omega) dX6_digest_14 (by decide) (fun c14 => ?_) (fun c14 => ?_)
      · obtain rfl : 13 = ia := by omega
        refine lv_iconst (v := 0) hx hb dX6_digest_36 (by decide) ?_
        refine lv_istore_n (lv' := [(3, .int 0), (1, .long (jN (fun w => fcN nD nT nC st S (nI w)) (13) 1109)), (0, .ref m0)]) hx hb dX6_digest_37 rfl hl (by decide) rfl (fun ls hl => ?_)
        have key38 : ∀ (ku38 : Nat) (ia : Nat), ia ≤ 12 → 12 - ia < ku38 → ∀ (H : Heap) (locs : List Loc), va_P D vwCl [(m0, .inr (6, [.int 0, .int (nI nD), .int (nI nT), .int (nI nC), .ref m1, .ref m2, .ref m3, .ref m4, .ref m5])), (m1, .inl (cI, 40, .inl (fl 5 S.2.1))), (m2, .inl (cI, 40, .inl (fl 2 st))), (m3, .inl (cI, 36, .inl (fl 3 S.2.2.2))), (m4, .inl (cI, 96, .inl (fl 4 cu))), (m5, .inl (cI, 8, .inl (numA S.1 S.2.2.1)))] H → va_D A [(m0, .inr (6, [.int 0, .int (nI nD), .int (nI nT), .int (nI nC), .ref m1, .ref m2, .ref m3, .ref m4, .ref m5])), (m1, .inl (cI, 40, .inl (fl 5 S.2.1))), (m2, .inl (cI, 40, .inl (fl 2 st))), (m3, .inl (cI, 36, .inl (fl 3 S.2.2.2))), (m4, .inl (cI, 96, .inl (fl 4 cu))), (m5, .inl (cI, 8, .inl (numA S.1 S.2.2.1)))] → va_S A s.heap H locs → ∀ ls : Array Slot, lv_has ls 5 [(3, .int (nI ia)), (1, .long (jN (fun p => glS (S.2.1 0) (S.2.1 1) (nI p) nD) ia (jN (fun w => fcN nD nT nC st S (nI w)) 13 1109))), (0, .ref m0)] → W p l e ({ frames := 5, cells := 0, slots := 0, locals := 113 } : Room) s m ([.ref m0] : List Value).toArray below meth c H locs 0 0 (MQ below (poL D A [(m0, .inr (6, [.int 0, .int (nI nD), .int (nI nT), .int (nI nC), .ref m1, .ref m2, .ref m3, .ref m4, .ref m5])), (m1, .inl (cI, 40, .inl (fl 5 S.2.1))), (m2, .inl (cI, 40, .inl (fl 2 st))), (m3, .inl (cI, 36, .inl (fl 3 S.2.2.2))), (m4, .inl (cI, 96, .inl (fl 4 cu))), (m5, .inl (cI, 8, .inl (numA S.1 S.2.2.1)))] (dgF nD nT nC st cu S)) ([.ref m0] : List Value).toArray s 0 0 A) (F0 m 38 ls []) := by
          intro ku38
          induction ku38 with
          | zero => intro ia; intros; omega
          | succ ku38 ih38 =>
            intro ia  hi38 hm38  H locs hP hD hS ls hl
            refine lv_iload_n hx hb dX6_digest_38 rfl (lv_at hl 0 rfl) ?_
            refine lv_bipush (v := 12) hx hb dX6_digest_39 (by decide) ?_
            refine icgeN (i := ia) (n := 12) (tgt := 63) hx hb (by omega) (by omega) dX6_digest_41 (by decide) (fun c41 => ?_) (fun c41 => ?_)
            · obtain rfl : 12 = ia := by omega
              exact tX6_digest_s3 l D cI m0 m1 m2 m3 m4 m5 nD nT nC th st cu S hn hT ht hO hC p e s m below meth c A fx0 _ _ hP hD hS _ (lv_sub hl [1, 2] rfl)
            · refine lv_lload_n hx hb dX6_digest_44 rfl (lv_at hl 1 rfl) ?_
              refine lv_ldc2 hx hb hown (hts _ mX6_digest_k128) dX6_digest_45 ?_
              refine lv_lmul hx hb dX6_digest_48 ?_
              refine lv_aload_n hx hb dX6_digest_49 rfl (lv_at hl 2 rfl) ?_
              refine lv_iload_n hx hb dX6_digest_50 rfl (lv_at hl 0 rfl) ?_
              refine frI (wc := [(m0, .inr (6, [.int 0, .int (nI nD), .int (nI nT), .int (nI nC), .ref m1, .ref m2, .ref m3, .ref m4, .ref m5])), (m1, .inl (cI, 40, .inl (fl 5 S.2.1)))]) (wc' := [(m0, .inr (6, [.int 0, .int (nI nD), .int (nI nT), .int (nI nC), .ref m1, .ref m2, .ref m3, .ref m4, .ref m5])), (m1, .inl (cI, 40, .inl (fl 5 S.2.1)))]) (w' := [(m0, .inr (6, [.int 0, .int (nI nD), .int (nI nT), .int (nI nC), .ref m1, .ref m2, .ref m3, .ref m4, .ref m5])), (m1, .inl (cI, 40, .inl (fl 5 S.2.1))), (m2, .inl (cI, 40, .inl (fl 2 st))), (m3, .inl (cI, 36, .inl (fl 3 S.2.2.2))), (m4, .inl (cI, 96, .inl (fl 4 cu))), (m5, .inl (cI, 8, .inl (numA S.1 S.2.2.1)))]) hP hD hS hA [0, 1] [2, 3, 4, 5] [4, 5, 0, 1, 2, 3] rfl rfl rfl rfl rfl (va_runV (As := [.int (nI ia)]) (rest := [.long ((jN (fun p => glS (S.2.1 0) (S.2.1 1) (nI p) nD) ia (jN (fun w => fcN nD nT nC st S (nI w)) 13 1109)) * 31)]) ⟨hx, hb, hml, hown, hts⟩ (tX6_glareOf l D cI m0 m1 m2 m3 m4 m5 nD nT nC 0 S.2.1 (nI ia) hn hO.2.1 ⟨by rw [nI_toInt (by have := c41; omega)]; omega, by rw [nI_toInt (by have := c41; omega)]; have := c41; omega⟩ _) (cwV 1 hts gX6_digest_X6_glareOf rfl rfl rfl hX6_glareOf ⟨Nat.le_of_ble_eq_true rfl, Nat.le_of_ble_eq_true rfl⟩) (preV_of hk hP hD [0, 1] rfl rfl (recvO hk hP (ci := 6) (q0 := 0) rfl rfl)) rfl rfl hl.1 rfl (lv_room (Nat.le_of_ble_eq_true rfl)) dX6_digest_51 ⟨Nat.le_of_ble_eq_true rfl, Nat.le_of_ble_eq_true rfl⟩) (fun H locs hP hD hS => ?_)
              refine lv_i2l hx hb dX6_digest_54 rfl ?_
              refine lv_ladd hx hb dX6_digest_55 ?_
              refine lv_lstore_n (lv' := [(1, .long ((((jN (fun p => glS (S.2.1 0) (S.2.1 1) (nI p) nD) ia (jN (fun w => fcN nD nT nC st S (nI w)) 13 1109)) * 31)) + (((glS (S.2.1 0) (S.2.1 1) (nI ia) nD).toInt64)))), (3, .int (nI ia)), (0, .ref m0)]) hx hb dX6_digest_56 rfl hl (by decide) rfl (fun ls hl => ?_)
              refine lv_iinc (v := nI (ia + 1)) (lv' := [(3, .int (nI (ia + 1))), (1, .long ((((jN (fun p => glS (S.2.1 0) (S.2.1 1) (nI p) nD) ia (jN (fun w => fcN nD nT nC st S (nI w)) 13 1109)) * 31)) + (((glS (S.2.1 0) (S.2.1 1) (nI ia) nD).toInt64)))), (0, .ref m0)]) hx hb dX6_digest_57 hl (k := 1) rfl (nI_inc ia) (by decide) rfl (fun ls hl => ?_)
              refine lv_goto (tgt := 38) hx hb dX6_digest_60 (by decide) ?_
              exact ih38 (ia + 1)  (by omega) (by omega)  _ _ hP hD hS _ (lv_sub hl [0, 1, 2] rfl)
        have hl : lv_has ls 5 [(3, .int 0), (1, .long (jN (fun p => glS (S.2.1 0) (S.2.1 1) (nI p) nD) 0 (jN (fun w => fcN nD nT nC st S (nI w)) 13 1109))), (0, .ref m0)] := by rw [jN_0 (fun p => glS (S.2.1 0) (S.2.1 1) (nI p) nD)]; exact hl
        exact key38 (12 + 1) 0  (by omega) (by omega)  _ _ hP hD hS _ (lv_sub hl [0, 1, 2] rfl)
      · refine lv_lload_n hx hb dX6_digest_17 rfl (lv_at hl 1 rfl) ?_
        refine lv_ldc2 hx hb hown (hts _ mX6_digest_k128) dX6_digest_18 ?_
        refine lv_lmul hx hb dX6_digest_21 ?_
        refine lv_aload_n hx hb dX6_digest_22 rfl (lv_at hl 2 rfl) ?_
        refine lv_iload_n hx hb dX6_digest_23 rfl (lv_at hl 0 rfl) ?_
        refine frI (wc := [(m0, .inr (6, [.int 0, .int (nI nD), .int (nI nT), .int (nI nC), .ref m1, .ref m2, .ref m3, .ref m4, .ref m5])), (m1, .inl (cI, 40, .inl (fl 5 S.2.1))), (m2, .inl (cI, 40, .inl (fl 2 st))), (m3, .inl (cI, 36, .inl (fl 3 S.2.2.2))), (m5, .inl (cI, 8, .inl (numA S.1 S.2.2.1)))]) (wc' := [(m0, .inr (6, [.int 0, .int (nI nD), .int (nI nT), .int (nI nC), .ref m1, .ref m2, .ref m3, .ref m4, .ref m5])), (m1, .inl (cI, 40, .inl (fl 5 S.2.1))), (m2, .inl (cI, 40, .inl (fl 2 st))), (m3, .inl (cI, 36, .inl (fl 3 S.2.2.2))), (m5, .inl (cI, 8, .inl (numA S.1 S.2.2.1)))]) (w' := [(m0, .inr (6, [.int 0, .int (nI nD), .int (nI nT), .int (nI nC), .ref m1, .ref m2, .ref m3, .ref m4, .ref m5])), (m1, .inl (cI, 40, .inl (fl 5 S.2.1))), (m2, .inl (cI, 40, .inl (fl 2 st))), (m3, .inl (cI, 36, .inl (fl 3 S.2.2.2))), (m4, .inl (cI, 96, .inl (fl 4 cu))), (m5, .inl (cI, 8, .inl (numA S.1 S.2.2.1)))]) hP hD hS hA [0, 1, 2, 3, 5] [4] [1, 2, 3, 4, 0, 5] rfl rfl rfl rfl rfl (va_runV (As := [.int (nI ia)]) (rest := [.long ((jN (fun w => fcN nD nT nC st S (nI w)) ia 1109) * 31)]) ⟨hx, hb, hml, hown, hts⟩ (tX6_counted l D cI m0 m1 m2 m3 m4 m5 nD nT nC 0 st S ia hn hT ht hO (by omega) _) (cwV 1 hts gX6_digest_X6_counted rfl rfl rfl hX6_counted ⟨Nat.le_of_ble_eq_true rfl, Nat.le_of_ble_eq_true rfl⟩) (preV_of hk hP hD [0, 1, 2, 3, 5] rfl rfl (recvO hk hP (ci := 6) (q0 := 0) rfl rfl)) rfl rfl hl.1 rfl (lv_room (Nat.le_of_ble_eq_true rfl)) dX6_digest_24 ⟨Nat.le_of_ble_eq_true rfl, Nat.le_of_ble_eq_true rfl⟩) (fun H locs hP hD hS => ?_)
        refine lv_i2l hx hb dX6_digest_27 rfl ?_
        refine lv_ladd hx hb dX6_digest_28 ?_
        refine lv_lstore_n (lv' := [(1, .long ((((jN (fun w => fcN nD nT nC st S (nI w)) ia 1109) * 31)) + (((fcN nD nT nC st S (nI ia)).toInt64)))), (3, .int (nI ia)), (0, .ref m0)]) hx hb dX6_digest_29 rfl hl (by decide) rfl (fun ls hl => ?_)
        refine lv_iinc (v := nI (ia + 1)) (lv' := [(3, .int (nI (ia + 1))), (1, .long ((((jN (fun w => fcN nD nT nC st S (nI w)) ia 1109) * 31)) + (((fcN nD nT nC st S (nI ia)).toInt64)))), (0, .ref m0)]) hx hb dX6_digest_30 hl (k := 1) rfl (nI_inc ia) (by decide) rfl (fun ls hl => ?_)
        refine lv_goto (tgt := 11) hx hb dX6_digest_33 (by decide) ?_
        exact ih11 (ia + 1)  (by omega) (by omega)  _ _ hP hD hS _ (lv_sub hl [0, 1, 2] rfl)
  exact key11 (13 + 1) 0  (by omega) (by omega)  _ _ hP hD hS _ (lv_sub hl [0, 1, 2] rfl)
