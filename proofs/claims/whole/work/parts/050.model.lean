
theorem hX6_isIn : yX6_isIn.cls = RX6 ∧ yX6_isIn.cls ≠ "java/lang/invoke/MethodHandle" ∧ yX6_isIn.cls ≠ "java/lang/invoke/VarHandle" ∧ (parseMethodDescriptor yX6_isIn.desc).map (fun d => d.parameters.length) = some 3 := by decide +kernel
set_option maxHeartbeats 4000000 in
set_option maxRecDepth 100000 in
theorem tX6_isIn (l : Launch) (D : va_G) (cI : ClassId) (x lo hi : Int32)  : CI l yX6_isIn wsX6_isIn ({ frames := 0, cells := 0, slots := 0, locals := 0 } : Room) D cI ([.int x, .int lo, .int hi] : List Value) [] (wiI x lo hi) [] := by
  refine entI (cc := cX6_isIn) (maxL := 3) (ret := (some .boolean)) (by decide) rfl (Nat.le_of_ble_eq_true rfl) (fun p e s m below meth c A ls fx hl => ?_)
  obtain ⟨hx, hb, hr, hml, hown, hts, hlocks, hk, hP, hD, hA⟩ := fx
  have hown : s.vm.findClass RX6 = some m.cls := hown
  have hS : va_S A s.heap s.heap [] := va_S.rf
  have hP : va_P D vwCl [] s.heap := hP
  have hD : va_D A [] := hD
  have hl : lv_has ls 3 [(0, .int x), (1, .int lo), (2, .int hi)] := hl
  refine lv_iload_n hx hb dX6_isIn_0 rfl (lv_at hl 0 rfl) ?_
  refine lv_iload_n hx hb dX6_isIn_1 rfl (lv_at hl 1 rfl) ?_
  refine lv_icmp_lt (tgt := 14) hx hb dX6_isIn_2 (by decide) (fun c2 => ?_) (fun c2 => ?_)
  · refine lv_iconst (v := 0) hx hb dX6_isIn_14 (by decide) ?_
    exact retI hx hb hr hlocks hS hP hD dX6_isIn_15 (by rw [wiI, if_pos c2]) rfl
  · refine lv_iload_n hx hb dX6_isIn_5 rfl (lv_at hl 0 rfl) ?_
    refine lv_iload_n hx hb dX6_isIn_6 rfl (lv_at hl 2 rfl) ?_
    refine lv_icmp_gt (tgt := 14) hx hb dX6_isIn_7 (by decide) (fun c7 => ?_) (fun c7 => ?_)
    · refine lv_iconst (v := 0) hx hb dX6_isIn_14 (by decide) ?_
      exact retI hx hb hr hlocks hS hP hD dX6_isIn_15 (by rw [wiI, if_neg c2, if_pos c7]) rfl
    · refine lv_iconst (v := 1) hx hb dX6_isIn_10 (by decide) ?_
      refine lv_goto (tgt := 15) hx hb dX6_isIn_11 (by decide) ?_
      exact retI hx hb hr hlocks hS hP hD dX6_isIn_15 (by rw [wiI, if_neg c2, if_neg c7]) rfl

theorem mX6_isDimmer_f29 : (.fieldLink RX6 29 "StarConsoleModel" "dimmers" "I" : Cond) ∈ wsX6_isDimmer := by decide +kernel
theorem iX6_isDimmer_X6 : ∀ w ∈ wsX60, w ∈ wsX6_isDimmer := by decide +kernel
theorem hX6_isDimmer : yX6_isDimmer.cls = RX6 ∧ yX6_isDimmer.cls ≠ "java/lang/invoke/MethodHandle" ∧ yX6_isDimmer.cls ≠ "java/lang/invoke/VarHandle" ∧ (parseMethodDescriptor yX6_isDimmer.desc).map (fun d => d.parameters.length) = some 1 := by decide +kernel
set_option maxHeartbeats 4000000 in
set_option maxRecDepth 100000 in
theorem tX6_isDimmer (l : Launch) (D : va_G) (cI : ClassId) (m0 m1 m2 m3 m4 m5 nD nT nC : Nat) (th : Int32) (d : Int32) (hn : nD ≤ 8) : CI l yX6_isDimmer wsX6_isDimmer ({ frames := 1, cells := 0, slots := 0, locals := 22 } : Room) D cI ([.ref m0, .int d] : List Value) [(m0, .inr (6, [.int th, .int (nI nD), .int (nI nT), .int (nI nC), .ref m1, .ref m2, .ref m3, .ref m4, .ref m5]))] (hasI nD d) [(m0, .inr (6, [.int th, .int (nI nD), .int (nI nT), .int (nI nC), .ref m1, .ref m2, .ref m3, .ref m4, .ref m5]))] := by
  refine entI (cc := cX6_isDimmer) (maxL := 2) (ret := (some .boolean)) (by decide) rfl (Nat.le_of_ble_eq_true rfl) (fun p e s m below meth c A ls fx hl => ?_)
  obtain ⟨hx, hb, hr, hml, hown, hts, hlocks, hk, hP, hD, hA⟩ := fx
  have hown : s.vm.findClass RX6 = some m.cls := hown
  have hS : va_S A s.heap s.heap [] := va_S.rf
  have hP : va_P D vwCl [(m0, .inr (6, [.int th, .int (nI nD), .int (nI nT), .int (nI nC), .ref m1, .ref m2, .ref m3, .ref m4, .ref m5]))] s.heap := hP
  have hD : va_D A [(m0, .inr (6, [.int th, .int (nI nD), .int (nI nT), .int (nI nC), .ref m1, .ref m2, .ref m3, .ref m4, .ref m5]))] := hD
  have hl : lv_has ls 2 [(0, .ref m0), (1, .int d)] := hl
  refine lv_iload_n hx hb dX6_isDimmer_0 rfl (lv_at hl 1 rfl) ?_
  refine lv_iconst (v := 0) hx hb dX6_isDimmer_1 (by decide) ?_
  refine lv_aload_n hx hb dX6_isDimmer_2 rfl (lv_at hl 0 rfl) ?_
  refine va_get (D := D) (ci := 6) (v := .int (nI nD)) (C := RX6) (T := TX6) (N := 9) hx hb hts iX6_isDimmer_X6 hown hk.1 hP 0 rfl rfl 1 (by decide) (hts _ mX6_isDimmer_f29) (fun _ h9 => h9) rfl dX6_isDimmer_3 ?_
  refine lv_iconst (v := 1) hx hb dX6_isDimmer_6 (by decide) ?_
  refine lv_isub hx hb dX6_isDimmer_7 ?_
  refine frI (wc := []) (wc' := []) (w' := [(m0, .inr (6, [.int th, .int (nI nD), .int (nI nT), .int (nI nC), .ref m1, .ref m2, .ref m3, .ref m4, .ref m5]))]) hP hD hS hA [] [0] [0] rfl rfl rfl rfl rfl (va_runS (As := [.int d, .int 0, .int ((nI nD) - 1)]) (rest := []) ⟨hx, hb, hml, hown, hts⟩ (tX6_isIn l D cI d 0 (nI nD - 1)  _) (va_cwS 3 hts gX6_isDimmer_X6_isIn rfl rfl rfl hX6_isIn.2 ⟨Nat.le_of_ble_eq_true rfl, Nat.le_of_ble_eq_true rfl⟩) (preS_of hk hP hD [] rfl rfl) rfl rfl hl.1 rfl (lv_room (Nat.le_of_ble_eq_true rfl)) dX6_isDimmer_8 ⟨Nat.le_of_ble_eq_true rfl, Nat.le_of_ble_eq_true rfl⟩) (fun H locs hP hD hS => ?_)
  exact retI hx hb hr hlocks hS hP hD dX6_isDimmer_11 (wi_has (by omega)) (n_bool (wiI_b _ _ _))

theorem mX6_la_f9 : (.fieldLink RX6 9 "StarConsoleModel" "lamps" "[I" : Cond) ∈ wsX6_la := by decide +kernel
theorem iX6_la_X6 : ∀ w ∈ wsX60, w ∈ wsX6_la := by decide +kernel
theorem hX6_la : yX6_la.cls = RX6 ∧ yX6_la.cls ≠ "java/lang/invoke/MethodHandle" ∧ yX6_la.cls ≠ "java/lang/invoke/VarHandle" ∧ (parseMethodDescriptor yX6_la.desc).map (fun d => d.parameters.length) = some 2 := by decide +kernel
set_option maxHeartbeats 4000000 in
set_option maxRecDepth 100000 in
theorem tX6_la (l : Launch) (D : va_G) (cI : ClassId) (m0 m1 m2 m3 m4 m5 nD nT nC : Nat) (th : Int32) (g : Mx) (d w : Nat) (hd : d < 8) (hw : w < 5) : CI l yX6_la wsX6_la ({ frames := 0, cells := 0, slots := 0, locals := 0 } : Room) D cI ([.ref m0, .int (nI d), .int (nI w)] : List Value) [(m0, .inr (6, [.int th, .int (nI nD), .int (nI nT), .int (nI nC), .ref m1, .ref m2, .ref m3, .ref m4, .ref m5])), (m1, .inl (cI, 40, .inl (fl 5 g)))] (g w d) [(m0, .inr (6, [.int th, .int (nI nD), .int (nI nT), .int (nI nC), .ref m1, .ref m2, .ref m3, .ref m4, .ref m5])), (m1, .inl (cI, 40, .inl (fl 5 g)))] := by
  refine entI (cc := cX6_la) (maxL := 3) (ret := (some .int)) (by decide) rfl (Nat.le_of_ble_eq_true rfl) (fun p e s m below meth c A ls fx hl => ?_)
  obtain ⟨hx, hb, hr, hml, hown, hts, hlocks, hk, hP, hD, hA⟩ := fx
  have hown : s.vm.findClass RX6 = some m.cls := hown
  have hS : va_S A s.heap s.heap [] := va_S.rf
  have hP : va_P D vwCl [(m0, .inr (6, [.int th, .int (nI nD), .int (nI nT), .int (nI nC), .ref m1, .ref m2, .ref m3, .ref m4, .ref m5])), (m1, .inl (cI, 40, .inl (fl 5 g)))] s.heap := hP
  have hD : va_D A [(m0, .inr (6, [.int th, .int (nI nD), .int (nI nT), .int (nI nC), .ref m1, .ref m2, .ref m3, .ref m4, .ref m5])), (m1, .inl (cI, 40, .inl (fl 5 g)))] := hD
  have hl : lv_has ls 3 [(0, .ref m0), (1, .int (nI d)), (2, .int (nI w))] := hl
  refine lv_aload_n hx hb dX6_la_0 rfl (lv_at hl 0 rfl) ?_
  refine va_get (D := D) (ci := 6) (v := .ref m1) (C := RX6) (T := TX6) (N := 9) hx hb hts iX6_la_X6 hown hk.1 hP 0 rfl rfl 4 (by decide) (hts _ mX6_la_f9) (fun _ h9 => h9) rfl dX6_la_1 ?_
  refine lv_iconst (v := 5) hx hb dX6_la_4 (by decide) ?_
  refine lv_iload_n hx hb dX6_la_5 rfl (lv_at hl 1 rfl) ?_
  refine lv_imul hx hb dX6_la_6 ?_
  refine top_int (nmulE (a := 5) (b := d) rfl rfl) ?_
  refine lv_iload_n hx hb dX6_la_7 rfl (lv_at hl 2 rfl) ?_
  refine lv_iadd hx hb dX6_la_8 ?_
  refine top_int (naddE (a := 5 * d) (b := w) rfl rfl) ?_
  refine aldN hx hb hk hP 1 rfl ((5 * d) + w) rfl (by omega) (Nat.le_of_ble_eq_true rfl) dX6_la_9 ?_
  refine top_int (fl_r (d := d) (w := w) (by omega)) ?_
  exact retI hx hb hr hlocks hS hP hD dX6_la_10 (rfl) rfl

theorem mX6_put_f9 : (.fieldLink RX6 9 "StarConsoleModel" "lamps" "[I" : Cond) ∈ wsX6_put := by decide +kernel
theorem iX6_put_X6 : ∀ w ∈ wsX60, w ∈ wsX6_put := by decide +kernel
theorem hX6_put : yX6_put.cls = RX6 ∧ yX6_put.cls ≠ "java/lang/invoke/MethodHandle" ∧ yX6_put.cls ≠ "java/lang/invoke/VarHandle" ∧ (parseMethodDescriptor yX6_put.desc).map (fun d => d.parameters.length) = some 3 := by decide +kernel
set_option maxHeartbeats 4000000 in
set_option maxRecDepth 100000 in
theorem tX6_put (l : Launch) (D : va_G) (cI : ClassId) (m0 m1 m2 m3 m4 m5 nD nT nC : Nat) (th : Int32) (g : Mx) (d w : Nat) (x : Int32) (hd : d < 8) (hw : w < 5) : CV l yX6_put wsX6_put ({ frames := 0, cells := 0, slots := 0, locals := 0 } : Room) D cI ([.ref m0, .int (nI d), .int (nI w), .int x] : List Value) [(m0, .inr (6, [.int th, .int (nI nD), .int (nI nT), .int (nI nC), .ref m1, .ref m2, .ref m3, .ref m4, .ref m5])), (m1, .inl (cI, 40, .inl (fl 5 g)))] [(m0, .inr (6, [.int th, .int (nI nD), .int (nI nT), .int (nI nC), .ref m1, .ref m2, .ref m3, .ref m4, .ref m5])), (m1, .inl (cI, 40, .inl (fl 5 (um g w d x))))] := by
  refine entV (cc := cX6_put) (maxL := 4) (ret := none) (by decide) rfl (Nat.le_of_ble_eq_true rfl) (fun p e s m below meth c A ls fx hl => ?_)
  obtain ⟨hx, hb, hr, hml, hown, hts, hlocks, hk, hP, hD, hA⟩ := fx
  have hown : s.vm.findClass RX6 = some m.cls := hown
  have hS : va_S A s.heap s.heap [] := va_S.rf
  have hP : va_P D vwCl [(m0, .inr (6, [.int th, .int (nI nD), .int (nI nT), .int (nI nC), .ref m1, .ref m2, .ref m3, .ref m4, .ref m5])), (m1, .inl (cI, 40, .inl (fl 5 g)))] s.heap := hP
  have hD : va_D A [(m0, .inr (6, [.int th, .int (nI nD), .int (nI nT), .int (nI nC), .ref m1, .ref m2, .ref m3, .ref m4, .ref m5])), (m1, .inl (cI, 40, .inl (fl 5 g)))] := hD
  have hl : lv_has ls 4 [(0, .ref m0), (1, .int (nI d)), (2, .int (nI w)), (3, .int x)] := hl
  refine lv_aload_n hx hb dX6_put_0 rfl (lv_at hl 0 rfl) ?_
  refine va_get (D := D) (ci := 6) (v := .ref m1) (C := RX6) (T := TX6) (N := 9) hx hb hts iX6_put_X6 hown hk.1 hP 0 rfl rfl 4 (by decide) (hts _ mX6_put_f9) (fun _ h9 => h9) rfl dX6_put_1 ?_
  refine lv_iconst (v := 5) hx hb dX6_put_4 (by decide) ?_
  refine lv_iload_n hx hb dX6_put_5 rfl (lv_at hl 1 rfl) ?_
  refine lv_imul hx hb dX6_put_6 ?_
  refine top_int (nmulE (a := 5) (b := d) rfl rfl) ?_
  refine lv_iload_n hx hb dX6_put_7 rfl (lv_at hl 2 rfl) ?_
  refine lv_iadd hx hb dX6_put_8 ?_
  refine top_int (naddE (a := 5 * d) (b := w) rfl rfl) ?_
  refine lv_iload_n hx hb dX6_put_9 rfl (lv_at hl 3 rfl) ?_
  refine astN hx hb hk hP hD hS 1 rfl ((5 * d) + w) rfl (by omega) (Nat.le_of_ble_eq_true rfl) dX6_put_10 (fun H locs hP hD hS => ?_)
  rw [fl_w (b := 5) (d := d) (w := w) (by omega)] at hP hD
  have hP : va_P D vwCl [(m0, .inr (6, [.int th, .int (nI nD), .int (nI nT), .int (nI nC), .ref m1, .ref m2, .ref m3, .ref m4, .ref m5])), (m1, .inl (cI, 40, .inl (fl 5 (um g w d x))))] H := hP
  have hD : va_D A [(m0, .inr (6, [.int th, .int (nI nD), .int (nI nT), .int (nI nC), .ref m1, .ref m2, .ref m3, .ref m4, .ref m5])), (m1, .inl (cI, 40, .inl (fl 5 (um g w d x))))] := hD
  exact retV hx hb hr hlocks hS hP hD dX6_put_11

theorem mX6_fail_f25 : (.fieldLink RX6 25 "StarConsoleModel" "thrown" "I" : Cond) ∈ wsX6_fail := by decide +kernel
theorem iX6_fail_X6 : ∀ w ∈ wsX60, w ∈ wsX6_fail := by decide +kernel
theorem hX6_fail : yX6_fail.cls = RX6 ∧ yX6_fail.cls ≠ "java/lang/invoke/MethodHandle" ∧ yX6_fail.cls ≠ "java/lang/invoke/VarHandle" ∧ (parseMethodDescriptor yX6_fail.desc).map (fun d => d.parameters.length) = some 1 := by decide +kernel
set_option maxHeartbeats 4000000 in
set_option maxRecDepth 100000 in
theorem tX6_fail (l : Launch) (D : va_G) (cI : ClassId) (m0 m1 m2 m3 m4 m5 nD nT nC : Nat) (th : Int32) (k : Int32)  : CI l yX6_fail wsX6_fail ({ frames := 0, cells := 0, slots := 0, locals := 0 } : Room) D cI ([.ref m0, .int k] : List Value) [(m0, .inr (6, [.int th, .int (nI nD), .int (nI nT), .int (nI nC), .ref m1, .ref m2, .ref m3, .ref m4, .ref m5]))] 0 [(m0, .inr (6, [.int k, .int (nI nD), .int (nI nT), .int (nI nC), .ref m1, .ref m2, .ref m3, .ref m4, .ref m5]))] := by
  refine entI (cc := cX6_fail) (maxL := 2) (ret := (some .int)) (by decide) rfl (Nat.le_of_ble_eq_true rfl) (fun p e s m below meth c A ls fx hl => ?_)
  obtain ⟨hx, hb, hr, hml, hown, hts, hlocks, hk, hP, hD, hA⟩ := fx
  have hown : s.vm.findClass RX6 = some m.cls := hown
  have hS : va_S A s.heap s.heap [] := va_S.rf
  have hP : va_P D vwCl [(m0, .inr (6, [.int th, .int (nI nD), .int (nI nT), .int (nI nC), .ref m1, .ref m2, .ref m3, .ref m4, .ref m5]))] s.heap := hP
  have hD : va_D A [(m0, .inr (6, [.int th, .int (nI nD), .int (nI nT), .int (nI nC), .ref m1, .ref m2, .ref m3, .ref m4, .ref m5]))] := hD
  have hl : lv_has ls 2 [(0, .ref m0), (1, .int k)] := hl
  refine lv_aload_n hx hb dX6_fail_0 rfl (lv_at hl 0 rfl) ?_
  refine lv_iload_n hx hb dX6_fail_1 rfl (lv_at hl 1 rfl) ?_
  refine va_put (D := D) (ci := 6) (v := .int k) (ty := .int) (C := RX6) (T := TX6) (N := 9) hx hb hts iX6_fail_X6 tyX6 tyX6_ok nmX6 hown hk.1 hP hD hS 0 rfl rfl 0 (by decide) (hts _ mX6_fail_f25) (fun _ h9 => h9) rfl (by decide +kernel) rfl rfl (Nat.le_of_ble_eq_true rfl) dX6_fail_2 (fun H locs hP hD hS => ?_)
  have hP : va_P D vwCl [(m0, .inr (6, [.int k, .int (nI nD), .int (nI nT), .int (nI nC), .ref m1, .ref m2, .ref m3, .ref m4, .ref m5]))] H := hP
  have hD : va_D A [(m0, .inr (6, [.int k, .int (nI nD), .int (nI nT), .int (nI nC), .ref m1, .ref m2, .ref m3, .ref m4, .ref m5]))] := hD
  refine lv_iconst (v := 0) hx hb dX6_fail_5 (by decide) ?_
  exact retI hx hb hr hlocks hS hP hD dX6_fail_6 (rfl) rfl


theorem hX6_round : yX6_round.cls = RX6 ∧ yX6_round.cls ≠ "java/lang/invoke/MethodHandle" ∧ yX6_round.cls ≠ "java/lang/invoke/VarHandle" ∧ (parseMethodDescriptor yX6_round.desc).map (fun d => d.parameters.length) = some 1 := by decide +kernel
set_option maxHeartbeats 4000000 in
set_option maxRecDepth 100000 in
theorem tX6_round (l : Launch) (D : va_G) (cI : ClassId) (a : Int32)  : CI l yX6_round wsX6_round ({ frames := 0, cells := 0, slots := 0, locals := 0 } : Room) D cI ([.int a] : List Value) [] (irm (a + 360) 360) [] := by
  refine entI (cc := cX6_round) (maxL := 1) (ret := (some .int)) (by decide) rfl (Nat.le_of_ble_eq_true rfl) (fun p e s m below meth c A ls fx hl => ?_)
  obtain ⟨hx, hb, hr, hml, hown, hts, hlocks, hk, hP, hD, hA⟩ := fx
  have hown : s.vm.findClass RX6 = some m.cls := hown
  have hS : va_S A s.heap s.heap [] := va_S.rf
  have hP : va_P D vwCl [] s.heap := hP
  have hD : va_D A [] := hD
  have hl : lv_has ls 1 [(0, .int a)] := hl
  refine lv_iload_n hx hb dX6_round_0 rfl (lv_at hl 0 rfl) ?_
  refine lv_sipush (v := 360) hx hb dX6_round_1 (by decide) ?_
  refine lv_iadd hx hb dX6_round_4 ?_
  refine lv_sipush (v := 360) hx hb dX6_round_5 (by decide) ?_
  refine lv_irem hx hb dX6_round_8 (by decide) ?_
  refine top_int (show _ = irm ((a + 360)) 360 from rfl) ?_
  exact retI hx hb hr hlocks hS hP hD dX6_round_9 (rfl) rfl

theorem mX6_glow_l67 : (.methodLink RX6 67 Lib.Math.min.name : Cond) ∈ wsX6_glow := by decide +kernel
theorem mX6_glow_smin : (.static Lib.Math.min.name : Cond) ∈ wsX6_glow := by decide +kernel
theorem mX6_glow_iM : (.initialized "java/lang/Math" : Cond) ∈ wsX6_glow := by decide +kernel
theorem mX6_glow_cmin : (.code Lib.Math.min.name Lib.Math.min.code 2 (some .int) : Cond) ∈ wsX6_glow := by decide +kernel
theorem mX6_glow_l72 : (.methodLink RX6 72 Lib.Math.max.name : Cond) ∈ wsX6_glow := by decide +kernel
theorem mX6_glow_smax : (.static Lib.Math.max.name : Cond) ∈ wsX6_glow := by decide +kernel
theorem mX6_glow_cmax : (.code Lib.Math.max.name Lib.Math.max.code 2 (some .int) : Cond) ∈ wsX6_glow := by decide +kernel
theorem hX6_glow : yX6_glow.cls = RX6 ∧ yX6_glow.cls ≠ "java/lang/invoke/MethodHandle" ∧ yX6_glow.cls ≠ "java/lang/invoke/VarHandle" ∧ (parseMethodDescriptor yX6_glow.desc).map (fun d => d.parameters.length) = some 1 := by decide +kernel
set_option maxHeartbeats 4000000 in
set_option maxRecDepth 100000 in
theorem tX6_glow (l : Launch) (D : va_G) (cI : ClassId) (m0 m1 m2 m3 m4 m5 nD nT nC : Nat) (th : Int32) (g : Mx) (d : Nat) (hd : d < 8) (hl1 : bnd (g 1 d) 0 100) (hl2 : bnd (g 2 d) 0 100) (hl3 : bnd (g 3 d) 1 50) : CV l yX6_glow wsX6_glow ({ frames := 1, cells := 0, slots := 0, locals := 23 } : Room) D cI ([.ref m0, .int (nI d)] : List Value) [(m0, .inr (6, [.int th, .int (nI nD), .int (nI nT), .int (nI nC), .ref m1, .ref m2, .ref m3, .ref m4, .ref m5])), (m1, .inl (cI, 40, .inl (fl 5 g)))] [(m0, .inr (6, [.int th, .int (nI nD), .int (nI nT), .int (nI nC), .ref m1, .ref m2, .ref m3, .ref m4, .ref m5])), (m1, .inl (cI, 40, .inl (fl 5 (dSt g d))))] := by
  refine entV (cc := cX6_glow) (maxL := 5) (ret := none) (by decide) rfl (Nat.le_of_ble_eq_true rfl) (fun p e s m below meth c A ls fx hl => ?_)
  obtain ⟨hx, hb, hr, hml, hown, hts, hlocks, hk, hP, hD, hA⟩ := fx
  have hown : s.vm.findClass RX6 = some m.cls := hown
  have hS : va_S A s.heap s.heap [] := va_S.rf
  have hP : va_P D vwCl [(m0, .inr (6, [.int th, .int (nI nD), .int (nI nT), .int (nI nC), .ref m1, .ref m2, .ref m3, .ref m4, .ref m5])), (m1, .inl (cI, 40, .inl (fl 5 g)))] s.heap := hP
  have hD : va_D A [(m0, .inr (6, [.int th, .int (nI nD), .int (nI nT), .int (nI nC), .ref m1, .ref m2, .ref m3, .ref m4, .ref m5])), (m1, .inl (cI, 40, .inl (fl 5 g)))] := hD
  have hl : lv_has ls 5 [(0, .ref m0), (1, .int (nI d))] := hl
  refine lv_aload_n hx hb dX6_glow_0 rfl (lv_at hl 0 rfl) ?_
  refine lv_iload_n hx hb dX6_glow_1 rfl (lv_at hl 1 rfl) ?_
  refine lv_iconst (v := 2) hx hb dX6_glow_2 (by decide) ?_
  refine frI (wc := [(m0, .inr (6, [.int th, .int (nI nD), .int (nI nT), .int (nI nC), .ref m1, .ref m2, .ref m3, .ref m4, .ref m5])), (m1, .inl (cI, 40, .inl (fl 5 g)))]) (wc' := [(m0, .inr (6, [.int th, .int (nI nD), .int (nI nT), .int (nI nC), .ref m1, .ref m2, .ref m3, .ref m4, .ref m5])), (m1, .inl (cI, 40, .inl (fl 5 g)))]) (w' := [(m0, .inr (6, [.int th, .int (nI nD), .int (nI nT), .int (nI nC), .ref m1, .ref m2, .ref m3, .ref m4, .ref m5])), (m1, .inl (cI, 40, .inl (fl 5 g)))]) hP hD hS hA [0, 1] [] [0, 1] rfl rfl rfl rfl rfl (va_runV (As := [.int (nI d), .int 2]) (rest := []) ⟨hx, hb, hml, hown, hts⟩ (tX6_la l D cI m0 m1 m2 m3 m4 m5 nD nT nC th g d 2 (by omega) (by omega) _) (cwV 2 hts gX6_glow_X6_la rfl rfl rfl hX6_la ⟨Nat.le_of_ble_eq_true rfl, Nat.le_of_ble_eq_true rfl⟩) (preV_of hk hP hD [0, 1] rfl rfl (recvO hk hP (ci := 6) (q0 := 0) rfl rfl)) rfl rfl hl.1 rfl (lv_room (Nat.le_of_ble_eq_true rfl)) dX6_glow_3 ⟨Nat.le_of_ble_eq_true rfl, Nat.le_of_ble_eq_true rfl⟩) (fun H locs hP hD hS => ?_)
  refine lv_aload_n hx hb dX6_glow_6 rfl (lv_at hl 0 rfl) ?_
  refine lv_iload_n hx hb dX6_glow_7 rfl (lv_at hl 1 rfl) ?_
  refine lv_iconst (v := 1) hx hb dX6_glow_8 (by decide) ?_
  refine frI (wc := [(m0, .inr (6, [.int th, .int (nI nD), .int (nI nT), .int (nI nC), .ref m1, .ref m2, .ref m3, .ref m4, .ref m5])), (m1, .inl (cI, 40, .inl (fl 5 g)))]) (wc' := [(m0, .inr (6, [.int th, .int (nI nD), .int (nI nT), .int (nI nC), .ref m1, .ref m2, .ref m3, .ref m4, .ref m5])), (m1, .inl (cI, 40, .inl (fl 5 g)))]) (w' := [(m0, .inr (6, [.int th, .int (nI nD), .int (nI nT), .int (nI nC), .ref m1, .ref m2, .ref m3, .ref m4, .ref m5])), (m1, .inl (cI, 40, .inl (fl 5 g)))]) hP hD hS hA [0, 1] [] [0, 1] rfl rfl rfl rfl rfl (va_runV (As := [.int (nI d), .int 1]) (rest := [.int (g 2 d)]) ⟨hx, hb, hml, hown, hts⟩ (tX6_la l D cI m0 m1 m2 m3 m4 m5 nD nT nC th g d 1 (by omega) (by omega) _) (cwV 2 hts gX6_glow_X6_la rfl rfl rfl hX6_la ⟨Nat.le_of_ble_eq_true rfl, Nat.le_of_ble_eq_true rfl⟩) (preV_of hk hP hD [0, 1] rfl rfl (recvO hk hP (ci := 6) (q0 := 0) rfl rfl)) rfl rfl hl.1 rfl (lv_room (Nat.le_of_ble_eq_true rfl)) dX6_glow_9 ⟨Nat.le_of_ble_eq_true rfl, Nat.le_of_ble_eq_true rfl⟩) (fun H locs hP hD hS => ?_)
  refine lv_isub hx hb dX6_glow_12 ?_
  refine lv_istore_n (lv' := [(2, .int ((g 2 d) - (g 1 d))), (0, .ref m0), (1, .int (nI d))]) hx hb dX6_glow_13 rfl hl (by decide) rfl (fun ls hl => ?_)
  refine lv_aload_n hx hb dX6_glow_14 rfl (lv_at hl 1 rfl) ?_
  refine lv_iload_n hx hb dX6_glow_15 rfl (lv_at hl 2 rfl) ?_
  refine lv_iconst (v := 1) hx hb dX6_glow_16 (by decide) ?_
  refine frI (wc := [(m0, .inr (6, [.int th, .int (nI nD), .int (nI nT), .int (nI nC), .ref m1, .ref m2, .ref m3, .ref m4, .ref m5])), (m1, .inl (cI, 40, .inl (fl 5 g)))]) (wc' := [(m0, .inr (6, [.int th, .int (nI nD), .int (nI nT), .int (nI nC), .ref m1, .ref m2, .ref m3, .ref m4, .ref m5])), (m1, .inl (cI, 40, .inl (fl 5 g)))]) (w' := [(m0, .inr (6, [.int th, .int (nI nD), .int (nI nT), .int (nI nC), .ref m1, .ref m2, .ref m3, .ref m4, .ref m5])), (m1, .inl (cI, 40, .inl (fl 5 g)))]) hP hD hS hA [0, 1] [] [0, 1] rfl rfl rfl rfl rfl (va_runV (As := [.int (nI d), .int 1]) (rest := []) ⟨hx, hb, hml, hown, hts⟩ (tX6_la l D cI m0 m1 m2 m3 m4 m5 nD nT nC th g d 1 (by omega) (by omega) _) (cwV 2 hts gX6_glow_X6_la rfl rfl rfl hX6_la ⟨Nat.le_of_ble_eq_true rfl, Nat.le_of_ble_eq_true rfl⟩) (preV_of hk hP hD [0, 1] rfl rfl (recvO hk hP (ci := 6) (q0 := 0) rfl rfl)) rfl rfl hl.1 rfl (lv_room (Nat.le_of_ble_eq_true rfl)) dX6_glow_17 ⟨Nat.le_of_ble_eq_true rfl, Nat.le_of_ble_eq_true rfl⟩) (fun H locs hP hD hS => ?_)
  refine lv_aload_n hx hb dX6_glow_20 rfl (lv_at hl 1 rfl) ?_
  refine lv_iload_n hx hb dX6_glow_21 rfl (lv_at hl 2 rfl) ?_
  refine lv_iconst (v := 3) hx hb dX6_glow_22 (by decide) ?_
  refine frI (wc := [(m0, .inr (6, [.int th, .int (nI nD), .int (nI nT), .int (nI nC), .ref m1, .ref m2, .ref m3, .ref m4, .ref m5])), (m1, .inl (cI, 40, .inl (fl 5 g)))]) (wc' := [(m0, .inr (6, [.int th, .int (nI nD), .int (nI nT), .int (nI nC), .ref m1, .ref m2, .ref m3, .ref m4, .ref m5])), (m1, .inl (cI, 40, .inl (fl 5 g)))]) (w' := [(m0, .inr (6, [.int th, .int (nI nD), .int (nI nT), .int (nI nC), .ref m1, .ref m2, .ref m3, .ref m4, .ref m5])), (m1, .inl (cI, 40, .inl (fl 5 g)))]) hP hD hS hA [0, 1] [] [0, 1] rfl rfl rfl rfl rfl (va_runV (As := [.int (nI d), .int 3]) (rest := [.int (g 1 d)]) ⟨hx, hb, hml, hown, hts⟩ (tX6_la l D cI m0 m1 m2 m3 m4 m5 nD nT nC th g d 3 (by omega) (by omega) _) (cwV 2 hts gX6_glow_X6_la rfl rfl rfl hX6_la ⟨Nat.le_of_ble_eq_true rfl, Nat.le_of_ble_eq_true rfl⟩) (preV_of hk hP hD [0, 1] rfl rfl (recvO hk hP (ci := 6) (q0 := 0) rfl rfl)) rfl rfl hl.1 rfl (lv_room (Nat.le_of_ble_eq_true rfl)) dX6_glow_23 ⟨Nat.le_of_ble_eq_true rfl, Nat.le_of_ble_eq_true rfl⟩) (fun H locs hP hD hS => ?_)
  refine lv_ineg hx hb dX6_glow_26 ?_
  refine lv_aload_n hx hb dX6_glow_27 rfl (lv_at hl 1 rfl) ?_
  refine lv_iload_n hx hb dX6_glow_28 rfl (lv_at hl 2 rfl) ?_
  refine lv_iconst (v := 3) hx hb dX6_glow_29 (by decide) ?_
  refine frI (wc := [(m0, .inr (6, [.int th, .int (nI nD), .int (nI nT), .int (nI nC), .ref m1, .ref m2, .ref m3, .ref m4, .ref m5])), (m1, .inl (cI, 40, .inl (fl 5 g)))]) (wc' := [(m0, .inr (6, [.int th, .int (nI nD), .int (nI nT), .int (nI nC), .ref m1, .ref m2, .ref m3, .ref m4, .ref m5])), (m1, .inl (cI, 40, .inl (fl 5 g)))]) (w' := [(m0, .inr (6, [.int th, .int (nI nD), .int (nI nT), .int (nI nC), .ref m1, .ref m2, .ref m3, .ref m4, .ref m5])), (m1, .inl (cI, 40, .inl (fl 5 g)))]) hP hD hS hA [0, 1] [] [0, 1] rfl rfl rfl rfl rfl (va_runV (As := [.int (nI d), .int 3]) (rest := [.int (-(g 3 d)), .int (g 1 d)]) ⟨hx, hb, hml, hown, hts⟩ (tX6_la l D cI m0 m1 m2 m3 m4 m5 nD nT nC th g d 3 (by omega) (by omega) _) (cwV 2 hts gX6_glow_X6_la rfl rfl rfl hX6_la ⟨Nat.le_of_ble_eq_true rfl, Nat.le_of_ble_eq_true rfl⟩) (preV_of hk hP hD [0, 1] rfl rfl (recvO hk hP (ci := 6) (q0 := 0) rfl rfl)) rfl rfl hl.1 rfl (lv_room (Nat.le_of_ble_eq_true rfl)) dX6_glow_30 ⟨Nat.le_of_ble_eq_true rfl, Nat.le_of_ble_eq_true rfl⟩) (fun H locs hP hD hS => ?_)
  refine lv_iload_n hx hb dX6_glow_33 rfl (lv_at hl 0 rfl) ?_
  refine va_mmin hx hb (hml.trans hl.1.symm) hown (hts _ mX6_glow_l67) (hts _ mX6_glow_smin) (hts _ mX6_glow_iM) (hts _ mX6_glow_cmin) (Nat.le_of_ble_eq_true rfl) (Nat.le_of_ble_eq_true rfl) (Nat.le_of_ble_eq_true rfl) (Nat.le_of_ble_eq_true rfl) dX6_glow_34 ?_
  refine top_int (show _ = imin (g 3 d) (((g 2 d) - (g 1 d))) from rfl) ?_
  refine va_mmax hx hb (hml.trans hl.1.symm) hown (hts _ mX6_glow_l72) (hts _ mX6_glow_smax) (hts _ mX6_glow_iM) (hts _ mX6_glow_cmax) (Nat.le_of_ble_eq_true rfl) (Nat.le_of_ble_eq_true rfl) (Nat.le_of_ble_eq_true rfl) (Nat.le_of_ble_eq_true rfl) dX6_glow_37 ?_
  refine top_int (show _ = imax ((-(g 3 d))) ((imin (g 3 d) (((g 2 d) - (g 1 d))))) from rfl) ?_
  refine lv_iadd hx hb dX6_glow_40 ?_
  refine top_int (ap_rd hl1 hl2 hl3).1 ?_
  refine lv_istore_n (lv' := [(3, .int (ap (g 1 d) (g 2 d) (g 3 d))), (2, .int ((g 2 d) - (g 1 d))), (0, .ref m0), (1, .int (nI d))]) hx hb dX6_glow_41 rfl hl (by decide) rfl (fun ls hl => ?_)
  refine lv_iconst (v := 0) hx hb dX6_glow_42 (by decide) ?_
  refine lv_aload_n hx hb dX6_glow_43 rfl (lv_at hl 2 rfl) ?_
  refine lv_iload_n hx hb dX6_glow_44 rfl (lv_at hl 3 rfl) ?_
  refine lv_iconst (v := 4) hx hb dX6_glow_45 (by decide) ?_
  refine frI (wc := [(m0, .inr (6, [.int th, .int (nI nD), .int (nI nT), .int (nI nC), .ref m1, .ref m2, .ref m3, .ref m4, .ref m5])), (m1, .inl (cI, 40, .inl (fl 5 g)))]) (wc' := [(m0, .inr (6, [.int th, .int (nI nD), .int (nI nT), .int (nI nC), .ref m1, .ref m2, .ref m3, .ref m4, .ref m5])), (m1, .inl (cI, 40, .inl (fl 5 g)))]) (w' := [(m0, .inr (6, [.int th, .int (nI nD), .int (nI nT), .int (nI nC), .ref m1, .ref m2, .ref m3, .ref m4, .ref m5])), (m1, .inl (cI, 40, .inl (fl 5 g)))]) hP hD hS hA [0, 1] [] [0, 1] rfl rfl rfl rfl rfl (va_runV (As := [.int (nI d), .int 4]) (rest := [.int 0]) ⟨hx, hb, hml, hown, hts⟩ (tX6_la l D cI m0 m1 m2 m3 m4 m5 nD nT nC th g d 4 (by omega) (by omega) _) (cwV 2 hts gX6_glow_X6_la rfl rfl rfl hX6_la ⟨Nat.le_of_ble_eq_true rfl, Nat.le_of_ble_eq_true rfl⟩) (preV_of hk hP hD [0, 1] rfl rfl (recvO hk hP (ci := 6) (q0 := 0) rfl rfl)) rfl rfl hl.1 rfl (lv_room (Nat.le_of_ble_eq_true rfl)) dX6_glow_46 ⟨Nat.le_of_ble_eq_true rfl, Nat.le_of_ble_eq_true rfl⟩) (fun H locs hP hD hS => ?_)
  refine lv_iload_n hx hb dX6_glow_49 rfl (lv_at hl 0 rfl) ?_
  refine lv_bipush (v := 10) hx hb dX6_glow_50 (by decide) ?_
  refine lv_idiv hx hb dX6_glow_52 (by decide) ?_
  refine lv_isub hx hb dX6_glow_53 ?_
  refine va_mmax hx hb (hml.trans hl.1.symm) hown (hts _ mX6_glow_l72) (hts _ mX6_glow_smax) (hts _ mX6_glow_iM) (hts _ mX6_glow_cmax) (Nat.le_of_ble_eq_true rfl) (Nat.le_of_ble_eq_true rfl) (Nat.le_of_ble_eq_true rfl) (Nat.le_of_ble_eq_true rfl) dX6_glow_54 ?_
  refine top_int (show _ = imax 0 (((g 4 d) - (((ap (g 1 d) (g 2 d) (g 3 d)) / 10)))) from rfl) ?_
  refine lv_istore (lv' := [(4, .int (imax 0 (((g 4 d) - (((ap (g 1 d) (g 2 d) (g 3 d)) / 10)))))), (3, .int (ap (g 1 d) (g 2 d) (g 3 d))), (2, .int ((g 2 d) - (g 1 d))), (0, .ref m0), (1, .int (nI d))]) hx hb dX6_glow_57 hl (by decide) rfl (fun ls hl => ?_)
  refine lv_aload_n hx hb dX6_glow_59 rfl (lv_at hl 3 rfl) ?_
  refine lv_iload_n hx hb dX6_glow_60 rfl (lv_at hl 4 rfl) ?_
  refine lv_iconst (v := 4) hx hb dX6_glow_61 (by decide) ?_
  refine lv_iload hx hb dX6_glow_62 (lv_at hl 0 rfl) ?_
  refine frV (wc := [(m0, .inr (6, [.int th, .int (nI nD), .int (nI nT), .int (nI nC), .ref m1, .ref m2, .ref m3, .ref m4, .ref m5])), (m1, .inl (cI, 40, .inl (fl 5 g)))]) (wc' := [(m0, .inr (6, [.int th, .int (nI nD), .int (nI nT), .int (nI nC), .ref m1, .ref m2, .ref m3, .ref m4, .ref m5])), (m1, .inl (cI, 40, .inl (fl 5 (um g 4 d (imax 0 (g 4 d - ap (g 1 d) (g 2 d) (g 3 d) / 10))))))]) (w' := [(m0, .inr (6, [.int th, .int (nI nD), .int (nI nT), .int (nI nC), .ref m1, .ref m2, .ref m3, .ref m4, .ref m5])), (m1, .inl (cI, 40, .inl (fl 5 (um g 4 d (imax 0 (g 4 d - ap (g 1 d) (g 2 d) (g 3 d) / 10))))))]) hP hD hS hA [0, 1] [] [0, 1] rfl rfl rfl rfl rfl (va_runV (As := [.int (nI d), .int 4, .int (imax 0 (((g 4 d) - (((ap (g 1 d) (g 2 d) (g 3 d)) / 10)))))]) (rest := []) ⟨hx, hb, hml, hown, hts⟩ (tX6_put l D cI m0 m1 m2 m3 m4 m5 nD nT nC th g d 4 (imax 0 (g 4 d - ap (g 1 d) (g 2 d) (g 3 d) / 10)) (by omega) (by omega) _) (cwV 3 hts gX6_glow_X6_put rfl rfl rfl hX6_put ⟨Nat.le_of_ble_eq_true rfl, Nat.le_of_ble_eq_true rfl⟩) (preV_of hk hP hD [0, 1] rfl rfl (recvO hk hP (ci := 6) (q0 := 0) rfl rfl)) rfl rfl hl.1 rfl (lv_room (Nat.le_of_ble_eq_true rfl)) dX6_glow_64 ⟨Nat.le_of_ble_eq_true rfl, Nat.le_of_ble_eq_true rfl⟩) (fun H locs hP hD hS => ?_)
  refine lv_aload_n hx hb dX6_glow_67 rfl (lv_at hl 3 rfl) ?_
  refine lv_iload_n hx hb dX6_glow_68 rfl (lv_at hl 4 rfl) ?_
  refine lv_iconst (v := 1) hx hb dX6_glow_69 (by decide) ?_
  refine lv_iload hx hb dX6_glow_70 (lv_at hl 0 rfl) ?_
  refine lv_if_ne (tgt := 79) hx hb dX6_glow_72 (by decide) (fun c72 => ?_) (fun c72 => ?_)
  · refine lv_iload_n hx hb dX6_glow_79 rfl (lv_at hl 1 rfl) ?_
    refine frV (wc := [(m0, .inr (6, [.int th, .int (nI nD), .int (nI nT), .int (nI nC), .ref m1, .ref m2, .ref m3, .ref m4, .ref m5])), (m1, .inl (cI, 40, .inl (fl 5 (um g 4 d (imax 0 (g 4 d - ap (g 1 d) (g 2 d) (g 3 d) / 10))))))]) (wc' := [(m0, .inr (6, [.int th, .int (nI nD), .int (nI nT), .int (nI nC), .ref m1, .ref m2, .ref m3, .ref m4, .ref m5])), (m1, .inl (cI, 40, .inl (fl 5 (um (um g 4 d (imax 0 (g 4 d - ap (g 1 d) (g 2 d) (g 3 d) / 10))) 1 d (ap (g 1 d) (g 2 d) (g 3 d))))))]) (w' := [(m0, .inr (6, [.int th, .int (nI nD), .int (nI nT), .int (nI nC), .ref m1, .ref m2, .ref m3, .ref m4, .ref m5])), (m1, .inl (cI, 40, .inl (fl 5 (um (um g 4 d (imax 0 (g 4 d - ap (g 1 d) (g 2 d) (g 3 d) / 10))) 1 d (ap (g 1 d) (g 2 d) (g 3 d))))))]) hP hD hS hA [0, 1] [] [0, 1] rfl rfl rfl rfl rfl (va_runV (As := [.int (nI d), .int 1, .int (ap (g 1 d) (g 2 d) (g 3 d))]) (rest := []) ⟨hx, hb, hml, hown, hts⟩ (tX6_put l D cI m0 m1 m2 m3 m4 m5 nD nT nC th (um g 4 d (imax 0 (g 4 d - ap (g 1 d) (g 2 d) (g 3 d) / 10))) d 1 (ap (g 1 d) (g 2 d) (g 3 d)) (by omega) (by omega) _) (cwV 3 hts gX6_glow_X6_put rfl rfl rfl hX6_put ⟨Nat.le_of_ble_eq_true rfl, Nat.le_of_ble_eq_true rfl⟩) (preV_of hk hP hD [0, 1] rfl rfl (recvO hk hP (ci := 6) (q0 := 0) rfl rfl)) rfl rfl hl.1 rfl (lv_room (Nat.le_of_ble_eq_true rfl)) dX6_glow_80 ⟨Nat.le_of_ble_eq_true rfl, Nat.le_of_ble_eq_true rfl⟩) (fun H locs hP hD hS => ?_)
    rw [show dSt g d = um (um g 4 d (dLf g d)) 1 d (dLv g d) from by unfold dSt; rw [if_neg (show ¬ dLf g d = 0 from c72)]]
    exact retV hx hb hr hlocks hS hP hD dX6_glow_83
  · refine lv_iconst (v := 0) hx hb dX6_glow_75 (by decide) ?_
    refine lv_goto (tgt := 80) hx hb dX6_glow_76 (by decide) ?_
    refine frV (wc := [(m0, .inr (6, [.int th, .int (nI nD), .int (nI nT), .int (nI nC), .ref m1, .ref m2, .ref m3, .ref m4, .ref m5])), (m1, .inl (cI, 40, .inl (fl 5 (um g 4 d (imax 0 (g 4 d - ap (g 1 d) (g 2 d) (g 3 d) / 10))))))]) (wc' := [(m0, .inr (6, [.int th, .int (nI nD), .int (nI nT), .int (nI nC), .ref m1, .ref m2, .ref m3, .ref m4, .ref m5])), (m1, .inl (cI, 40, .inl (fl 5 (um (um g 4 d (imax 0 (g 4 d - ap (g 1 d) (g 2 d) (g 3 d) / 10))) 1 d 0))))]) (w' := [(m0, .inr (6, [.int th, .int (nI nD), .int (nI nT), .int (nI nC), .ref m1, .ref m2, .ref m3, .ref m4, .ref m5])), (m1, .inl (cI, 40, .inl (fl 5 (um (um g 4 d (imax 0 (g 4 d - ap (g 1 d) (g 2 d) (g 3 d) / 10))) 1 d 0))))]) hP hD hS hA [0, 1] [] [0, 1] rfl rfl rfl rfl rfl (va_runV (As := [.int (nI d), .int 1, .int 0]) (rest := []) ⟨hx, hb, hml, hown, hts⟩ (tX6_put l D cI m0 m1 m2 m3 m4 m5 nD nT nC th (um g 4 d (imax 0 (g 4 d - ap (g 1 d) (g 2 d) (g 3 d) / 10))) d 1 0 (by omega) (by omega) _) (cwV 3 hts gX6_glow_X6_put rfl rfl rfl hX6_put ⟨Nat.le_of_ble_eq_true rfl, Nat.le_of_ble_eq_true rfl⟩) (preV_of hk hP hD [0, 1] rfl rfl (recvO hk hP (ci := 6) (q0 := 0) rfl rfl)) rfl rfl hl.1 rfl (lv_room (Nat.le_of_ble_eq_true rfl)) dX6_glow_80 ⟨Nat.le_of_ble_eq_true rfl, Nat.le_of_ble_eq_true rfl⟩) (fun H locs hP hD hS => ?_)
    rw [show dSt g d = um (um g 4 d (dLf g d)) 1 d 0 from by unfold dSt; rw [if_pos (show dLf g d = 0 from c72)]]
    exact retV hx hb hr hlocks hS hP hD dX6_glow_83

theorem mX6_carryOut_f19 : (.fieldLink RX6 19 "StarConsoleModel" "show" "[I" : Cond) ∈ wsX6_carryOut := by decide +kernel
theorem iX6_carryOut_X6 : ∀ w ∈ wsX60, w ∈ wsX6_carryOut := by decide +kernel
theorem mX6_carryOut_f22 : (.fieldLink RX6 22 "StarConsoleModel" "numbers" "[I" : Cond) ∈ wsX6_carryOut := by decide +kernel
theorem mX6_carryOut_f16 : (.fieldLink RX6 16 "StarConsoleModel" "tails" "[I" : Cond) ∈ wsX6_carryOut := by decide +kernel
theorem hX6_carryOut : yX6_carryOut.cls = RX6 ∧ yX6_carryOut.cls ≠ "java/lang/invoke/MethodHandle" ∧ yX6_carryOut.cls ≠ "java/lang/invoke/VarHandle" ∧ (parseMethodDescriptor yX6_carryOut.desc).map (fun d => d.parameters.length) = some 1 := by decide +kernel
set_option maxHeartbeats 4000000 in
set_option maxRecDepth 100000 in
theorem tX6_carryOut (l : Launch) (D : va_G) (cI : ClassId) (m0 m1 m2 m3 m4 m5 nD nT nC : Nat) (th : Int32) (cu : Mx) (S : SH) (i : Nat) (hn : nD ≤ 8) (hC : nC ≤ 24) (hO : SOK nD S) (hq : qOK nD nC cu) (hi : i < nC) : CV l yX6_carryOut wsX6_carryOut ({ frames := 1, cells := 0, slots := 0, locals := 23 } : Room) D cI ([.ref m0, .int (nI i)] : List Value) [(m0, .inr (6, [.int th, .int (nI nD), .int (nI nT), .int (nI nC), .ref m1, .ref m2, .ref m3, .ref m4, .ref m5])), (m1, .inl (cI, 40, .inl (fl 5 S.2.1))), (m3, .inl (cI, 36, .inl (fl 3 S.2.2.2))), (m4, .inl (cI, 96, .inl (fl 4 cu))), (m5, .inl (cI, 8, .inl (numA S.1 S.2.2.1)))] [(m0, .inr (6, [.int th, .int (nI nD), .int (nI nT), .int (nI nC), .ref m1, .ref m2, .ref m3, .ref m4, .ref m5])), (m1, .inl (cI, 40, .inl (fl 5 (obF S (cu 1 i) (cu 2 i) (cu 3 i)).2.1))), (m3, .inl (cI, 36, .inl (fl 3 (obF S (cu 1 i) (cu 2 i) (cu 3 i)).2.2.2))), (m4, .inl (cI, 96, .inl (fl 4 cu))), (m5, .inl (cI, 8, .inl (numA (obF S (cu 1 i) (cu 2 i) (cu 3 i)).1 (obF S (cu 1 i) (cu 2 i) (cu 3 i)).2.2.1)))] := by
  refine entV (cc := cX6_carryOut) (maxL := 4) (ret := none) (by decide) rfl (Nat.le_of_ble_eq_true rfl) (fun p e s m below meth c A ls fx hl => ?_)
  obtain ⟨hx, hb, hr, hml, hown, hts, hlocks, hk, hP, hD, hA⟩ := fx
  have hown : s.vm.findClass RX6 = some m.cls := hown
  have hS : va_S A s.heap s.heap [] := va_S.rf
  have hP : va_P D vwCl [(m0, .inr (6, [.int th, .int (nI nD), .int (nI nT), .int (nI nC), .ref m1, .ref m2, .ref m3, .ref m4, .ref m5])), (m1, .inl (cI, 40, .inl (fl 5 S.2.1))), (m3, .inl (cI, 36, .inl (fl 3 S.2.2.2))), (m4, .inl (cI, 96, .inl (fl 4 cu))), (m5, .inl (cI, 8, .inl (numA S.1 S.2.2.1)))] s.heap := hP
  have hD : va_D A [(m0, .inr (6, [.int th, .int (nI nD), .int (nI nT), .int (nI nC), .ref m1, .ref m2, .ref m3, .ref m4, .ref m5])), (m1, .inl (cI, 40, .inl (fl 5 S.2.1))), (m3, .inl (cI, 36, .inl (fl 3 S.2.2.2))), (m4, .inl (cI, 96, .inl (fl 4 cu))), (m5, .inl (cI, 8, .inl (numA S.1 S.2.2.1)))] := hD
  have hl : lv_has ls 4 [(0, .ref m0), (1, .int (nI i))] := hl
  refine lv_aload_n hx hb dX6_carryOut_0 rfl (lv_at hl 0 rfl) ?_
  refine va_get (D := D) (ci := 6) (v := .ref m4) (C := RX6) (T := TX6) (N := 9) hx hb hts iX6_carryOut_X6 hown hk.1 hP 0 rfl rfl 7 (by decide) (hts _ mX6_carryOut_f19) (fun _ h9 => h9) rfl dX6_carryOut_1 ?_
  refine lv_iconst (v := 4) hx hb dX6_carryOut_4 (by decide) ?_
  refine lv_iload_n hx hb dX6_carryOut_5 rfl (lv_at hl 1 rfl) ?_
  refine lv_imul hx hb dX6_carryOut_6 ?_
  refine top_int (nmulE (a := 4) (b := i) rfl rfl) ?_
  refine lv_iconst (v := 2) hx hb dX6_carryOut_7 (by decide) ?_
  refine lv_iadd hx hb dX6_carryOut_8 ?_
  refine top_int (naddE (a := 4 * i) (b := 2) rfl rfl) ?_
  refine aldN hx hb hk hP 3 rfl ((4 * i) + 2) rfl (by omega) (Nat.le_of_ble_eq_true rfl) dX6_carryOut_9 ?_
  refine top_int (fl_r (d := i) (w := 2) (by omega)) ?_
  refine lv_istore_n (lv' := [(2, .int (cu 2 i)), (0, .ref m0), (1, .int (nI i))]) hx hb dX6_carryOut_10 rfl hl (by decide) rfl (fun ls hl => ?_)
  refine lv_aload_n hx hb dX6_carryOut_11 rfl (lv_at hl 1 rfl) ?_
  refine va_get (D := D) (ci := 6) (v := .ref m4) (C := RX6) (T := TX6) (N := 9) hx hb hts iX6_carryOut_X6 hown hk.1 hP 0 rfl rfl 7 (by decide) (hts _ mX6_carryOut_f19) (fun _ h9 => h9) rfl dX6_carryOut_12 ?_
  refine lv_iconst (v := 4) hx hb dX6_carryOut_15 (by decide) ?_
  refine lv_iload_n hx hb dX6_carryOut_16 rfl (lv_at hl 2 rfl) ?_
  refine lv_imul hx hb dX6_carryOut_17 ?_
  refine top_int (nmulE (a := 4) (b := i) rfl rfl) ?_
  refine lv_iconst (v := 3) hx hb dX6_carryOut_18 (by decide) ?_
  refine lv_iadd hx hb dX6_carryOut_19 ?_
  refine top_int (naddE (a := 4 * i) (b := 3) rfl rfl) ?_
  refine aldN hx hb hk hP 3 rfl ((4 * i) + 3) rfl (by omega) (Nat.le_of_ble_eq_true rfl) dX6_carryOut_20 ?_
  refine top_int (fl_r (d := i) (w := 3) (by omega)) ?_
  refine lv_istore_n (lv' := [(3, .int (cu 3 i)), (2, .int (cu 2 i)), (0, .ref m0), (1, .int (nI i))]) hx hb dX6_carryOut_21 rfl hl (by decide) rfl (fun ls hl => ?_)
  refine lv_aload_n hx hb dX6_carryOut_22 rfl (lv_at hl 2 rfl) ?_
  refine va_get (D := D) (ci := 6) (v := .ref m4) (C := RX6) (T := TX6) (N := 9) hx hb hts iX6_carryOut_X6 hown hk.1 hP 0 rfl rfl 7 (by decide) (hts _ mX6_carryOut_f19) (fun _ h9 => h9) rfl dX6_carryOut_23 ?_
  refine lv_iconst (v := 4) hx hb dX6_carryOut_26 (by decide) ?_
  refine lv_iload_n hx hb dX6_carryOut_27 rfl (lv_at hl 3 rfl) ?_
  refine lv_imul hx hb dX6_carryOut_28 ?_
  refine top_int (nmulE (a := 4) (b := i) rfl rfl) ?_
  refine lv_iconst (v := 1) hx hb dX6_carryOut_29 (by decide) ?_
  refine lv_iadd hx hb dX6_carryOut_30 ?_
  refine top_int (naddE (a := 4 * i) (b := 1) rfl rfl) ?_
  refine aldN hx hb hk hP 3 rfl ((4 * i) + 1) rfl (by omega) (Nat.le_of_ble_eq_true rfl) dX6_carryOut_31 ?_
  refine top_int (fl_r (d := i) (w := 1) (by omega)) ?_
  by_cases e0 : cu 1 i = 0
  · refine top_int e0 ?_
    refine lv_tableIn (off := 32) (tgt := 64) hx hb dX6_carryOut_32 (by decide) (by decide) (by decide) (by decide) ?_
    obtain ⟨⟨j, hj, ej⟩, -⟩ := (hq i hi).2.2.1 e0
    have hl : lv_has ls 4 [(3, .int (cu 3 i)), (2, .int (nI j)), (0, .ref m0), (1, .int (nI i))] := by rw [ej] at hl; exact hl
    rw [show obF S (cu 1 i) (cu 2 i) (cu 3 i) = (S.1, um S.2.1 2 j (cu 3 i), S.2.2) from by rw [obF, if_pos e0, ej, nI_clamp (show j < 2 ^ 31 by omega)]]
    refine lv_aload_n hx hb dX6_carryOut_64 rfl (lv_at hl 2 rfl) ?_
    refine lv_iload_n hx hb dX6_carryOut_65 rfl (lv_at hl 1 rfl) ?_
    refine lv_iconst (v := 2) hx hb dX6_carryOut_66 (by decide) ?_
    refine lv_iload_n hx hb dX6_carryOut_67 rfl (lv_at hl 0 rfl) ?_
    refine frV (wc := [(m0, .inr (6, [.int th, .int (nI nD), .int (nI nT), .int (nI nC), .ref m1, .ref m2, .ref m3, .ref m4, .ref m5])), (m1, .inl (cI, 40, .inl (fl 5 S.2.1)))]) (wc' := [(m0, .inr (6, [.int th, .int (nI nD), .int (nI nT), .int (nI nC), .ref m1, .ref m2, .ref m3, .ref m4, .ref m5])), (m1, .inl (cI, 40, .inl (fl 5 (um S.2.1 2 j (cu 3 i)))))]) (w' := [(m0, .inr (6, [.int th, .int (nI nD), .int (nI nT), .int (nI nC), .ref m1, .ref m2, .ref m3, .ref m4, .ref m5])), (m1, .inl (cI, 40, .inl (fl 5 (um S.2.1 2 j (cu 3 i))))), (m3, .inl (cI, 36, .inl (fl 3 S.2.2.2))), (m4, .inl (cI, 96, .inl (fl 4 cu))), (m5, .inl (cI, 8, .inl (numA S.1 S.2.2.1)))]) hP hD hS hA [0, 1] [2, 3, 4] [3, 4, 0, 1, 2] rfl rfl rfl rfl rfl (va_runV (As := [.int (nI j), .int 2, .int (cu 3 i)]) (rest := []) ⟨hx, hb, hml, hown, hts⟩ (tX6_put l D cI m0 m1 m2 m3 m4 m5 nD nT nC th S.2.1 j 2 (cu 3 i) (by omega) (by omega) _) (cwV 3 hts gX6_carryOut_X6_put rfl rfl rfl hX6_put ⟨Nat.le_of_ble_eq_true rfl, Nat.le_of_ble_eq_true rfl⟩) (preV_of hk hP hD [0, 1] rfl rfl (recvO hk hP (ci := 6) (q0 := 0) rfl rfl)) rfl rfl hl.1 rfl (lv_room (Nat.le_of_ble_eq_true rfl)) dX6_carryOut_68 ⟨Nat.le_of_ble_eq_true rfl, Nat.le_of_ble_eq_true rfl⟩) (fun H locs hP hD hS => ?_)
    exact retV hx hb hr hlocks hS hP hD dX6_carryOut_71
  by_cases e1 : cu 1 i = 1
  · refine top_int e1 ?_
    refine lv_tableIn (off := 40) (tgt := 72) hx hb dX6_carryOut_32 (by decide) (by decide) (by decide) (by decide) ?_
    rw [show obF S (cu 1 i) (cu 2 i) (cu 3 i) = (un S.1 6 (cu 3 i), S.2) from by rw [obF, if_neg e0, if_pos e1]]
    refine lv_aload_n hx hb dX6_carryOut_72 rfl (lv_at hl 2 rfl) ?_
    refine va_get (D := D) (ci := 6) (v := .ref m5) (C := RX6) (T := TX6) (N := 9) hx hb hts iX6_carryOut_X6 hown hk.1 hP 0 rfl rfl 8 (by decide) (hts _ mX6_carryOut_f22) (fun _ h9 => h9) rfl dX6_carryOut_73 ?_
    refine lv_bipush (v := 6) hx hb dX6_carryOut_76 (by decide) ?_
    refine lv_iload_n hx hb dX6_carryOut_78 rfl (lv_at hl 0 rfl) ?_
    refine astN hx hb hk hP hD hS 4 rfl 6 rfl (by omega) (Nat.le_of_ble_eq_true rfl) dX6_carryOut_79 (fun H locs hP hD hS => ?_)
    rw [nu_w (k := 6) rfl] at hP hD
    have hP : va_P D vwCl [(m0, .inr (6, [.int th, .int (nI nD), .int (nI nT), .int (nI nC), .ref m1, .ref m2, .ref m3, .ref m4, .ref m5])), (m1, .inl (cI, 40, .inl (fl 5 S.2.1))), (m3, .inl (cI, 36, .inl (fl 3 S.2.2.2))), (m4, .inl (cI, 96, .inl (fl 4 cu))), (m5, .inl (cI, 8, .inl (numA (un S.1 6 (cu 3 i)) S.2.2.1)))] H := hP
    have hD : va_D A [(m0, .inr (6, [.int th, .int (nI nD), .int (nI nT), .int (nI nC), .ref m1, .ref m2, .ref m3, .ref m4, .ref m5])), (m1, .inl (cI, 40, .inl (fl 5 S.2.1))), (m3, .inl (cI, 36, .inl (fl 3 S.2.2.2))), (m4, .inl (cI, 96, .inl (fl 4 cu))), (m5, .inl (cI, 8, .inl (numA (un S.1 6 (cu 3 i)) S.2.2.1)))] := hD
    exact retV hx hb hr hlocks hS hP hD dX6_carryOut_80
  by_cases e2 : cu 1 i = 2
  · refine top_int e2 ?_
    refine lv_tableIn (off := 49) (tgt := 81) hx hb dX6_carryOut_32 (by decide) (by decide) (by decide) (by decide) ?_
    have hK := hO.1
    rw [show obF S (cu 1 i) (cu 2 i) (cu 3 i) = (S.1, S.2.1, cN S.2.2.1, cAdd S.2.2.1 S.2.2.2 (cu 2 i) (cu 3 i)) from by rw [obF, if_neg e0, if_neg e1, if_pos e2]]
    refine lv_aload_n hx hb dX6_carryOut_81 rfl (lv_at hl 2 rfl) ?_
    refine va_get (D := D) (ci := 6) (v := .ref m5) (C := RX6) (T := TX6) (N := 9) hx hb hts iX6_carryOut_X6 hown hk.1 hP 0 rfl rfl 8 (by decide) (hts _ mX6_carryOut_f22) (fun _ h9 => h9) rfl dX6_carryOut_82 ?_
    refine lv_bipush (v := 7) hx hb dX6_carryOut_85 (by decide) ?_
    refine aldN hx hb hk hP 4 rfl 7 rfl (by omega) (Nat.le_of_ble_eq_true rfl) dX6_carryOut_87 ?_
    refine top_int (show _ = (nI S.2.2.1 : Int32) from rfl) ?_
    refine lv_bipush (v := 12) hx hb dX6_carryOut_88 (by decide) ?_
    refine icneN (i := S.2.2.1) (n := 12) (tgt := 94) hx hb (by omega) (by omega) dX6_carryOut_90 (by decide) (fun c90 => ?_) (fun c90 => ?_)
    · rw [show cN S.2.2.1 = S.2.2.1 + 1 from if_neg (by omega), show cAdd S.2.2.1 S.2.2.2 (cu 2 i) (cu 3 i) = um (um (um S.2.2.2 0 S.2.2.1 (cu 2 i)) 1 S.2.2.1 (cu 3 i)) 2 S.2.2.1 20 from if_neg (by omega)]
      refine lv_aload_n hx hb dX6_carryOut_94 rfl (lv_at hl 2 rfl) ?_
      refine va_get (D := D) (ci := 6) (v := .ref m3) (C := RX6) (T := TX6) (N := 9) hx hb hts iX6_carryOut_X6 hown hk.1 hP 0 rfl rfl 6 (by decide) (hts _ mX6_carryOut_f16) (fun _ h9 => h9) rfl dX6_carryOut_95 ?_
      refine lv_iconst (v := 3) hx hb dX6_carryOut_98 (by decide) ?_
      refine lv_aload_n hx hb dX6_carryOut_99 rfl (lv_at hl 2 rfl) ?_
      refine va_get (D := D) (ci := 6) (v := .ref m5) (C := RX6) (T := TX6) (N := 9) hx hb hts iX6_carryOut_X6 hown hk.1 hP 0 rfl rfl 8 (by decide) (hts _ mX6_carryOut_f22) (fun _ h9 => h9) rfl dX6_carryOut_100 ?_
      refine lv_bipush (v := 7) hx hb dX6_carryOut_103 (by decide) ?_
      refine aldN hx hb hk hP 4 rfl 7 rfl (by omega) (Nat.le_of_ble_eq_true rfl) dX6_carryOut_105 ?_
      refine top_int (show _ = (nI S.2.2.1 : Int32) from rfl) ?_
      refine lv_imul hx hb dX6_carryOut_106 ?_
      refine top_int (nmulE (a := 3) (b := S.2.2.1) rfl rfl) ?_
      refine lv_iconst (v := 0) hx hb dX6_carryOut_107 (by decide) ?_
      refine lv_iadd hx hb dX6_carryOut_108 ?_
      refine top_int (naddE (a := 3 * S.2.2.1) (b := 0) rfl rfl) ?_
      refine lv_iload_n hx hb dX6_carryOut_109 rfl (lv_at hl 1 rfl) ?_
      refine astN hx hb hk hP hD hS 2 rfl ((3 * S.2.2.1) + 0) rfl (by omega) (Nat.le_of_ble_eq_true rfl) dX6_carryOut_110 (fun H locs hP hD hS => ?_)
      rw [fl_w (b := 3) (d := S.2.2.1) (w := 0) (by omega)] at hP hD
      have hP : va_P D vwCl [(m0, .inr (6, [.int th, .int (nI nD), .int (nI nT), .int (nI nC), .ref m1, .ref m2, .ref m3, .ref m4, .ref m5])), (m1, .inl (cI, 40, .inl (fl 5 S.2.1))), (m3, .inl (cI, 36, .inl (fl 3 (um S.2.2.2 0 S.2.2.1 (cu 2 i))))), (m4, .inl (cI, 96, .inl (fl 4 cu))), (m5, .inl (cI, 8, .inl (numA S.1 S.2.2.1)))] H := hP
      have hD : va_D A [(m0, .inr (6, [.int th, .int (nI nD), .int (nI nT), .int (nI nC), .ref m1, .ref m2, .ref m3, .ref m4, .ref m5])), (m1, .inl (cI, 40, .inl (fl 5 S.2.1))), (m3, .inl (cI, 36, .inl (fl 3 (um S.2.2.2 0 S.2.2.1 (cu 2 i))))), (m4, .inl (cI, 96, .inl (fl 4 cu))), (m5, .inl (cI, 8, .inl (numA S.1 S.2.2.1)))] := hD
      refine lv_aload_n hx hb dX6_carryOut_111 rfl (lv_at hl 2 rfl) ?_
      refine va_get (D := D) (ci := 6) (v := .ref m3) (C := RX6) (T := TX6) (N := 9) hx hb hts iX6_carryOut_X6 hown hk.1 hP 0 rfl rfl 6 (by decide) (hts _ mX6_carryOut_f16) (fun _ h9 => h9) rfl dX6_carryOut_112 ?_
      refine lv_iconst (v := 3) hx hb dX6_carryOut_115 (by decide) ?_
      refine lv_aload_n hx hb dX6_carryOut_116 rfl (lv_at hl 2 rfl) ?_
      refine va_get (D := D) (ci := 6) (v := .ref m5) (C := RX6) (T := TX6) (N := 9) hx hb hts iX6_carryOut_X6 hown hk.1 hP 0 rfl rfl 8 (by decide) (hts _ mX6_carryOut_f22) (fun _ h9 => h9) rfl dX6_carryOut_117 ?_
      refine lv_bipush (v := 7) hx hb dX6_carryOut_120 (by decide) ?_
      refine aldN hx hb hk hP 4 rfl 7 rfl (by omega) (Nat.le_of_ble_eq_true rfl) dX6_carryOut_122 ?_
      refine top_int (show _ = (nI S.2.2.1 : Int32) from rfl) ?_
      refine lv_imul hx hb dX6_carryOut_123 ?_
      refine top_int (nmulE (a := 3) (b := S.2.2.1) rfl rfl) ?_
      refine lv_iconst (v := 1) hx hb dX6_carryOut_124 (by decide) ?_
      refine lv_iadd hx hb dX6_carryOut_125 ?_
      refine top_int (naddE (a := 3 * S.2.2.1) (b := 1) rfl rfl) ?_
      refine lv_iload_n hx hb dX6_carryOut_126 rfl (lv_at hl 0 rfl) ?_
      refine astN hx hb hk hP hD hS 2 rfl ((3 * S.2.2.1) + 1) rfl (by omega) (Nat.le_of_ble_eq_true rfl) dX6_carryOut_127 (fun H locs hP hD hS => ?_)
      rw [fl_w (b := 3) (d := S.2.2.1) (w := 1) (by omega)] at hP hD
      have hP : va_P D vwCl [(m0, .inr (6, [.int th, .int (nI nD), .int (nI nT), .int (nI nC), .ref m1, .ref m2, .ref m3, .ref m4, .ref m5])), (m1, .inl (cI, 40, .inl (fl 5 S.2.1))), (m3, .inl (cI, 36, .inl (fl 3 (um (um S.2.2.2 0 S.2.2.1 (cu 2 i)) 1 S.2.2.1 (cu 3 i))))), (m4, .inl (cI, 96, .inl (fl 4 cu))), (m5, .inl (cI, 8, .inl (numA S.1 S.2.2.1)))] H := hP
      have hD : va_D A [(m0, .inr (6, [.int th, .int (nI nD), .int (nI nT), .int (nI nC), .ref m1, .ref m2, .ref m3, .ref m4, .ref m5])), (m1, .inl (cI, 40, .inl (fl 5 S.2.1))), (m3, .inl (cI, 36, .inl (fl 3 (um (um S.2.2.2 0 S.2.2.1 (cu 2 i)) 1 S.2.2.1 (cu 3 i))))), (m4, .inl (cI, 96, .inl (fl 4 cu))), (m5, .inl (cI, 8, .inl (numA S.1 S.2.2.1)))] := hD
      refine lv_aload_n hx hb dX6_carryOut_128 rfl (lv_at hl 2 rfl) ?_
      refine va_get (D := D) (ci := 6) (v := .ref m3) (C := RX6) (T := TX6) (N := 9) hx hb hts iX6_carryOut_X6 hown hk.1 hP 0 rfl rfl 6 (by decide) (hts _ mX6_carryOut_f16) (fun _ h9 => h9) rfl dX6_carryOut_129 ?_
      refine lv_iconst (v := 3) hx hb dX6_carryOut_132 (by decide) ?_
      refine lv_aload_n hx hb dX6_carryOut_133 rfl (lv_at hl 2 rfl) ?_
      refine va_get (D := D) (ci := 6) (v := .ref m5) (C := RX6) (T := TX6) (N := 9) hx hb hts iX6_carryOut_X6 hown hk.1 hP 0 rfl rfl 8 (by decide) (hts _ mX6_carryOut_f22) (fun _ h9 => h9) rfl dX6_carryOut_134 ?_
      refine lv_bipush (v := 7) hx hb dX6_carryOut_137 (by decide) ?_
      refine aldN hx hb hk hP 4 rfl 7 rfl (by omega) (Nat.le_of_ble_eq_true rfl) dX6_carryOut_139 ?_
      refine top_int (show _ = (nI S.2.2.1 : Int32) from rfl) ?_
      refine lv_imul hx hb dX6_carryOut_140 ?_
      refine top_int (nmulE (a := 3) (b := S.2.2.1) rfl rfl) ?_
      refine lv_iconst (v := 2) hx hb dX6_carryOut_141 (by decide) ?_
      refine lv_iadd hx hb dX6_carryOut_142 ?_
      refine top_int (naddE (a := 3 * S.2.2.1) (b := 2) rfl rfl) ?_
      refine lv_bipush (v := 20) hx hb dX6_carryOut_143 (by decide) ?_
      refine astN hx hb hk hP hD hS 2 rfl ((3 * S.2.2.1) + 2) rfl (by omega) (Nat.le_of_ble_eq_true rfl) dX6_carryOut_145 (fun H locs hP hD hS => ?_)
      rw [fl_w (b := 3) (d := S.2.2.1) (w := 2) (by omega)] at hP hD
      have hP : va_P D vwCl [(m0, .inr (6, [.int th, .int (nI nD), .int (nI nT), .int (nI nC), .ref m1, .ref m2, .ref m3, .ref m4, .ref m5])), (m1, .inl (cI, 40, .inl (fl 5 S.2.1))), (m3, .inl (cI, 36, .inl (fl 3 (um (um (um S.2.2.2 0 S.2.2.1 (cu 2 i)) 1 S.2.2.1 (cu 3 i)) 2 S.2.2.1 20)))), (m4, .inl (cI, 96, .inl (fl 4 cu))), (m5, .inl (cI, 8, .inl (numA S.1 S.2.2.1)))] H := hP
      have hD : va_D A [(m0, .inr (6, [.int th, .int (nI nD), .int (nI nT), .int (nI nC), .ref m1, .ref m2, .ref m3, .ref m4, .ref m5])), (m1, .inl (cI, 40, .inl (fl 5 S.2.1))), (m3, .inl (cI, 36, .inl (fl 3 (um (um (um S.2.2.2 0 S.2.2.1 (cu 2 i)) 1 S.2.2.1 (cu 3 i)) 2 S.2.2.1 20)))), (m4, .inl (cI, 96, .inl (fl 4 cu))), (m5, .inl (cI, 8, .inl (numA S.1 S.2.2.1)))] := hD
      refine lv_aload_n hx hb dX6_carryOut_146 rfl (lv_at hl 2 rfl) ?_
      refine va_get (D := D) (ci := 6) (v := .ref m5) (C := RX6) (T := TX6) (N := 9) hx hb hts iX6_carryOut_X6 hown hk.1 hP 0 rfl rfl 8 (by decide) (hts _ mX6_carryOut_f22) (fun _ h9 => h9) rfl dX6_carryOut_147 ?_
      refine lv_bipush (v := 7) hx hb dX6_carryOut_150 (by decide) ?_
      refine lv_dup2_11 hx hb dX6_carryOut_152 rfl rfl ?_
      refine aldN hx hb hk hP 4 rfl 7 rfl (by omega) (Nat.le_of_ble_eq_true rfl) dX6_carryOut_153 ?_
      refine top_int (show _ = (nI S.2.2.1 : Int32) from rfl) ?_
      refine lv_iconst (v := 1) hx hb dX6_carryOut_154 (by decide) ?_
      refine lv_iadd hx hb dX6_carryOut_155 ?_
      refine top_int (naddE (a := S.2.2.1) (b := 1) rfl rfl) ?_
      refine astN hx hb hk hP hD hS 4 rfl 7 rfl (by omega) (Nat.le_of_ble_eq_true rfl) dX6_carryOut_156 (fun H locs hP hD hS => ?_)
      rw [show upd (numA S.1 S.2.2.1) 7 (nI (S.2.2.1 + 1)) = numA S.1 (S.2.2.1 + 1) from nu_7] at hP hD
      have hP : va_P D vwCl [(m0, .inr (6, [.int th, .int (nI nD), .int (nI nT), .int (nI nC), .ref m1, .ref m2, .ref m3, .ref m4, .ref m5])), (m1, .inl (cI, 40, .inl (fl 5 S.2.1))), (m3, .inl (cI, 36, .inl (fl 3 (um (um (um S.2.2.2 0 S.2.2.1 (cu 2 i)) 1 S.2.2.1 (cu 3 i)) 2 S.2.2.1 20)))), (m4, .inl (cI, 96, .inl (fl 4 cu))), (m5, .inl (cI, 8, .inl (numA S.1 (S.2.2.1 + 1))))] H := hP
      have hD : va_D A [(m0, .inr (6, [.int th, .int (nI nD), .int (nI nT), .int (nI nC), .ref m1, .ref m2, .ref m3, .ref m4, .ref m5])), (m1, .inl (cI, 40, .inl (fl 5 S.2.1))), (m3, .inl (cI, 36, .inl (fl 3 (um (um (um S.2.2.2 0 S.2.2.1 (cu 2 i)) 1 S.2.2.1 (cu 3 i)) 2 S.2.2.1 20)))), (m4, .inl (cI, 96, .inl (fl 4 cu))), (m5, .inl (cI, 8, .inl (numA S.1 (S.2.2.1 + 1))))] := hD
      exact retV hx hb hr hlocks hS hP hD dX6_carryOut_157
    · rw [show cN S.2.2.1 = S.2.2.1 from if_pos (by omega), show cAdd S.2.2.1 S.2.2.2 (cu 2 i) (cu 3 i) = S.2.2.2 from if_pos (by omega)]
      exact retV hx hb hr hlocks hS hP hD dX6_carryOut_93
  by_cases e3 : cu 1 i = 3
  · refine top_int e3 ?_
    refine lv_tableIn (off := 126) (tgt := 158) hx hb dX6_carryOut_32 (by decide) (by decide) (by decide) (by decide) ?_
    rw [show obF S (cu 1 i) (cu 2 i) (cu 3 i) = (un (un S.1 3 (cu 2 i)) 4 (cu 3 i), S.2) from by rw [obF, if_neg e0, if_neg e1, if_neg e2, if_pos e3]]
    refine lv_aload_n hx hb dX6_carryOut_158 rfl (lv_at hl 2 rfl) ?_
    refine va_get (D := D) (ci := 6) (v := .ref m5) (C := RX6) (T := TX6) (N := 9) hx hb hts iX6_carryOut_X6 hown hk.1 hP 0 rfl rfl 8 (by decide) (hts _ mX6_carryOut_f22) (fun _ h9 => h9) rfl dX6_carryOut_159 ?_
    refine lv_iconst (v := 3) hx hb dX6_carryOut_162 (by decide) ?_
    refine lv_iload_n hx hb dX6_carryOut_163 rfl (lv_at hl 1 rfl) ?_
    refine astN hx hb hk hP hD hS 4 rfl 3 rfl (by omega) (Nat.le_of_ble_eq_true rfl) dX6_carryOut_164 (fun H locs hP hD hS => ?_)
    rw [nu_w (k := 3) rfl] at hP hD
    have hP : va_P D vwCl [(m0, .inr (6, [.int th, .int (nI nD), .int (nI nT), .int (nI nC), .ref m1, .ref m2, .ref m3, .ref m4, .ref m5])), (m1, .inl (cI, 40, .inl (fl 5 S.2.1))), (m3, .inl (cI, 36, .inl (fl 3 S.2.2.2))), (m4, .inl (cI, 96, .inl (fl 4 cu))), (m5, .inl (cI, 8, .inl (numA (un S.1 3 (cu 2 i)) S.2.2.1)))] H := hP
    have hD : va_D A [(m0, .inr (6, [.int th, .int (nI nD), .int (nI nT), .int (nI nC), .ref m1, .ref m2, .ref m3, .ref m4, .ref m5])), (m1, .inl (cI, 40, .inl (fl 5 S.2.1))), (m3, .inl (cI, 36, .inl (fl 3 S.2.2.2))), (m4, .inl (cI, 96, .inl (fl 4 cu))), (m5, .inl (cI, 8, .inl (numA (un S.1 3 (cu 2 i)) S.2.2.1)))] := hD
    refine lv_aload_n hx hb dX6_carryOut_165 rfl (lv_at hl 2 rfl) ?_
    refine va_get (D := D) (ci := 6) (v := .ref m5) (C := RX6) (T := TX6) (N := 9) hx hb hts iX6_carryOut_X6 hown hk.1 hP 0 rfl rfl 8 (by decide) (hts _ mX6_carryOut_f22) (fun _ h9 => h9) rfl dX6_carryOut_166 ?_
    refine lv_iconst (v := 4) hx hb dX6_carryOut_169 (by decide) ?_
    refine lv_iload_n hx hb dX6_carryOut_170 rfl (lv_at hl 0 rfl) ?_
    refine astN hx hb hk hP hD hS 4 rfl 4 rfl (by omega) (Nat.le_of_ble_eq_true rfl) dX6_carryOut_171 (fun H locs hP hD hS => ?_)
    rw [nu_w (k := 4) rfl] at hP hD
    have hP : va_P D vwCl [(m0, .inr (6, [.int th, .int (nI nD), .int (nI nT), .int (nI nC), .ref m1, .ref m2, .ref m3, .ref m4, .ref m5])), (m1, .inl (cI, 40, .inl (fl 5 S.2.1))), (m3, .inl (cI, 36, .inl (fl 3 S.2.2.2))), (m4, .inl (cI, 96, .inl (fl 4 cu))), (m5, .inl (cI, 8, .inl (numA (un (un S.1 3 (cu 2 i)) 4 (cu 3 i)) S.2.2.1)))] H := hP
    have hD : va_D A [(m0, .inr (6, [.int th, .int (nI nD), .int (nI nT), .int (nI nC), .ref m1, .ref m2, .ref m3, .ref m4, .ref m5])), (m1, .inl (cI, 40, .inl (fl 5 S.2.1))), (m3, .inl (cI, 36, .inl (fl 3 S.2.2.2))), (m4, .inl (cI, 96, .inl (fl 4 cu))), (m5, .inl (cI, 8, .inl (numA (un (un S.1 3 (cu 2 i)) 4 (cu 3 i)) S.2.2.1)))] := hD
    exact retV hx hb hr hlocks hS hP hD dX6_carryOut_172
  refine lv_tableOut (tgt := 173) hx hb dX6_carryOut_32 (tsw4 e0 e1 e2 e3) (by decide) ?_
  rw [show obF S (cu 1 i) (cu 2 i) (cu 3 i) = (un S.1 2 0, S.2) from by rw [obF, if_neg e0, if_neg e1, if_neg e2, if_neg e3, if_pos (kind4 (hq i hi).2.1 e0 e1 e2 e3)]]
  refine lv_aload_n hx hb dX6_carryOut_173 rfl (lv_at hl 2 rfl) ?_
  refine va_get (D := D) (ci := 6) (v := .ref m5) (C := RX6) (T := TX6) (N := 9) hx hb hts iX6_carryOut_X6 hown hk.1 hP 0 rfl rfl 8 (by decide) (hts _ mX6_carryOut_f22) (fun _ h9 => h9) rfl dX6_carryOut_174 ?_
  refine lv_iconst (v := 2) hx hb dX6_carryOut_177 (by decide) ?_
  refine lv_iconst (v := 0) hx hb dX6_carryOut_178 (by decide) ?_
  refine astN hx hb hk hP hD hS 4 rfl 2 rfl (by omega) (Nat.le_of_ble_eq_true rfl) dX6_carryOut_179 (fun H locs hP hD hS => ?_)
  rw [nu_w (k := 2) rfl] at hP hD
  have hP : va_P D vwCl [(m0, .inr (6, [.int th, .int (nI nD), .int (nI nT), .int (nI nC), .ref m1, .ref m2, .ref m3, .ref m4, .ref m5])), (m1, .inl (cI, 40, .inl (fl 5 S.2.1))), (m3, .inl (cI, 36, .inl (fl 3 S.2.2.2))), (m4, .inl (cI, 96, .inl (fl 4 cu))), (m5, .inl (cI, 8, .inl (numA (un S.1 2 0) S.2.2.1)))] H := hP
  have hD : va_D A [(m0, .inr (6, [.int th, .int (nI nD), .int (nI nT), .int (nI nC), .ref m1, .ref m2, .ref m3, .ref m4, .ref m5])), (m1, .inl (cI, 40, .inl (fl 5 S.2.1))), (m3, .inl (cI, 36, .inl (fl 3 S.2.2.2))), (m4, .inl (cI, 96, .inl (fl 4 cu))), (m5, .inl (cI, 8, .inl (numA (un S.1 2 0) S.2.2.1)))] := hD
  exact retV hx hb hr hlocks hS hP hD dX6_carryOut_180

theorem mX6_tickOn_f22 : (.fieldLink RX6 22 "StarConsoleModel" "numbers" "[I" : Cond) ∈ wsX6_tickOn := by decide +kernel
theorem iX6_tickOn_X6 : ∀ w ∈ wsX60, w ∈ wsX6_tickOn := by decide +kernel
theorem mX6_tickOn_f29 : (.fieldLink RX6 29 "StarConsoleModel" "dimmers" "I" : Cond) ∈ wsX6_tickOn := by decide +kernel
theorem mX6_tickOn_f16 : (.fieldLink RX6 16 "StarConsoleModel" "tails" "[I" : Cond) ∈ wsX6_tickOn := by decide +kernel
theorem mX6_tickOn_f64 : (.fieldLink RX6 64 "StarConsoleModel" "cues" "I" : Cond) ∈ wsX6_tickOn := by decide +kernel
theorem mX6_tickOn_f19 : (.fieldLink RX6 19 "StarConsoleModel" "show" "[I" : Cond) ∈ wsX6_tickOn := by decide +kernel
theorem hX6_tickOn : yX6_tickOn.cls = RX6 ∧ yX6_tickOn.cls ≠ "java/lang/invoke/MethodHandle" ∧ yX6_tickOn.cls ≠ "java/lang/invoke/VarHandle" ∧ (parseMethodDescriptor yX6_tickOn.desc).map (fun d => d.parameters.length) = some 0 := by decide +kernel
set_option maxHeartbeats 4000000 in
set_option maxRecDepth 100000 in
theorem tX6_tickOn (l : Launch) (D : va_G) (cI : ClassId) (m0 m1 m2 m3 m4 m5 nD nT nC : Nat) (th : Int32) (cu : Mx) (S : SH) (hn : nD ≤ 8) (hC : nC ≤ 24) (hO : SOK nD S) (hq : qOK nD nC cu) : CI l yX6_tickOn wsX6_tickOn ({ frames := 2, cells := 0, slots := 0, locals := 47 } : Room) D cI ([.ref m0] : List Value) [(m0, .inr (6, [.int th, .int (nI nD), .int (nI nT), .int (nI nC), .ref m1, .ref m2, .ref m3, .ref m4, .ref m5])), (m1, .inl (cI, 40, .inl (fl 5 S.2.1))), (m3, .inl (cI, 36, .inl (fl 3 S.2.2.2))), (m4, .inl (cI, 96, .inl (fl 4 cu))), (m5, .inl (cI, 8, .inl (numA S.1 S.2.2.1)))] (nI (tkN nC cu S)) [(m0, .inr (6, [.int th, .int (nI nD), .int (nI nT), .int (nI nC), .ref m1, .ref m2, .ref m3, .ref m4, .ref m5])), (m1, .inl (cI, 40, .inl (fl 5 (tk nD nC cu S).2.1))), (m3, .inl (cI, 36, .inl (fl 3 (tk nD nC cu S).2.2.2))), (m4, .inl (cI, 96, .inl (fl 4 cu))), (m5, .inl (cI, 8, .inl (numA (tk nD nC cu S).1 (tk nD nC cu S).2.2.1)))] := by
  refine entI (cc := cX6_tickOn) (maxL := 4) (ret := (some .int)) (by decide) rfl (Nat.le_of_ble_eq_true rfl) (fun p e s m below meth c A ls fx hl => ?_)
  obtain ⟨hx, hb, hr, hml, hown, hts, hlocks, hk, hP, hD, hA⟩ := fx
  have hown : s.vm.findClass RX6 = some m.cls := hown
  have hS : va_S A s.heap s.heap [] := va_S.rf
  have hP : va_P D vwCl [(m0, .inr (6, [.int th, .int (nI nD), .int (nI nT), .int (nI nC), .ref m1, .ref m2, .ref m3, .ref m4, .ref m5])), (m1, .inl (cI, 40, .inl (fl 5 S.2.1))), (m3, .inl (cI, 36, .inl (fl 3 S.2.2.2))), (m4, .inl (cI, 96, .inl (fl 4 cu))), (m5, .inl (cI, 8, .inl (numA S.1 S.2.2.1)))] s.heap := hP
  have hD : va_D A [(m0, .inr (6, [.int th, .int (nI nD), .int (nI nT), .int (nI nC), .ref m1, .ref m2, .ref m3, .ref m4, .ref m5])), (m1, .inl (cI, 40, .inl (fl 5 S.2.1))), (m3, .inl (cI, 36, .inl (fl 3 S.2.2.2))), (m4, .inl (cI, 96, .inl (fl 4 cu))), (m5, .inl (cI, 8, .inl (numA S.1 S.2.2.1)))] := hD
  have hl : lv_has ls 4 [(0, .ref m0)] := hl
  refine lv_iconst (v := 0) hx hb dX6_tickOn_0 (by decide) ?_
  refine lv_istore_n (lv' := [(1, .int 0), (0, .ref m0)]) hx hb dX6_tickOn_1 rfl hl (by decide) rfl (fun ls hl => ?_)
  refine lv_aload_n hx hb dX6_tickOn_2 rfl (lv_at hl 1 rfl) ?_
  refine va_get (D := D) (ci := 6) (v := .ref m5) (C := RX6) (T := TX6) (N := 9) hx hb hts iX6_tickOn_X6 hown hk.1 hP 0 rfl rfl 8 (by decide) (hts _ mX6_tickOn_f22) (fun _ h9 => h9) rfl dX6_tickOn_3 ?_
  refine lv_iconst (v := 2) hx hb dX6_tickOn_6 (by decide) ?_
  refine aldN hx hb hk hP 4 rfl 2 rfl (by omega) (Nat.le_of_ble_eq_true rfl) dX6_tickOn_7 ?_
  refine top_int (show _ = (S.1 2 : Int32) from rfl) ?_
  refine lv_iconst (v := 1) hx hb dX6_tickOn_8 (by decide) ?_
  refine lv_icmp_ne (tgt := 70) hx hb dX6_tickOn_9 (by decide) (fun c9 => ?_) (fun c9 => ?_)
  · have c4 : S.1 2 = 0 := hO.2.2.2.1.resolve_right c9
    have hS1 := hO
    refine lv_iconst (v := 0) hx hb dX6_tickOn_70 (by decide) ?_
    refine lv_istore_n (lv' := [(2, .int 0), (1, .int 0), (0, .ref m0)]) hx hb dX6_tickOn_71 rfl hl (by decide) rfl (fun ls hl => ?_)
    have key72 : ∀ (ku72 : Nat) (i : Nat), i ≤ nD → nD - i < ku72 → ∀ (H : Heap) (locs : List Loc), va_P D vwCl [(m0, .inr (6, [.int th, .int (nI nD), .int (nI nT), .int (nI nC), .ref m1, .ref m2, .ref m3, .ref m4, .ref m5])), (m1, .inl (cI, 40, .inl (fl 5 (dGo S.2.1 i)))), (m3, .inl (cI, 36, .inl (fl 3 S.2.2.2))), (m4, .inl (cI, 96, .inl (fl 4 cu))), (m5, .inl (cI, 8, .inl (numA S.1 S.2.2.1)))] H → va_D A [(m0, .inr (6, [.int th, .int (nI nD), .int (nI nT), .int (nI nC), .ref m1, .ref m2, .ref m3, .ref m4, .ref m5])), (m1, .inl (cI, 40, .inl (fl 5 (dGo S.2.1 i)))), (m3, .inl (cI, 36, .inl (fl 3 S.2.2.2))), (m4, .inl (cI, 96, .inl (fl 4 cu))), (m5, .inl (cI, 8, .inl (numA S.1 S.2.2.1)))] → va_S A s.heap H locs → ∀ ls : Array Slot, lv_has ls 4 [(2, .int (nI i)), (1, .int 0), (0, .ref m0)] → W p l e ({ frames := 2, cells := 0, slots := 0, locals := 47 } : Room) s m ([.ref m0] : List Value).toArray below meth c H locs 0 0 (MQ below (poI D A [(m0, .inr (6, [.int th, .int (nI nD), .int (nI nT), .int (nI nC), .ref m1, .ref m2, .ref m3, .ref m4, .ref m5])), (m1, .inl (cI, 40, .inl (fl 5 (tk nD nC cu S).2.1))), (m3, .inl (cI, 36, .inl (fl 3 (tk nD nC cu S).2.2.2))), (m4, .inl (cI, 96, .inl (fl 4 cu))), (m5, .inl (cI, 8, .inl (numA (tk nD nC cu S).1 (tk nD nC cu S).2.2.1)))] (nI (tkN nC cu S))) ([.ref m0] : List Value).toArray s 0 0 A) (F0 m 72 ls []) := by
      intro ku72
      induction ku72 with
      | zero => intro i; intros; omega
      | succ ku72 ih72 =>
        intro i  hi72 hm72  H locs hP hD hS ls hl
        refine lv_iload_n hx hb dX6_tickOn_72 rfl (lv_at hl 0 rfl) ?_
        refine lv_aload_n hx hb dX6_tickOn_73 rfl (lv_at hl 2 rfl) ?_
        refine va_get (D := D) (ci := 6) (v := .int (nI nD)) (C := RX6) (T := TX6) (N := 9) hx hb hts iX6_tickOn_X6 hown hk.1 hP 0 rfl rfl 1 (by decide) (hts _ mX6_tickOn_f29) (fun _ h9 => h9) rfl dX6_tickOn_74 ?_
        refine icgeN (i := i) (n := nD) (tgt := 91) hx hb (by omega) (by omega) dX6_tickOn_77 (by decide) (fun c77 => ?_) (fun c77 => ?_)
        · obtain rfl : nD = i := by omega
          refine lv_aload_n hx hb dX6_tickOn_91 rfl (lv_at hl 2 rfl) ?_
          refine va_get (D := D) (ci := 6) (v := .ref m5) (C := RX6) (T := TX6) (N := 9) hx hb hts iX6_tickOn_X6 hown hk.1 hP 0 rfl rfl 8 (by decide) (hts _ mX6_tickOn_f22) (fun _ h9 => h9) rfl dX6_tickOn_92 ?_
          refine lv_iconst (v := 5) hx hb dX6_tickOn_95 (by decide) ?_
          refine lv_aload_n hx hb dX6_tickOn_96 rfl (lv_at hl 2 rfl) ?_
          refine va_get (D := D) (ci := 6) (v := .ref m5) (C := RX6) (T := TX6) (N := 9) hx hb hts iX6_tickOn_X6 hown hk.1 hP 0 rfl rfl 8 (by decide) (hts _ mX6_tickOn_f22) (fun _ h9 => h9) rfl dX6_tickOn_97 ?_
          refine lv_iconst (v := 5) hx hb dX6_tickOn_100 (by decide) ?_
          refine aldN hx hb hk hP 4 rfl 5 rfl (by omega) (Nat.le_of_ble_eq_true rfl) dX6_tickOn_101 ?_
          refine top_int (show _ = (S.1 5 : Int32) from rfl) ?_
          refine lv_aload_n hx hb dX6_tickOn_102 rfl (lv_at hl 2 rfl) ?_
          refine va_get (D := D) (ci := 6) (v := .ref m5) (C := RX6) (T := TX6) (N := 9) hx hb hts iX6_tickOn_X6 hown hk.1 hP 0 rfl rfl 8 (by decide) (hts _ mX6_tickOn_f22) (fun _ h9 => h9) rfl dX6_tickOn_103 ?_
          refine lv_bipush (v := 6) hx hb dX6_tickOn_106 (by decide) ?_
          refine aldN hx hb hk hP 4 rfl 6 rfl (by omega) (Nat.le_of_ble_eq_true rfl) dX6_tickOn_108 ?_
          refine top_int (show _ = (S.1 6 : Int32) from rfl) ?_
          refine lv_iadd hx hb dX6_tickOn_109 ?_
          refine frI (wc := []) (wc' := []) (w' := [(m0, .inr (6, [.int th, .int (nI nD), .int (nI nT), .int (nI nC), .ref m1, .ref m2, .ref m3, .ref m4, .ref m5])), (m1, .inl (cI, 40, .inl (fl 5 (dGo S.2.1 nD)))), (m3, .inl (cI, 36, .inl (fl 3 S.2.2.2))), (m4, .inl (cI, 96, .inl (fl 4 cu))), (m5, .inl (cI, 8, .inl (numA S.1 S.2.2.1)))]) hP hD hS hA [] [0, 1, 2, 3, 4] [0, 1, 2, 3, 4] rfl rfl rfl rfl rfl (va_runS (As := [.int ((S.1 5) + (S.1 6))]) (rest := [.int 5, .ref m5]) ⟨hx, hb, hml, hown, hts⟩ (tX6_round l D cI (((S.1 5) + (S.1 6)))  _) (va_cwS 1 hts gX6_tickOn_X6_round rfl rfl rfl hX6_round.2 ⟨Nat.le_of_ble_eq_true rfl, Nat.le_of_ble_eq_true rfl⟩) (preS_of hk hP hD [] rfl rfl) rfl rfl hl.1 rfl (lv_room (Nat.le_of_ble_eq_true rfl)) dX6_tickOn_110 ⟨Nat.le_of_ble_eq_true rfl, Nat.le_of_ble_eq_true rfl⟩) (fun H locs hP hD hS => ?_)
          refine top_int (tnd_rd hS1.2.2.2.2.1 hS1.2.2.2.2.2).1 ?_
          refine astN hx hb hk hP hD hS 4 rfl 5 rfl (by omega) (Nat.le_of_ble_eq_true rfl) dX6_tickOn_113 (fun H locs hP hD hS => ?_)
          rw [nu_w (k := 5) rfl] at hP hD
          have hP : va_P D vwCl [(m0, .inr (6, [.int th, .int (nI nD), .int (nI nT), .int (nI nC), .ref m1, .ref m2, .ref m3, .ref m4, .ref m5])), (m1, .inl (cI, 40, .inl (fl 5 (dGo S.2.1 nD)))), (m3, .inl (cI, 36, .inl (fl 3 S.2.2.2))), (m4, .inl (cI, 96, .inl (fl 4 cu))), (m5, .inl (cI, 8, .inl (numA (un S.1 5 (tnd (S.1 5) (S.1 6))) S.2.2.1)))] H := hP
          have hD : va_D A [(m0, .inr (6, [.int th, .int (nI nD), .int (nI nT), .int (nI nC), .ref m1, .ref m2, .ref m3, .ref m4, .ref m5])), (m1, .inl (cI, 40, .inl (fl 5 (dGo S.2.1 nD)))), (m3, .inl (cI, 36, .inl (fl 3 S.2.2.2))), (m4, .inl (cI, 96, .inl (fl 4 cu))), (m5, .inl (cI, 8, .inl (numA (un S.1 5 (tnd (S.1 5) (S.1 6))) S.2.2.1)))] := hD
          refine lv_iconst (v := 0) hx hb dX6_tickOn_114 (by decide) ?_
          refine lv_istore_n (lv' := [(2, .int 0), (1, .int 0), (0, .ref m0)]) hx hb dX6_tickOn_115 rfl hl (by decide) rfl (fun ls hl => ?_)
          have key116 : ∀ (ku116 : Nat) (i : Nat), i ≤ S.2.2.1 → S.2.2.1 - i < ku116 → ∀ (H : Heap) (locs : List Loc), va_P D vwCl [(m0, .inr (6, [.int th, .int (nI nD), .int (nI nT), .int (nI nC), .ref m1, .ref m2, .ref m3, .ref m4, .ref m5])), (m1, .inl (cI, 40, .inl (fl 5 (dGo S.2.1 nD)))), (m3, .inl (cI, 36, .inl (fl 3 (cGo S.2.2.2 i)))), (m4, .inl (cI, 96, .inl (fl 4 cu))), (m5, .inl (cI, 8, .inl (numA (un S.1 5 (tnd (S.1 5) (S.1 6))) S.2.2.1)))] H → va_D A [(m0, .inr (6, [.int th, .int (nI nD), .int (nI nT), .int (nI nC), .ref m1, .ref m2, .ref m3, .ref m4, .ref m5])), (m1, .inl (cI, 40, .inl (fl 5 (dGo S.2.1 nD)))), (m3, .inl (cI, 36, .inl (fl 3 (cGo S.2.2.2 i)))), (m4, .inl (cI, 96, .inl (fl 4 cu))), (m5, .inl (cI, 8, .inl (numA (un S.1 5 (tnd (S.1 5) (S.1 6))) S.2.2.1)))] → va_S A s.heap H locs → ∀ ls : Array Slot, lv_has ls 4 [(2, .int (nI i)), (1, .int 0), (0, .ref m0)] → W p l e ({ frames := 2, cells := 0, slots := 0, locals := 47 } : Room) s m ([.ref m0] : List Value).toArray below meth c H locs 0 0 (MQ below (poI D A [(m0, .inr (6, [.int th, .int (nI nD), .int (nI nT), .int (nI nC), .ref m1, .ref m2, .ref m3, .ref m4, .ref m5])), (m1, .inl (cI, 40, .inl (fl 5 (tk nD nC cu S).2.1))), (m3, .inl (cI, 36, .inl (fl 3 (tk nD nC cu S).2.2.2))), (m4, .inl (cI, 96, .inl (fl 4 cu))), (m5, .inl (cI, 8, .inl (numA (tk nD nC cu S).1 (tk nD nC cu S).2.2.1)))] (nI (tkN nC cu S))) ([.ref m0] : List Value).toArray s 0 0 A) (F0 m 116 ls []) := by
            intro ku116
            induction ku116 with
            | zero => intro i; intros; omega
            | succ ku116 ih116 =>
              intro i  hi116 hm116  H locs hP hD hS ls hl
              have hK12 := hS1.1
              refine lv_iload_n hx hb dX6_tickOn_116 rfl (lv_at hl 0 rfl) ?_
              refine lv_aload_n hx hb dX6_tickOn_117 rfl (lv_at hl 2 rfl) ?_
              refine va_get (D := D) (ci := 6) (v := .ref m5) (C := RX6) (T := TX6) (N := 9) hx hb hts iX6_tickOn_X6 hown hk.1 hP 0 rfl rfl 8 (by decide) (hts _ mX6_tickOn_f22) (fun _ h9 => h9) rfl dX6_tickOn_118 ?_
              refine lv_bipush (v := 7) hx hb dX6_tickOn_121 (by decide) ?_
              refine aldN hx hb hk hP 4 rfl 7 rfl (by omega) (Nat.le_of_ble_eq_true rfl) dX6_tickOn_123 ?_
              refine top_int (show _ = (nI S.2.2.1 : Int32) from rfl) ?_
              refine icgeN (i := i) (n := S.2.2.1) (tgt := 197) hx hb (by omega) (by omega) dX6_tickOn_124 (by decide) (fun c124 => ?_) (fun c124 => ?_)
              · obtain rfl : i = S.2.2.1 := by omega
                refine lv_aload_n hx hb dX6_tickOn_197 rfl (lv_at hl 2 rfl) ?_
                refine va_get (D := D) (ci := 6) (v := .ref m5) (C := RX6) (T := TX6) (N := 9) hx hb hts iX6_tickOn_X6 hown hk.1 hP 0 rfl rfl 8 (by decide) (hts _ mX6_tickOn_f22) (fun _ h9 => h9) rfl dX6_tickOn_198 ?_
                refine lv_iconst (v := 4) hx hb dX6_tickOn_201 (by decide) ?_
                refine aldN hx hb hk hP 4 rfl 4 rfl (by omega) (Nat.le_of_ble_eq_true rfl) dX6_tickOn_202 ?_
                refine top_int (show _ = ((un S.1 5 (tnd (S.1 5) (S.1 6))) 4 : Int32) from rfl) ?_
                refine lv_if_le (tgt := 216) hx hb dX6_tickOn_203 (by decide) (fun c203 => ?_) (fun c203 => ?_)
                · refine lv_aload_n hx hb dX6_tickOn_216 rfl (lv_at hl 2 rfl) ?_
                  refine va_get (D := D) (ci := 6) (v := .ref m5) (C := RX6) (T := TX6) (N := 9) hx hb hts iX6_tickOn_X6 hown hk.1 hP 0 rfl rfl 8 (by decide) (hts _ mX6_tickOn_f22) (fun _ h9 => h9) rfl dX6_tickOn_217 ?_
                  refine lv_iconst (v := 4) hx hb dX6_tickOn_220 (by decide) ?_
                  refine aldN hx hb hk hP 4 rfl 4 rfl (by omega) (Nat.le_of_ble_eq_true rfl) dX6_tickOn_221 ?_
                  refine top_int (show _ = ((un S.1 5 (tnd (S.1 5) (S.1 6))) 4 : Int32) from rfl) ?_
                  refine lv_if_ne (tgt := 232) hx hb dX6_tickOn_222 (by decide) (fun c222 => ?_) (fun c222 => ?_)
                  · rw [show tk nD nC cu S = tkE nD S from by rw [tk, tk1, if_pos c4], show tkN nC cu S = 0 from if_pos c4]
                    have e4 : sp4 (un S.1 5 (tnd (S.1 5) (S.1 6))) = (un S.1 5 (tnd (S.1 5) (S.1 6))) 4 := if_pos c203
                    have e3 : sp3 (un S.1 5 (tnd (S.1 5) (S.1 6))) = (un S.1 5 (tnd (S.1 5) (S.1 6))) 3 := by rw [sp3, e4]; exact if_neg c222
                    rw [show tkE nD S = (tk0 (un (un (un S.1 5 (tnd (S.1 5) (S.1 6))) 4 (sp4 (un S.1 5 (tnd (S.1 5) (S.1 6))))) 3 (sp3 (un S.1 5 (tnd (S.1 5) (S.1 6))))), dGo S.2.1 nD, S.2.2.1, cGo S.2.2.2 S.2.2.1) from rfl, e4, e3]
                    rw [un_self, un_self]
                    refine lv_aload_n hx hb dX6_tickOn_232 rfl (lv_at hl 2 rfl) ?_
                    refine va_get (D := D) (ci := 6) (v := .ref m5) (C := RX6) (T := TX6) (N := 9) hx hb hts iX6_tickOn_X6 hown hk.1 hP 0 rfl rfl 8 (by decide) (hts _ mX6_tickOn_f22) (fun _ h9 => h9) rfl dX6_tickOn_233 ?_
                    refine lv_iconst (v := 0) hx hb dX6_tickOn_236 (by decide) ?_
                    refine lv_dup2_11 hx hb dX6_tickOn_237 rfl rfl ?_
                    refine aldN hx hb hk hP 4 rfl 0 rfl (by omega) (Nat.le_of_ble_eq_true rfl) dX6_tickOn_238 ?_
                    refine top_int (show _ = ((un S.1 5 (tnd (S.1 5) (S.1 6))) 0 : Int32) from rfl) ?_
                    refine lv_iconst (v := 1) hx hb dX6_tickOn_239 (by decide) ?_
                    refine lv_iadd hx hb dX6_tickOn_240 ?_
                    refine astN hx hb hk hP hD hS 4 rfl 0 rfl (by omega) (Nat.le_of_ble_eq_true rfl) dX6_tickOn_241 (fun H locs hP hD hS => ?_)
                    rw [nu_w (k := 0) rfl] at hP hD
                    have hP : va_P D vwCl [(m0, .inr (6, [.int th, .int (nI nD), .int (nI nT), .int (nI nC), .ref m1, .ref m2, .ref m3, .ref m4, .ref m5])), (m1, .inl (cI, 40, .inl (fl 5 (dGo S.2.1 nD)))), (m3, .inl (cI, 36, .inl (fl 3 (cGo S.2.2.2 (S.2.2.1))))), (m4, .inl (cI, 96, .inl (fl 4 cu))), (m5, .inl (cI, 8, .inl (numA (un (un S.1 5 (tnd (S.1 5) (S.1 6))) 0 ((((un S.1 5 (tnd (S.1 5) (S.1 6))) 0) + 1))) S.2.2.1)))] H := hP
                    have hD : va_D A [(m0, .inr (6, [.int th, .int (nI nD), .int (nI nT), .int (nI nC), .ref m1, .ref m2, .ref m3, .ref m4, .ref m5])), (m1, .inl (cI, 40, .inl (fl 5 (dGo S.2.1 nD)))), (m3, .inl (cI, 36, .inl (fl 3 (cGo S.2.2.2 (S.2.2.1))))), (m4, .inl (cI, 96, .inl (fl 4 cu))), (m5, .inl (cI, 8, .inl (numA (un (un S.1 5 (tnd (S.1 5) (S.1 6))) 0 ((((un S.1 5 (tnd (S.1 5) (S.1 6))) 0) + 1))) S.2.2.1)))] := hD
                    refine lv_iload_n hx hb dX6_tickOn_242 rfl (lv_at hl 1 rfl) ?_
                    exact retI hx hb hr hlocks hS hP hD dX6_tickOn_243 (rfl) rfl
                  · refine lv_aload_n hx hb dX6_tickOn_225 rfl (lv_at hl 2 rfl) ?_
                    refine va_get (D := D) (ci := 6) (v := .ref m5) (C := RX6) (T := TX6) (N := 9) hx hb hts iX6_tickOn_X6 hown hk.1 hP 0 rfl rfl 8 (by decide) (hts _ mX6_tickOn_f22) (fun _ h9 => h9) rfl dX6_tickOn_226 ?_
                    refine lv_iconst (v := 3) hx hb dX6_tickOn_229 (by decide) ?_
                    refine lv_iconst (v := (-1)) hx hb dX6_tickOn_230 (by decide) ?_
                    refine astN hx hb hk hP hD hS 4 rfl 3 rfl (by omega) (Nat.le_of_ble_eq_true rfl) dX6_tickOn_231 (fun H locs hP hD hS => ?_)
                    rw [nu_w (k := 3) rfl] at hP hD
                    have hP : va_P D vwCl [(m0, .inr (6, [.int th, .int (nI nD), .int (nI nT), .int (nI nC), .ref m1, .ref m2, .ref m3, .ref m4, .ref m5])), (m1, .inl (cI, 40, .inl (fl 5 (dGo S.2.1 nD)))), (m3, .inl (cI, 36, .inl (fl 3 (cGo S.2.2.2 (S.2.2.1))))), (m4, .inl (cI, 96, .inl (fl 4 cu))), (m5, .inl (cI, 8, .inl (numA (un (un S.1 5 (tnd (S.1 5) (S.1 6))) 3 ((-1))) S.2.2.1)))] H := hP
                    have hD : va_D A [(m0, .inr (6, [.int th, .int (nI nD), .int (nI nT), .int (nI nC), .ref m1, .ref m2, .ref m3, .ref m4, .ref m5])), (m1, .inl (cI, 40, .inl (fl 5 (dGo S.2.1 nD)))), (m3, .inl (cI, 36, .inl (fl 3 (cGo S.2.2.2 (S.2.2.1))))), (m4, .inl (cI, 96, .inl (fl 4 cu))), (m5, .inl (cI, 8, .inl (numA (un (un S.1 5 (tnd (S.1 5) (S.1 6))) 3 ((-1))) S.2.2.1)))] := hD
                    rw [show tk nD nC cu S = tkE nD S from by rw [tk, tk1, if_pos c4], show tkN nC cu S = 0 from if_pos c4]
                    have e4 : sp4 (un S.1 5 (tnd (S.1 5) (S.1 6))) = (un S.1 5 (tnd (S.1 5) (S.1 6))) 4 := if_pos c203
                    have e3 : sp3 (un S.1 5 (tnd (S.1 5) (S.1 6))) = -1 := by rw [sp3, e4]; exact if_pos c222
                    rw [show tkE nD S = (tk0 (un (un (un S.1 5 (tnd (S.1 5) (S.1 6))) 4 (sp4 (un S.1 5 (tnd (S.1 5) (S.1 6))))) 3 (sp3 (un S.1 5 (tnd (S.1 5) (S.1 6))))), dGo S.2.1 nD, S.2.2.1, cGo S.2.2.2 S.2.2.1) from rfl, e4, e3]
                    rw [un_self]
                    refine lv_aload_n hx hb dX6_tickOn_232 rfl (lv_at hl 2 rfl) ?_
                    refine va_get (D := D) (ci := 6) (v := .ref m5) (C := RX6) (T := TX6) (N := 9) hx hb hts iX6_tickOn_X6 hown hk.1 hP 0 rfl rfl 8 (by decide) (hts _ mX6_tickOn_f22) (fun _ h9 => h9) rfl dX6_tickOn_233 ?_
                    refine lv_iconst (v := 0) hx hb dX6_tickOn_236 (by decide) ?_
                    refine lv_dup2_11 hx hb dX6_tickOn_237 rfl rfl ?_
                    refine aldN hx hb hk hP 4 rfl 0 rfl (by omega) (Nat.le_of_ble_eq_true rfl) dX6_tickOn_238 ?_
                    refine top_int (show _ = ((un (un S.1 5 (tnd (S.1 5) (S.1 6))) 3 ((-1))) 0 : Int32) from rfl) ?_
                    refine lv_iconst (v := 1) hx hb dX6_tickOn_239 (by decide) ?_
                    refine lv_iadd hx hb dX6_tickOn_240 ?_
                    refine astN hx hb hk hP hD hS 4 rfl 0 rfl (by omega) (Nat.le_of_ble_eq_true rfl) dX6_tickOn_241 (fun H locs hP hD hS => ?_)
                    rw [nu_w (k := 0) rfl] at hP hD
                    have hP : va_P D vwCl [(m0, .inr (6, [.int th, .int (nI nD), .int (nI nT), .int (nI nC), .ref m1, .ref m2, .ref m3, .ref m4, .ref m5])), (m1, .inl (cI, 40, .inl (fl 5 (dGo S.2.1 nD)))), (m3, .inl (cI, 36, .inl (fl 3 (cGo S.2.2.2 (S.2.2.1))))), (m4, .inl (cI, 96, .inl (fl 4 cu))), (m5, .inl (cI, 8, .inl (numA (un (un (un S.1 5 (tnd (S.1 5) (S.1 6))) 3 ((-1))) 0 ((((un (un S.1 5 (tnd (S.1 5) (S.1 6))) 3 ((-1))) 0) + 1))) S.2.2.1)))] H := hP
                    have hD : va_D A [(m0, .inr (6, [.int th, .int (nI nD), .int (nI nT), .int (nI nC), .ref m1, .ref m2, .ref m3, .ref m4, .ref m5])), (m1, .inl (cI, 40, .inl (fl 5 (dGo S.2.1 nD)))), (m3, .inl (cI, 36, .inl (fl 3 (cGo S.2.2.2 (S.2.2.1))))), (m4, .inl (cI, 96, .inl (fl 4 cu))), (m5, .inl (cI, 8, .inl (numA (un (un (un S.1 5 (tnd (S.1 5) (S.1 6))) 3 ((-1))) 0 ((((un (un S.1 5 (tnd (S.1 5) (S.1 6))) 3 ((-1))) 0) + 1))) S.2.2.1)))] := hD
                    refine lv_iload_n hx hb dX6_tickOn_242 rfl (lv_at hl 1 rfl) ?_
                    exact retI hx hb hr hlocks hS hP hD dX6_tickOn_243 (rfl) rfl
                · refine lv_aload_n hx hb dX6_tickOn_206 rfl (lv_at hl 2 rfl) ?_
                  refine va_get (D := D) (ci := 6) (v := .ref m5) (C := RX6) (T := TX6) (N := 9) hx hb hts iX6_tickOn_X6 hown hk.1 hP 0 rfl rfl 8 (by decide) (hts _ mX6_tickOn_f22) (fun _ h9 => h9) rfl dX6_tickOn_207 ?_
                  refine lv_iconst (v := 4) hx hb dX6_tickOn_210 (by decide) ?_
                  refine lv_dup2_11 hx hb dX6_tickOn_211 rfl rfl ?_
                  refine aldN hx hb hk hP 4 rfl 4 rfl (by omega) (Nat.le_of_ble_eq_true rfl) dX6_tickOn_212 ?_
                  refine top_int (show _ = ((un S.1 5 (tnd (S.1 5) (S.1 6))) 4 : Int32) from rfl) ?_
                  refine lv_iconst (v := 1) hx hb dX6_tickOn_213 (by decide) ?_
                  refine lv_isub hx hb dX6_tickOn_214 ?_
                  refine astN hx hb hk hP hD hS 4 rfl 4 rfl (by omega) (Nat.le_of_ble_eq_true rfl) dX6_tickOn_215 (fun H locs hP hD hS => ?_)
                  rw [nu_w (k := 4) rfl] at hP hD
                  have hP : va_P D vwCl [(m0, .inr (6, [.int th, .int (nI nD), .int (nI nT), .int (nI nC), .ref m1, .ref m2, .ref m3, .ref m4, .ref m5])), (m1, .inl (cI, 40, .inl (fl 5 (dGo S.2.1 nD)))), (m3, .inl (cI, 36, .inl (fl 3 (cGo S.2.2.2 (S.2.2.1))))), (m4, .inl (cI, 96, .inl (fl 4 cu))), (m5, .inl (cI, 8, .inl (numA (un (un S.1 5 (tnd (S.1 5) (S.1 6))) 4 ((((un S.1 5 (tnd (S.1 5) (S.1 6))) 4) - 1))) S.2.2.1)))] H := hP
                  have hD : va_D A [(m0, .inr (6, [.int th, .int (nI nD), .int (nI nT), .int (nI nC), .ref m1, .ref m2, .ref m3, .ref m4, .ref m5])), (m1, .inl (cI, 40, .inl (fl 5 (dGo S.2.1 nD)))), (m3, .inl (cI, 36, .inl (fl 3 (cGo S.2.2.2 (S.2.2.1))))), (m4, .inl (cI, 96, .inl (fl 4 cu))), (m5, .inl (cI, 8, .inl (numA (un (un S.1 5 (tnd (S.1 5) (S.1 6))) 4 ((((un S.1 5 (tnd (S.1 5) (S.1 6))) 4) - 1))) S.2.2.1)))] := hD
                  refine lv_aload_n hx hb dX6_tickOn_216 rfl (lv_at hl 2 rfl) ?_
                  refine va_get (D := D) (ci := 6) (v := .ref m5) (C := RX6) (T := TX6) (N := 9) hx hb hts iX6_tickOn_X6 hown hk.1 hP 0 rfl rfl 8 (by decide) (hts _ mX6_tickOn_f22) (fun _ h9 => h9) rfl dX6_tickOn_217 ?_
                  refine lv_iconst (v := 4) hx hb dX6_tickOn_220 (by decide) ?_
                  refine aldN hx hb hk hP 4 rfl 4 rfl (by omega) (Nat.le_of_ble_eq_true rfl) dX6_tickOn_221 ?_
                  refine top_int (show _ = ((un (un S.1 5 (tnd (S.1 5) (S.1 6))) 4 ((((un S.1 5 (tnd (S.1 5) (S.1 6))) 4) - 1))) 4 : Int32) from rfl) ?_
                  refine lv_if_ne (tgt := 232) hx hb dX6_tickOn_222 (by decide) (fun c222 => ?_) (fun c222 => ?_)
                  · rw [show tk nD nC cu S = tkE nD S from by rw [tk, tk1, if_pos c4], show tkN nC cu S = 0 from if_pos c4]
                    have e4 : sp4 (un S.1 5 (tnd (S.1 5) (S.1 6))) = (un S.1 5 (tnd (S.1 5) (S.1 6))) 4 - 1 := if_neg c203
                    have e3 : sp3 (un S.1 5 (tnd (S.1 5) (S.1 6))) = (un S.1 5 (tnd (S.1 5) (S.1 6))) 3 := by rw [sp3, e4]; exact if_neg c222
                    rw [show tkE nD S = (tk0 (un (un (un S.1 5 (tnd (S.1 5) (S.1 6))) 4 (sp4 (un S.1 5 (tnd (S.1 5) (S.1 6))))) 3 (sp3 (un S.1 5 (tnd (S.1 5) (S.1 6))))), dGo S.2.1 nD, S.2.2.1, cGo S.2.2.2 S.2.2.1) from rfl, e4, e3]
                    rw [show un (un (un S.1 5 (tnd (S.1 5) (S.1 6))) 4 ((un S.1 5 (tnd (S.1 5) (S.1 6))) 4 - 1)) 3 ((un S.1 5 (tnd (S.1 5) (S.1 6))) 3) = un (un S.1 5 (tnd (S.1 5) (S.1 6))) 4 ((un S.1 5 (tnd (S.1 5) (S.1 6))) 4 - 1) from un_self (nu := un (un S.1 5 (tnd (S.1 5) (S.1 6))) 4 ((un S.1 5 (tnd (S.1 5) (S.1 6))) 4 - 1)) (k := 3)]
                    refine lv_aload_n hx hb dX6_tickOn_232 rfl (lv_at hl 2 rfl) ?_
                    refine va_get (D := D) (ci := 6) (v := .ref m5) (C := RX6) (T := TX6) (N := 9) hx hb hts iX6_tickOn_X6 hown hk.1 hP 0 rfl rfl 8 (by decide) (hts _ mX6_tickOn_f22) (fun _ h9 => h9) rfl dX6_tickOn_233 ?_
                    refine lv_iconst (v := 0) hx hb dX6_tickOn_236 (by decide) ?_
                    refine lv_dup2_11 hx hb dX6_tickOn_237 rfl rfl ?_
                    refine aldN hx hb hk hP 4 rfl 0 rfl (by omega) (Nat.le_of_ble_eq_true rfl) dX6_tickOn_238 ?_
                    refine top_int (show _ = ((un (un S.1 5 (tnd (S.1 5) (S.1 6))) 4 ((((un S.1 5 (tnd (S.1 5) (S.1 6))) 4) - 1))) 0 : Int32) from rfl) ?_
                    refine lv_iconst (v := 1) hx hb dX6_tickOn_239 (by decide) ?_
                    refine lv_iadd hx hb dX6_tickOn_240 ?_
                    refine astN hx hb hk hP hD hS 4 rfl 0 rfl (by omega) (Nat.le_of_ble_eq_true rfl) dX6_tickOn_241 (fun H locs hP hD hS => ?_)
                    rw [nu_w (k := 0) rfl] at hP hD
                    have hP : va_P D vwCl [(m0, .inr (6, [.int th, .int (nI nD), .int (nI nT), .int (nI nC), .ref m1, .ref m2, .ref m3, .ref m4, .ref m5])), (m1, .inl (cI, 40, .inl (fl 5 (dGo S.2.1 nD)))), (m3, .inl (cI, 36, .inl (fl 3 (cGo S.2.2.2 (S.2.2.1))))), (m4, .inl (cI, 96, .inl (fl 4 cu))), (m5, .inl (cI, 8, .inl (numA (un (un (un S.1 5 (tnd (S.1 5) (S.1 6))) 4 ((((un S.1 5 (tnd (S.1 5) (S.1 6))) 4) - 1))) 0 ((((un (un S.1 5 (tnd (S.1 5) (S.1 6))) 4 ((((un S.1 5 (tnd (S.1 5) (S.1 6))) 4) - 1))) 0) + 1))) S.2.2.1)))] H := hP
                    have hD : va_D A [(m0, .inr (6, [.int th, .int (nI nD), .int (nI nT), .int (nI nC), .ref m1, .ref m2, .ref m3, .ref m4, .ref m5])), (m1, .inl (cI, 40, .inl (fl 5 (dGo S.2.1 nD)))), (m3, .inl (cI, 36, .inl (fl 3 (cGo S.2.2.2 (S.2.2.1))))), (m4, .inl (cI, 96, .inl (fl 4 cu))), (m5, .inl (cI, 8, .inl (numA (un (un (un S.1 5 (tnd (S.1 5) (S.1 6))) 4 ((((un S.1 5 (tnd (S.1 5) (S.1 6))) 4) - 1))) 0 ((((un (un S.1 5 (tnd (S.1 5) (S.1 6))) 4 ((((un S.1 5 (tnd (S.1 5) (S.1 6))) 4) - 1))) 0) + 1))) S.2.2.1)))] := hD
                    refine lv_iload_n hx hb dX6_tickOn_242 rfl (lv_at hl 1 rfl) ?_
                    exact retI hx hb hr hlocks hS hP hD dX6_tickOn_243 (rfl) rfl
                  · refine lv_aload_n hx hb dX6_tickOn_225 rfl (lv_at hl 2 rfl) ?_
                    refine va_get (D := D) (ci := 6) (v := .ref m5) (C := RX6) (T := TX6) (N := 9) hx hb hts iX6_tickOn_X6 hown hk.1 hP 0 rfl rfl 8 (by decide) (hts _ mX6_tickOn_f22) (fun _ h9 => h9) rfl dX6_tickOn_226 ?_
                    refine lv_iconst (v := 3) hx hb dX6_tickOn_229 (by decide) ?_
                    refine lv_iconst (v := (-1)) hx hb dX6_tickOn_230 (by decide) ?_
                    refine astN hx hb hk hP hD hS 4 rfl 3 rfl (by omega) (Nat.le_of_ble_eq_true rfl) dX6_tickOn_231 (fun H locs hP hD hS => ?_)
                    rw [nu_w (k := 3) rfl] at hP hD
                    have hP : va_P D vwCl [(m0, .inr (6, [.int th, .int (nI nD), .int (nI nT), .int (nI nC), .ref m1, .ref m2, .ref m3, .ref m4, .ref m5])), (m1, .inl (cI, 40, .inl (fl 5 (dGo S.2.1 nD)))), (m3, .inl (cI, 36, .inl (fl 3 (cGo S.2.2.2 (S.2.2.1))))), (m4, .inl (cI, 96, .inl (fl 4 cu))), (m5, .inl (cI, 8, .inl (numA (un (un (un S.1 5 (tnd (S.1 5) (S.1 6))) 4 ((((un S.1 5 (tnd (S.1 5) (S.1 6))) 4) - 1))) 3 ((-1))) S.2.2.1)))] H := hP
                    have hD : va_D A [(m0, .inr (6, [.int th, .int (nI nD), .int (nI nT), .int (nI nC), .ref m1, .ref m2, .ref m3, .ref m4, .ref m5])), (m1, .inl (cI, 40, .inl (fl 5 (dGo S.2.1 nD)))), (m3, .inl (cI, 36, .inl (fl 3 (cGo S.2.2.2 (S.2.2.1))))), (m4, .inl (cI, 96, .inl (fl 4 cu))), (m5, .inl (cI, 8, .inl (numA (un (un (un S.1 5 (tnd (S.1 5) (S.1 6))) 4 ((((un S.1 5 (tnd (S.1 5) (S.1 6))) 4) - 1))) 3 ((-1))) S.2.2.1)))] := hD
                    rw [show tk nD nC cu S = tkE nD S from by rw [tk, tk1, if_pos c4], show tkN nC cu S = 0 from if_pos c4]
                    have e4 : sp4 (un S.1 5 (tnd (S.1 5) (S.1 6))) = (un S.1 5 (tnd (S.1 5) (S.1 6))) 4 - 1 := if_neg c203
                    have e3 : sp3 (un S.1 5 (tnd (S.1 5) (S.1 6))) = -1 := by rw [sp3, e4]; exact if_pos c222
                    rw [show tkE nD S = (tk0 (un (un (un S.1 5 (tnd (S.1 5) (S.1 6))) 4 (sp4 (un S.1 5 (tnd (S.1 5) (S.1 6))))) 3 (sp3 (un S.1 5 (tnd (S.1 5) (S.1 6))))), dGo S.2.1 nD, S.2.2.1, cGo S.2.2.2 S.2.2.1) from rfl, e4, e3]
                    refine lv_aload_n hx hb dX6_tickOn_232 rfl (lv_at hl 2 rfl) ?_
                    refine va_get (D := D) (ci := 6) (v := .ref m5) (C := RX6) (T := TX6) (N := 9) hx hb hts iX6_tickOn_X6 hown hk.1 hP 0 rfl rfl 8 (by decide) (hts _ mX6_tickOn_f22) (fun _ h9 => h9) rfl dX6_tickOn_233 ?_
                    refine lv_iconst (v := 0) hx hb dX6_tickOn_236 (by decide) ?_
                    refine lv_dup2_11 hx hb dX6_tickOn_237 rfl rfl ?_
                    refine aldN hx hb hk hP 4 rfl 0 rfl (by omega) (Nat.le_of_ble_eq_true rfl) dX6_tickOn_238 ?_
                    refine top_int (show _ = ((un (un (un S.1 5 (tnd (S.1 5) (S.1 6))) 4 ((((un S.1 5 (tnd (S.1 5) (S.1 6))) 4) - 1))) 3 ((-1))) 0 : Int32) from rfl) ?_
                    refine lv_iconst (v := 1) hx hb dX6_tickOn_239 (by decide) ?_
                    refine lv_iadd hx hb dX6_tickOn_240 ?_
                    refine astN hx hb hk hP hD hS 4 rfl 0 rfl (by omega) (Nat.le_of_ble_eq_true rfl) dX6_tickOn_241 (fun H locs hP hD hS => ?_)
                    rw [nu_w (k := 0) rfl] at hP hD
                    have hP : va_P D vwCl [(m0, .inr (6, [.int th, .int (nI nD), .int (nI nT), .int (nI nC), .ref m1, .ref m2, .ref m3, .ref m4, .ref m5])), (m1, .inl (cI, 40, .inl (fl 5 (dGo S.2.1 nD)))), (m3, .inl (cI, 36, .inl (fl 3 (cGo S.2.2.2 (S.2.2.1))))), (m4, .inl (cI, 96, .inl (fl 4 cu))), (m5, .inl (cI, 8, .inl (numA (un (un (un (un S.1 5 (tnd (S.1 5) (S.1 6))) 4 ((((un S.1 5 (tnd (S.1 5) (S.1 6))) 4) - 1))) 3 ((-1))) 0 ((((un (un (un S.1 5 (tnd (S.1 5) (S.1 6))) 4 ((((un S.1 5 (tnd (S.1 5) (S.1 6))) 4) - 1))) 3 ((-1))) 0) + 1))) S.2.2.1)))] H := hP
                    have hD : va_D A [(m0, .inr (6, [.int th, .int (nI nD), .int (nI nT), .int (nI nC), .ref m1, .ref m2, .ref m3, .ref m4, .ref m5])), (m1, .inl (cI, 40, .inl (fl 5 (dGo S.2.1 nD)))), (m3, .inl (cI, 36, .inl (fl 3 (cGo S.2.2.2 (S.2.2.1))))), (m4, .inl (cI, 96, .inl (fl 4 cu))), (m5, .inl (cI, 8, .inl (numA (un (un (un (un S.1 5 (tnd (S.1 5) (S.1 6))) 4 ((((un S.1 5 (tnd (S.1 5) (S.1 6))) 4) - 1))) 3 ((-1))) 0 ((((un (un (un S.1 5 (tnd (S.1 5) (S.1 6))) 4 ((((un S.1 5 (tnd (S.1 5) (S.1 6))) 4) - 1))) 3 ((-1))) 0) + 1))) S.2.2.1)))] := hD
                    refine lv_iload_n hx hb dX6_tickOn_242 rfl (lv_at hl 1 rfl) ?_
                    exact retI hx hb hr hlocks hS hP hD dX6_tickOn_243 (rfl) rfl
              · refine lv_aload_n hx hb dX6_tickOn_127 rfl (lv_at hl 2 rfl) ?_
                refine va_get (D := D) (ci := 6) (v := .ref m3) (C := RX6) (T := TX6) (N := 9) hx hb hts iX6_tickOn_X6 hown hk.1 hP 0 rfl rfl 6 (by decide) (hts _ mX6_tickOn_f16) (fun _ h9 => h9) rfl dX6_tickOn_128 ?_
                refine lv_iconst (v := 3) hx hb dX6_tickOn_131 (by decide) ?_
                refine lv_iload_n hx hb dX6_tickOn_132 rfl (lv_at hl 0 rfl) ?_
                refine lv_imul hx hb dX6_tickOn_133 ?_
                refine top_int (nmulE (a := 3) (b := i) rfl rfl) ?_
                refine lv_iconst (v := 2) hx hb dX6_tickOn_134 (by decide) ?_
                refine lv_iadd hx hb dX6_tickOn_135 ?_
                refine top_int (naddE (a := 3 * i) (b := 2) rfl rfl) ?_
                refine aldN hx hb hk hP 2 rfl ((3 * i) + 2) rfl (by omega) (Nat.le_of_ble_eq_true rfl) dX6_tickOn_136 ?_
                refine top_int (fl_r (d := i) (w := 2) (by omega)) ?_
                refine lv_if_ne (tgt := 143) hx hb dX6_tickOn_137 (by decide) (fun c137 => ?_) (fun c137 => ?_)
                · refine lv_aload_n hx hb dX6_tickOn_143 rfl (lv_at hl 2 rfl) ?_
                  refine va_get (D := D) (ci := 6) (v := .ref m3) (C := RX6) (T := TX6) (N := 9) hx hb hts iX6_tickOn_X6 hown hk.1 hP 0 rfl rfl 6 (by decide) (hts _ mX6_tickOn_f16) (fun _ h9 => h9) rfl dX6_tickOn_144 ?_
                  refine lv_iconst (v := 3) hx hb dX6_tickOn_147 (by decide) ?_
                  refine lv_iload_n hx hb dX6_tickOn_148 rfl (lv_at hl 0 rfl) ?_
                  refine lv_imul hx hb dX6_tickOn_149 ?_
                  refine top_int (nmulE (a := 3) (b := i) rfl rfl) ?_
                  refine lv_iconst (v := 0) hx hb dX6_tickOn_150 (by decide) ?_
                  refine lv_iadd hx hb dX6_tickOn_151 ?_
                  refine top_int (naddE (a := 3 * i) (b := 0) rfl rfl) ?_
                  refine lv_aload_n hx hb dX6_tickOn_152 rfl (lv_at hl 2 rfl) ?_
                  refine va_get (D := D) (ci := 6) (v := .ref m3) (C := RX6) (T := TX6) (N := 9) hx hb hts iX6_tickOn_X6 hown hk.1 hP 0 rfl rfl 6 (by decide) (hts _ mX6_tickOn_f16) (fun _ h9 => h9) rfl dX6_tickOn_153 ?_
                  refine lv_iconst (v := 3) hx hb dX6_tickOn_156 (by decide) ?_
                  refine lv_iload_n hx hb dX6_tickOn_157 rfl (lv_at hl 0 rfl) ?_
                  refine lv_imul hx hb dX6_tickOn_158 ?_
                  refine top_int (nmulE (a := 3) (b := i) rfl rfl) ?_
                  refine lv_iconst (v := 0) hx hb dX6_tickOn_159 (by decide) ?_
                  refine lv_iadd hx hb dX6_tickOn_160 ?_
                  refine top_int (naddE (a := 3 * i) (b := 0) rfl rfl) ?_
                  refine aldN hx hb hk hP 2 rfl ((3 * i) + 0) rfl (by omega) (Nat.le_of_ble_eq_true rfl) dX6_tickOn_161 ?_
                  refine top_int (fl_r (d := i) (w := 0) (by omega)) ?_
                  refine lv_aload_n hx hb dX6_tickOn_162 rfl (lv_at hl 2 rfl) ?_
                  refine va_get (D := D) (ci := 6) (v := .ref m3) (C := RX6) (T := TX6) (N := 9) hx hb hts iX6_tickOn_X6 hown hk.1 hP 0 rfl rfl 6 (by decide) (hts _ mX6_tickOn_f16) (fun _ h9 => h9) rfl dX6_tickOn_163 ?_
                  refine lv_iconst (v := 3) hx hb dX6_tickOn_166 (by decide) ?_
                  refine lv_iload_n hx hb dX6_tickOn_167 rfl (lv_at hl 0 rfl) ?_
                  refine lv_imul hx hb dX6_tickOn_168 ?_
                  refine top_int (nmulE (a := 3) (b := i) rfl rfl) ?_
                  refine lv_iconst (v := 1) hx hb dX6_tickOn_169 (by decide) ?_
                  refine lv_iadd hx hb dX6_tickOn_170 ?_
                  refine top_int (naddE (a := 3 * i) (b := 1) rfl rfl) ?_
                  refine aldN hx hb hk hP 2 rfl ((3 * i) + 1) rfl (by omega) (Nat.le_of_ble_eq_true rfl) dX6_tickOn_171 ?_
                  refine top_int (fl_r (d := i) (w := 1) (by omega)) ?_
                  refine lv_iadd hx hb dX6_tickOn_172 ?_
                  refine frI (wc := []) (wc' := []) (w' := [(m0, .inr (6, [.int th, .int (nI nD), .int (nI nT), .int (nI nC), .ref m1, .ref m2, .ref m3, .ref m4, .ref m5])), (m1, .inl (cI, 40, .inl (fl 5 (dGo S.2.1 nD)))), (m3, .inl (cI, 36, .inl (fl 3 (cGo S.2.2.2 i)))), (m4, .inl (cI, 96, .inl (fl 4 cu))), (m5, .inl (cI, 8, .inl (numA (un S.1 5 (tnd (S.1 5) (S.1 6))) S.2.2.1)))]) hP hD hS hA [] [0, 1, 2, 3, 4] [0, 1, 2, 3, 4] rfl rfl rfl rfl rfl (va_runS (As := [.int (((cGo S.2.2.2 i) 0 i) + ((cGo S.2.2.2 i) 1 i))]) (rest := [.int (nI ((3 * i) + 0)), .ref m3]) ⟨hx, hb, hml, hown, hts⟩ (tX6_round l D cI ((((cGo S.2.2.2 i) 0 i) + ((cGo S.2.2.2 i) 1 i)))  _) (va_cwS 1 hts gX6_tickOn_X6_round rfl rfl rfl hX6_round.2 ⟨Nat.le_of_ble_eq_true rfl, Nat.le_of_ble_eq_true rfl⟩) (preS_of hk hP hD [] rfl rfl) rfl rfl hl.1 rfl (lv_room (Nat.le_of_ble_eq_true rfl)) dX6_tickOn_173 ⟨Nat.le_of_ble_eq_true rfl, Nat.le_of_ble_eq_true rfl⟩) (fun H locs hP hD hS => ?_)
                  refine top_int (tnd_rd (cGo_OK hS1.2.2.1 i (by omega) i (by omega)).1 ⟨by have := (cGo_OK hS1.2.2.1 i (by omega) i (by omega)).2.1.1; omega, by have := (cGo_OK hS1.2.2.1 i (by omega) i (by omega)).2.1.2; omega⟩).1 ?_
                  refine astN hx hb hk hP hD hS 2 rfl ((3 * i) + 0) rfl (by omega) (Nat.le_of_ble_eq_true rfl) dX6_tickOn_176 (fun H locs hP hD hS => ?_)
                  rw [fl_w (b := 3) (d := i) (w := 0) (by omega)] at hP hD
                  have hP : va_P D vwCl [(m0, .inr (6, [.int th, .int (nI nD), .int (nI nT), .int (nI nC), .ref m1, .ref m2, .ref m3, .ref m4, .ref m5])), (m1, .inl (cI, 40, .inl (fl 5 (dGo S.2.1 nD)))), (m3, .inl (cI, 36, .inl (fl 3 (um (cGo S.2.2.2 i) 0 i (tnd (cGo S.2.2.2 i 0 i) (cGo S.2.2.2 i 1 i)))))), (m4, .inl (cI, 96, .inl (fl 4 cu))), (m5, .inl (cI, 8, .inl (numA (un S.1 5 (tnd (S.1 5) (S.1 6))) S.2.2.1)))] H := hP
                  have hD : va_D A [(m0, .inr (6, [.int th, .int (nI nD), .int (nI nT), .int (nI nC), .ref m1, .ref m2, .ref m3, .ref m4, .ref m5])), (m1, .inl (cI, 40, .inl (fl 5 (dGo S.2.1 nD)))), (m3, .inl (cI, 36, .inl (fl 3 (um (cGo S.2.2.2 i) 0 i (tnd (cGo S.2.2.2 i 0 i) (cGo S.2.2.2 i 1 i)))))), (m4, .inl (cI, 96, .inl (fl 4 cu))), (m5, .inl (cI, 8, .inl (numA (un S.1 5 (tnd (S.1 5) (S.1 6))) S.2.2.1)))] := hD
                  refine lv_aload_n hx hb dX6_tickOn_177 rfl (lv_at hl 2 rfl) ?_
                  refine va_get (D := D) (ci := 6) (v := .ref m3) (C := RX6) (T := TX6) (N := 9) hx hb hts iX6_tickOn_X6 hown hk.1 hP 0 rfl rfl 6 (by decide) (hts _ mX6_tickOn_f16) (fun _ h9 => h9) rfl dX6_tickOn_178 ?_
                  refine lv_iconst (v := 3) hx hb dX6_tickOn_181 (by decide) ?_
                  refine lv_iload_n hx hb dX6_tickOn_182 rfl (lv_at hl 0 rfl) ?_
                  refine lv_imul hx hb dX6_tickOn_183 ?_
                  refine top_int (nmulE (a := 3) (b := i) rfl rfl) ?_
                  refine lv_iconst (v := 2) hx hb dX6_tickOn_184 (by decide) ?_
                  refine lv_iadd hx hb dX6_tickOn_185 ?_
                  refine top_int (naddE (a := 3 * i) (b := 2) rfl rfl) ?_
                  refine lv_dup2_11 hx hb dX6_tickOn_186 rfl rfl ?_
                  refine aldN hx hb hk hP 2 rfl ((3 * i) + 2) rfl (by omega) (Nat.le_of_ble_eq_true rfl) dX6_tickOn_187 ?_
                  refine top_int (fl_r (d := i) (w := 2) (by omega)) ?_
                  refine lv_iconst (v := 1) hx hb dX6_tickOn_188 (by decide) ?_
                  refine lv_isub hx hb dX6_tickOn_189 ?_
                  refine astN hx hb hk hP hD hS 2 rfl ((3 * i) + 2) rfl (by omega) (Nat.le_of_ble_eq_true rfl) dX6_tickOn_190 (fun H locs hP hD hS => ?_)
                  rw [fl_w (b := 3) (d := i) (w := 2) (by omega)] at hP hD
                  have hP : va_P D vwCl [(m0, .inr (6, [.int th, .int (nI nD), .int (nI nT), .int (nI nC), .ref m1, .ref m2, .ref m3, .ref m4, .ref m5])), (m1, .inl (cI, 40, .inl (fl 5 (dGo S.2.1 nD)))), (m3, .inl (cI, 36, .inl (fl 3 (um (um (cGo S.2.2.2 i) 0 i (tnd (cGo S.2.2.2 i 0 i) (cGo S.2.2.2 i 1 i))) 2 i ((((um (cGo S.2.2.2 i) 0 i (tnd (cGo S.2.2.2 i 0 i) (cGo S.2.2.2 i 1 i))) 2 i) - 1)))))), (m4, .inl (cI, 96, .inl (fl 4 cu))), (m5, .inl (cI, 8, .inl (numA (un S.1 5 (tnd (S.1 5) (S.1 6))) S.2.2.1)))] H := hP
                  have hD : va_D A [(m0, .inr (6, [.int th, .int (nI nD), .int (nI nT), .int (nI nC), .ref m1, .ref m2, .ref m3, .ref m4, .ref m5])), (m1, .inl (cI, 40, .inl (fl 5 (dGo S.2.1 nD)))), (m3, .inl (cI, 36, .inl (fl 3 (um (um (cGo S.2.2.2 i) 0 i (tnd (cGo S.2.2.2 i 0 i) (cGo S.2.2.2 i 1 i))) 2 i ((((um (cGo S.2.2.2 i) 0 i (tnd (cGo S.2.2.2 i 0 i) (cGo S.2.2.2 i 1 i))) 2 i) - 1)))))), (m4, .inl (cI, 96, .inl (fl 4 cu))), (m5, .inl (cI, 8, .inl (numA (un S.1 5 (tnd (S.1 5) (S.1 6))) S.2.2.1)))] := hD
                  refine lv_iinc (v := nI (i + 1)) (lv' := [(2, .int (nI (i + 1))), (1, .int 0), (0, .ref m0)]) hx hb dX6_tickOn_191 hl (k := 0) rfl (nI_inc i) (by decide) rfl (fun ls hl => ?_)
                  refine lv_goto (tgt := 116) hx hb dX6_tickOn_194 (by decide) ?_
                  have ihx := ih116 (i + 1)  (by omega) (by omega)
                  have hz : ¬ cGo S.2.2.2 i 2 i ≤ 0 := fun q => c137 (Int32.le_antisymm q (Int32.le_iff_toInt_le.mpr (cGo_OK hS1.2.2.1 i (by omega) i (by omega)).2.2.1))
                  rw [show cGo S.2.2.2 (i + 1) = um (um (cGo S.2.2.2 i) 0 i (tnd (cGo S.2.2.2 i 0 i) (cGo S.2.2.2 i 1 i))) 2 i (cGo S.2.2.2 i 2 i - 1) from if_neg hz] at ihx
                  exact ihx _ _ hP hD hS _ (lv_sub hl [0, 1, 2] rfl)
                · refine lv_goto (tgt := 191) hx hb dX6_tickOn_140 (by decide) ?_
                  refine lv_iinc (v := nI (i + 1)) (lv' := [(2, .int (nI (i + 1))), (1, .int 0), (0, .ref m0)]) hx hb dX6_tickOn_191 hl (k := 0) rfl (nI_inc i) (by decide) rfl (fun ls hl => ?_)
                  refine lv_goto (tgt := 116) hx hb dX6_tickOn_194 (by decide) ?_
                  have ihx := ih116 (i + 1)  (by omega) (by omega)
                  rw [show cGo S.2.2.2 (i + 1) = cGo S.2.2.2 i from if_pos (by rw [c137]; decide)] at ihx
                  exact ihx _ _ hP hD hS _ (lv_sub hl [0, 1, 2] rfl)
          have hK12 := hS1.1
          exact key116 (S.2.2.1 + 1) 0  (by omega) (by omega)  _ _ hP hD hS _ (lv_sub hl [0, 1, 2] rfl)
        · refine lv_aload_n hx hb dX6_tickOn_80 rfl (lv_at hl 2 rfl) ?_
          refine lv_iload_n hx hb dX6_tickOn_81 rfl (lv_at hl 0 rfl) ?_
          refine frV (wc := [(m0, .inr (6, [.int th, .int (nI nD), .int (nI nT), .int (nI nC), .ref m1, .ref m2, .ref m3, .ref m4, .ref m5])), (m1, .inl (cI, 40, .inl (fl 5 (dGo S.2.1 i))))]) (wc' := [(m0, .inr (6, [.int th, .int (nI nD), .int (nI nT), .int (nI nC), .ref m1, .ref m2, .ref m3, .ref m4, .ref m5])), (m1, .inl (cI, 40, .inl (fl 5 (dSt (dGo S.2.1 i) i))))]) (w' := [(m0, .inr (6, [.int th, .int (nI nD), .int (nI nT), .int (nI nC), .ref m1, .ref m2, .ref m3, .ref m4, .ref m5])), (m1, .inl (cI, 40, .inl (fl 5 (dSt (dGo S.2.1 i) i)))), (m3, .inl (cI, 36, .inl (fl 3 S.2.2.2))), (m4, .inl (cI, 96, .inl (fl 4 cu))), (m5, .inl (cI, 8, .inl (numA S.1 S.2.2.1)))]) hP hD hS hA [0, 1] [2, 3, 4] [3, 4, 0, 1, 2] rfl rfl rfl rfl rfl (va_runV (As := [.int (nI i)]) (rest := []) ⟨hx, hb, hml, hown, hts⟩ (tX6_glow l D cI m0 m1 m2 m3 m4 m5 nD nT nC th (dGo S.2.1 i) i (by omega) (dGo_OK hS1.2.1 i (by omega) i (by omega)).2.1 (dGo_OK hS1.2.1 i (by omega) i (by omega)).2.2.1 (dGo_OK hS1.2.1 i (by omega) i (by omega)).2.2.2 _) (cwV 1 hts gX6_tickOn_X6_glow rfl rfl rfl hX6_glow ⟨Nat.le_of_ble_eq_true rfl, Nat.le_of_ble_eq_true rfl⟩) (preV_of hk hP hD [0, 1] rfl rfl (recvO hk hP (ci := 6) (q0 := 0) rfl rfl)) rfl rfl hl.1 rfl (lv_room (Nat.le_of_ble_eq_true rfl)) dX6_tickOn_82 ⟨Nat.le_of_ble_eq_true rfl, Nat.le_of_ble_eq_true rfl⟩) (fun H locs hP hD hS => ?_)
          refine lv_iinc (v := nI (i + 1)) (lv' := [(2, .int (nI (i + 1))), (1, .int 0), (0, .ref m0)]) hx hb dX6_tickOn_85 hl (k := 0) rfl (nI_inc i) (by decide) rfl (fun ls hl => ?_)
          refine lv_goto (tgt := 72) hx hb dX6_tickOn_88 (by decide) ?_
          have ihx := ih72 (i + 1)  (by omega) (by omega)
          rw [show dGo S.2.1 (i + 1) = dSt (dGo S.2.1 i) i from rfl] at ihx
          exact ihx _ _ hP hD hS _ (lv_sub hl [0, 1, 2] rfl)
    exact key72 (nD + 1) 0  (by omega) (by omega)  _ _ hP hD hS _ (lv_sub hl [0, 1, 2] rfl)
  · have c4 : ¬ S.1 2 = 0 := fun q => absurd (q.symm.trans c9) (by decide)
    have hS1 := rnS_OK hO hq
    refine lv_aload_n hx hb dX6_tickOn_12 rfl (lv_at hl 1 rfl) ?_
    refine va_get (D := D) (ci := 6) (v := .ref m5) (C := RX6) (T := TX6) (N := 9) hx hb hts iX6_tickOn_X6 hown hk.1 hP 0 rfl rfl 8 (by decide) (hts _ mX6_tickOn_f22) (fun _ h9 => h9) rfl dX6_tickOn_13 ?_
    refine lv_iconst (v := 1) hx hb dX6_tickOn_16 (by decide) ?_
    refine aldN hx hb hk hP 4 rfl 1 rfl (by omega) (Nat.le_of_ble_eq_true rfl) dX6_tickOn_17 ?_
    refine top_int (show _ = (S.1 1 : Int32) from rfl) ?_
    refine lv_istore_n (lv' := [(2, .int (S.1 1)), (1, .int 0), (0, .ref m0)]) hx hb dX6_tickOn_18 rfl hl (by decide) rfl (fun ls hl => ?_)
    refine lv_iconst (v := 0) hx hb dX6_tickOn_19 (by decide) ?_
    refine lv_istore_n (lv' := [(3, .int 0), (2, .int (S.1 1)), (1, .int 0), (0, .ref m0)]) hx hb dX6_tickOn_20 rfl hl (by decide) rfl (fun ls hl => ?_)
    have key21 : ∀ (ku21 : Nat) (i : Nat), i ≤ nC → nC - i < ku21 → ∀ (H : Heap) (locs : List Loc), va_P D vwCl [(m0, .inr (6, [.int th, .int (nI nD), .int (nI nT), .int (nI nC), .ref m1, .ref m2, .ref m3, .ref m4, .ref m5])), (m1, .inl (cI, 40, .inl (fl 5 (rcS cu (S.1 1) S i).2.1))), (m3, .inl (cI, 36, .inl (fl 3 (rcS cu (S.1 1) S i).2.2.2))), (m4, .inl (cI, 96, .inl (fl 4 cu))), (m5, .inl (cI, 8, .inl (numA (rcS cu (S.1 1) S i).1 (rcS cu (S.1 1) S i).2.2.1)))] H → va_D A [(m0, .inr (6, [.int th, .int (nI nD), .int (nI nT), .int (nI nC), .ref m1, .ref m2, .ref m3, .ref m4, .ref m5])), (m1, .inl (cI, 40, .inl (fl 5 (rcS cu (S.1 1) S i).2.1))), (m3, .inl (cI, 36, .inl (fl 3 (rcS cu (S.1 1) S i).2.2.2))), (m4, .inl (cI, 96, .inl (fl 4 cu))), (m5, .inl (cI, 8, .inl (numA (rcS cu (S.1 1) S i).1 (rcS cu (S.1 1) S i).2.2.1)))] → va_S A s.heap H locs → ∀ ls : Array Slot, lv_has ls 4 [(3, .int (nI i)), (1, .int (nI (rcN cu (S.1 1) i))), (2, .int (S.1 1)), (0, .ref m0)] → W p l e ({ frames := 2, cells := 0, slots := 0, locals := 47 } : Room) s m ([.ref m0] : List Value).toArray below meth c H locs 0 0 (MQ below (poI D A [(m0, .inr (6, [.int th, .int (nI nD), .int (nI nT), .int (nI nC), .ref m1, .ref m2, .ref m3, .ref m4, .ref m5])), (m1, .inl (cI, 40, .inl (fl 5 (tk nD nC cu S).2.1))), (m3, .inl (cI, 36, .inl (fl 3 (tk nD nC cu S).2.2.2))), (m4, .inl (cI, 96, .inl (fl 4 cu))), (m5, .inl (cI, 8, .inl (numA (tk nD nC cu S).1 (tk nD nC cu S).2.2.1)))] (nI (tkN nC cu S))) ([.ref m0] : List Value).toArray s 0 0 A) (F0 m 21 ls []) := by
      intro ku21
      induction ku21 with
      | zero => intro i; intros; omega
      | succ ku21 ih21 =>
        intro i  hi21 hm21  H locs hP hD hS ls hl
        refine lv_iload_n hx hb dX6_tickOn_21 rfl (lv_at hl 0 rfl) ?_
        refine lv_aload_n hx hb dX6_tickOn_22 rfl (lv_at hl 3 rfl) ?_
        refine va_get (D := D) (ci := 6) (v := .int (nI nC)) (C := RX6) (T := TX6) (N := 9) hx hb hts iX6_tickOn_X6 hown hk.1 hP 0 rfl rfl 3 (by decide) (hts _ mX6_tickOn_f64) (fun _ h9 => h9) rfl dX6_tickOn_23 ?_
        refine icgeN (i := i) (n := nC) (tgt := 60) hx hb (by omega) (by omega) dX6_tickOn_26 (by decide) (fun c26 => ?_) (fun c26 => ?_)
        · obtain rfl : nC = i := by omega
          refine lv_aload_n hx hb dX6_tickOn_60 rfl (lv_at hl 3 rfl) ?_
          refine va_get (D := D) (ci := 6) (v := .ref m5) (C := RX6) (T := TX6) (N := 9) hx hb hts iX6_tickOn_X6 hown hk.1 hP 0 rfl rfl 8 (by decide) (hts _ mX6_tickOn_f22) (fun _ h9 => h9) rfl dX6_tickOn_61 ?_
          refine lv_iconst (v := 1) hx hb dX6_tickOn_64 (by decide) ?_
          refine lv_dup2_11 hx hb dX6_tickOn_65 rfl rfl ?_
          refine aldN hx hb hk hP 4 rfl 1 rfl (by omega) (Nat.le_of_ble_eq_true rfl) dX6_tickOn_66 ?_
          refine top_int (show _ = ((rcS cu (S.1 1) S nC).1 1 : Int32) from rfl) ?_
          refine lv_iconst (v := 1) hx hb dX6_tickOn_67 (by decide) ?_
          refine lv_iadd hx hb dX6_tickOn_68 ?_
          refine astN hx hb hk hP hD hS 4 rfl 1 rfl (by omega) (Nat.le_of_ble_eq_true rfl) dX6_tickOn_69 (fun H locs hP hD hS => ?_)
          rw [nu_w (k := 1) rfl] at hP hD
          have hP : va_P D vwCl [(m0, .inr (6, [.int th, .int (nI nD), .int (nI nT), .int (nI nC), .ref m1, .ref m2, .ref m3, .ref m4, .ref m5])), (m1, .inl (cI, 40, .inl (fl 5 (rcS cu (S.1 1) S nC).2.1))), (m3, .inl (cI, 36, .inl (fl 3 (rcS cu (S.1 1) S nC).2.2.2))), (m4, .inl (cI, 96, .inl (fl 4 cu))), (m5, .inl (cI, 8, .inl (numA (un (rcS cu (S.1 1) S nC).1 1 ((((rcS cu (S.1 1) S nC).1 1) + 1))) (rcS cu (S.1 1) S nC).2.2.1)))] H := hP
          have hD : va_D A [(m0, .inr (6, [.int th, .int (nI nD), .int (nI nT), .int (nI nC), .ref m1, .ref m2, .ref m3, .ref m4, .ref m5])), (m1, .inl (cI, 40, .inl (fl 5 (rcS cu (S.1 1) S nC).2.1))), (m3, .inl (cI, 36, .inl (fl 3 (rcS cu (S.1 1) S nC).2.2.2))), (m4, .inl (cI, 96, .inl (fl 4 cu))), (m5, .inl (cI, 8, .inl (numA (un (rcS cu (S.1 1) S nC).1 1 ((((rcS cu (S.1 1) S nC).1 1) + 1))) (rcS cu (S.1 1) S nC).2.2.1)))] := hD
          rw [show (rcS cu (S.1 1) S nC).1 1 = S.1 1 from rc_clock cu (S.1 1) S nC] at hP hD
          have hP : va_P D vwCl [(m0, .inr (6, [.int th, .int (nI nD), .int (nI nT), .int (nI nC), .ref m1, .ref m2, .ref m3, .ref m4, .ref m5])), (m1, .inl (cI, 40, .inl (fl 5 ((rnS nC cu S)).2.1))), (m3, .inl (cI, 36, .inl (fl 3 ((rnS nC cu S)).2.2.2))), (m4, .inl (cI, 96, .inl (fl 4 cu))), (m5, .inl (cI, 8, .inl (numA ((rnS nC cu S)).1 ((rnS nC cu S)).2.2.1)))] H := hP
          have hD : va_D A [(m0, .inr (6, [.int th, .int (nI nD), .int (nI nT), .int (nI nC), .ref m1, .ref m2, .ref m3, .ref m4, .ref m5])), (m1, .inl (cI, 40, .inl (fl 5 ((rnS nC cu S)).2.1))), (m3, .inl (cI, 36, .inl (fl 3 ((rnS nC cu S)).2.2.2))), (m4, .inl (cI, 96, .inl (fl 4 cu))), (m5, .inl (cI, 8, .inl (numA ((rnS nC cu S)).1 ((rnS nC cu S)).2.2.1)))] := hD
          refine lv_iconst (v := 0) hx hb dX6_tickOn_70 (by decide) ?_
          refine lv_istore_n (lv' := [(2, .int 0), (3, .int (nI nC)), (1, .int (nI (rcN cu (S.1 1) nC))), (0, .ref m0)]) hx hb dX6_tickOn_71 rfl hl (by decide) rfl (fun ls hl => ?_)
          have key72 : ∀ (ku72 : Nat) (i : Nat), i ≤ nD → nD - i < ku72 → ∀ (H : Heap) (locs : List Loc), va_P D vwCl [(m0, .inr (6, [.int th, .int (nI nD), .int (nI nT), .int (nI nC), .ref m1, .ref m2, .ref m3, .ref m4, .ref m5])), (m1, .inl (cI, 40, .inl (fl 5 (dGo (rnS nC cu S).2.1 i)))), (m3, .inl (cI, 36, .inl (fl 3 (rnS nC cu S).2.2.2))), (m4, .inl (cI, 96, .inl (fl 4 cu))), (m5, .inl (cI, 8, .inl (numA (rnS nC cu S).1 (rnS nC cu S).2.2.1)))] H → va_D A [(m0, .inr (6, [.int th, .int (nI nD), .int (nI nT), .int (nI nC), .ref m1, .ref m2, .ref m3, .ref m4, .ref m5])), (m1, .inl (cI, 40, .inl (fl 5 (dGo (rnS nC cu S).2.1 i)))), (m3, .inl (cI, 36, .inl (fl 3 (rnS nC cu S).2.2.2))), (m4, .inl (cI, 96, .inl (fl 4 cu))), (m5, .inl (cI, 8, .inl (numA (rnS nC cu S).1 (rnS nC cu S).2.2.1)))] → va_S A s.heap H locs → ∀ ls : Array Slot, lv_has ls 4 [(2, .int (nI i)), (1, .int (nI (rcN cu (S.1 1) nC))), (0, .ref m0)] → W p l e ({ frames := 2, cells := 0, slots := 0, locals := 47 } : Room) s m ([.ref m0] : List Value).toArray below meth c H locs 0 0 (MQ below (poI D A [(m0, .inr (6, [.int th, .int (nI nD), .int (nI nT), .int (nI nC), .ref m1, .ref m2, .ref m3, .ref m4, .ref m5])), (m1, .inl (cI, 40, .inl (fl 5 (tk nD nC cu S).2.1))), (m3, .inl (cI, 36, .inl (fl 3 (tk nD nC cu S).2.2.2))), (m4, .inl (cI, 96, .inl (fl 4 cu))), (m5, .inl (cI, 8, .inl (numA (tk nD nC cu S).1 (tk nD nC cu S).2.2.1)))] (nI (tkN nC cu S))) ([.ref m0] : List Value).toArray s 0 0 A) (F0 m 72 ls []) := by
            intro ku72
            induction ku72 with
            | zero => intro i; intros; omega
            | succ ku72 ih72 =>
              intro i  hi72 hm72  H locs hP hD hS ls hl
              refine lv_iload_n hx hb dX6_tickOn_72 rfl (lv_at hl 0 rfl) ?_
              refine lv_aload_n hx hb dX6_tickOn_73 rfl (lv_at hl 2 rfl) ?_
              refine va_get (D := D) (ci := 6) (v := .int (nI nD)) (C := RX6) (T := TX6) (N := 9) hx hb hts iX6_tickOn_X6 hown hk.1 hP 0 rfl rfl 1 (by decide) (hts _ mX6_tickOn_f29) (fun _ h9 => h9) rfl dX6_tickOn_74 ?_
              refine icgeN (i := i) (n := nD) (tgt := 91) hx hb (by omega) (by omega) dX6_tickOn_77 (by decide) (fun c77 => ?_) (fun c77 => ?_)
              · obtain rfl : nD = i := by omega
                refine lv_aload_n hx hb dX6_tickOn_91 rfl (lv_at hl 2 rfl) ?_
                refine va_get (D := D) (ci := 6) (v := .ref m5) (C := RX6) (T := TX6) (N := 9) hx hb hts iX6_tickOn_X6 hown hk.1 hP 0 rfl rfl 8 (by decide) (hts _ mX6_tickOn_f22) (fun _ h9 => h9) rfl dX6_tickOn_92 ?_
                refine lv_iconst (v := 5) hx hb dX6_tickOn_95 (by decide) ?_
                refine lv_aload_n hx hb dX6_tickOn_96 rfl (lv_at hl 2 rfl) ?_
                refine va_get (D := D) (ci := 6) (v := .ref m5) (C := RX6) (T := TX6) (N := 9) hx hb hts iX6_tickOn_X6 hown hk.1 hP 0 rfl rfl 8 (by decide) (hts _ mX6_tickOn_f22) (fun _ h9 => h9) rfl dX6_tickOn_97 ?_
                refine lv_iconst (v := 5) hx hb dX6_tickOn_100 (by decide) ?_
                refine aldN hx hb hk hP 4 rfl 5 rfl (by omega) (Nat.le_of_ble_eq_true rfl) dX6_tickOn_101 ?_
                refine top_int (show _ = ((rnS nC cu S).1 5 : Int32) from rfl) ?_
                refine lv_aload_n hx hb dX6_tickOn_102 rfl (lv_at hl 2 rfl) ?_
                refine va_get (D := D) (ci := 6) (v := .ref m5) (C := RX6) (T := TX6) (N := 9) hx hb hts iX6_tickOn_X6 hown hk.1 hP 0 rfl rfl 8 (by decide) (hts _ mX6_tickOn_f22) (fun _ h9 => h9) rfl dX6_tickOn_103 ?_
                refine lv_bipush (v := 6) hx hb dX6_tickOn_106 (by decide) ?_
                refine aldN hx hb hk hP 4 rfl 6 rfl (by omega) (Nat.le_of_ble_eq_true rfl) dX6_tickOn_108 ?_
                refine top_int (show _ = ((rnS nC cu S).1 6 : Int32) from rfl) ?_
                refine lv_iadd hx hb dX6_tickOn_109 ?_
                refine frI (wc := []) (wc' := []) (w' := [(m0, .inr (6, [.int th, .int (nI nD), .int (nI nT), .int (nI nC), .ref m1, .ref m2, .ref m3, .ref m4, .ref m5])), (m1, .inl (cI, 40, .inl (fl 5 (dGo (rnS nC cu S).2.1 nD)))), (m3, .inl (cI, 36, .inl (fl 3 (rnS nC cu S).2.2.2))), (m4, .inl (cI, 96, .inl (fl 4 cu))), (m5, .inl (cI, 8, .inl (numA (rnS nC cu S).1 (rnS nC cu S).2.2.1)))]) hP hD hS hA [] [0, 1, 2, 3, 4] [0, 1, 2, 3, 4] rfl rfl rfl rfl rfl (va_runS (As := [.int (((rnS nC cu S).1 5) + ((rnS nC cu S).1 6))]) (rest := [.int 5, .ref m5]) ⟨hx, hb, hml, hown, hts⟩ (tX6_round l D cI ((((rnS nC cu S).1 5) + ((rnS nC cu S).1 6)))  _) (va_cwS 1 hts gX6_tickOn_X6_round rfl rfl rfl hX6_round.2 ⟨Nat.le_of_ble_eq_true rfl, Nat.le_of_ble_eq_true rfl⟩) (preS_of hk hP hD [] rfl rfl) rfl rfl hl.1 rfl (lv_room (Nat.le_of_ble_eq_true rfl)) dX6_tickOn_110 ⟨Nat.le_of_ble_eq_true rfl, Nat.le_of_ble_eq_true rfl⟩) (fun H locs hP hD hS => ?_)
                refine top_int (tnd_rd hS1.2.2.2.2.1 hS1.2.2.2.2.2).1 ?_
                refine astN hx hb hk hP hD hS 4 rfl 5 rfl (by omega) (Nat.le_of_ble_eq_true rfl) dX6_tickOn_113 (fun H locs hP hD hS => ?_)
                rw [nu_w (k := 5) rfl] at hP hD
                have hP : va_P D vwCl [(m0, .inr (6, [.int th, .int (nI nD), .int (nI nT), .int (nI nC), .ref m1, .ref m2, .ref m3, .ref m4, .ref m5])), (m1, .inl (cI, 40, .inl (fl 5 (dGo (rnS nC cu S).2.1 nD)))), (m3, .inl (cI, 36, .inl (fl 3 (rnS nC cu S).2.2.2))), (m4, .inl (cI, 96, .inl (fl 4 cu))), (m5, .inl (cI, 8, .inl (numA (un (rnS nC cu S).1 5 (tnd ((rnS nC cu S).1 5) ((rnS nC cu S).1 6))) (rnS nC cu S).2.2.1)))] H := hP
                have hD : va_D A [(m0, .inr (6, [.int th, .int (nI nD), .int (nI nT), .int (nI nC), .ref m1, .ref m2, .ref m3, .ref m4, .ref m5])), (m1, .inl (cI, 40, .inl (fl 5 (dGo (rnS nC cu S).2.1 nD)))), (m3, .inl (cI, 36, .inl (fl 3 (rnS nC cu S).2.2.2))), (m4, .inl (cI, 96, .inl (fl 4 cu))), (m5, .inl (cI, 8, .inl (numA (un (rnS nC cu S).1 5 (tnd ((rnS nC cu S).1 5) ((rnS nC cu S).1 6))) (rnS nC cu S).2.2.1)))] := hD
                refine lv_iconst (v := 0) hx hb dX6_tickOn_114 (by decide) ?_
                refine lv_istore_n (lv' := [(2, .int 0), (1, .int (nI (rcN cu (S.1 1) nC))), (0, .ref m0)]) hx hb dX6_tickOn_115 rfl hl (by decide) rfl (fun ls hl => ?_)
                have key116 : ∀ (ku116 : Nat) (i : Nat), i ≤ (rnS nC cu S).2.2.1 → (rnS nC cu S).2.2.1 - i < ku116 → ∀ (H : Heap) (locs : List Loc), va_P D vwCl [(m0, .inr (6, [.int th, .int (nI nD), .int (nI nT), .int (nI nC), .ref m1, .ref m2, .ref m3, .ref m4, .ref m5])), (m1, .inl (cI, 40, .inl (fl 5 (dGo (rnS nC cu S).2.1 nD)))), (m3, .inl (cI, 36, .inl (fl 3 (cGo (rnS nC cu S).2.2.2 i)))), (m4, .inl (cI, 96, .inl (fl 4 cu))), (m5, .inl (cI, 8, .inl (numA (un (rnS nC cu S).1 5 (tnd ((rnS nC cu S).1 5) ((rnS nC cu S).1 6))) (rnS nC cu S).2.2.1)))] H → va_D A [(m0, .inr (6, [.int th, .int (nI nD), .int (nI nT), .int (nI nC), .ref m1, .ref m2, .ref m3, .ref m4, .ref m5])), (m1, .inl (cI, 40, .inl (fl 5 (dGo (rnS nC cu S).2.1 nD)))), (m3, .inl (cI, 36, .inl (fl 3 (cGo (rnS nC cu S).2.2.2 i)))), (m4, .inl (cI, 96, .inl (fl 4 cu))), (m5, .inl (cI, 8, .inl (numA (un (rnS nC cu S).1 5 (tnd ((rnS nC cu S).1 5) ((rnS nC cu S).1 6))) (rnS nC cu S).2.2.1)))] → va_S A s.heap H locs → ∀ ls : Array Slot, lv_has ls 4 [(2, .int (nI i)), (1, .int (nI (rcN cu (S.1 1) nC))), (0, .ref m0)] → W p l e ({ frames := 2, cells := 0, slots := 0, locals := 47 } : Room) s m ([.ref m0] : List Value).toArray below meth c H locs 0 0 (MQ below (poI D A [(m0, .inr (6, [.int th, .int (nI nD), .int (nI nT), .int (nI nC), .ref m1, .ref m2, .ref m3, .ref m4, .ref m5])), (m1, .inl (cI, 40, .inl (fl 5 (tk nD nC cu S).2.1))), (m3, .inl (cI, 36, .inl (fl 3 (tk nD nC cu S).2.2.2))), (m4, .inl (cI, 96, .inl (fl 4 cu))), (m5, .inl (cI, 8, .inl (numA (tk nD nC cu S).1 (tk nD nC cu S).2.2.1)))] (nI (tkN nC cu S))) ([.ref m0] : List Value).toArray s 0 0 A) (F0 m 116 ls []) := by
                  intro ku116
                  induction ku116 with
                  | zero => intro i; intros; omega
                  | succ ku116 ih116 =>
                    intro i  hi116 hm116  H locs hP hD hS ls hl
                    have hK12 := hS1.1
                    refine lv_iload_n hx hb dX6_tickOn_116 rfl (lv_at hl 0 rfl) ?_
                    refine lv_aload_n hx hb dX6_tickOn_117 rfl (lv_at hl 2 rfl) ?_
                    refine va_get (D := D) (ci := 6) (v := .ref m5) (C := RX6) (T := TX6) (N := 9) hx hb hts iX6_tickOn_X6 hown hk.1 hP 0 rfl rfl 8 (by decide) (hts _ mX6_tickOn_f22) (fun _ h9 => h9) rfl dX6_tickOn_118 ?_
                    refine lv_bipush (v := 7) hx hb dX6_tickOn_121 (by decide) ?_
                    refine aldN hx hb hk hP 4 rfl 7 rfl (by omega) (Nat.le_of_ble_eq_true rfl) dX6_tickOn_123 ?_
                    refine top_int (show _ = (nI ((rnS nC cu S).2.2.1) : Int32) from rfl) ?_
                    refine icgeN (i := i) (n := (rnS nC cu S).2.2.1) (tgt := 197) hx hb (by omega) (by omega) dX6_tickOn_124 (by decide) (fun c124 => ?_) (fun c124 => ?_)
                    · obtain rfl : i = (rnS nC cu S).2.2.1 := by omega
                      refine lv_aload_n hx hb dX6_tickOn_197 rfl (lv_at hl 2 rfl) ?_
                      refine va_get (D := D) (ci := 6) (v := .ref m5) (C := RX6) (T := TX6) (N := 9) hx hb hts iX6_tickOn_X6 hown hk.1 hP 0 rfl rfl 8 (by decide) (hts _ mX6_tickOn_f22) (fun _ h9 => h9) rfl dX6_tickOn_198 ?_
                      refine lv_iconst (v := 4) hx hb dX6_tickOn_201 (by decide) ?_
                      refine aldN hx hb hk hP 4 rfl 4 rfl (by omega) (Nat.le_of_ble_eq_true rfl) dX6_tickOn_202 ?_
                      refine top_int (show _ = ((un (rnS nC cu S).1 5 (tnd ((rnS nC cu S).1 5) ((rnS nC cu S).1 6))) 4 : Int32) from rfl) ?_
                      refine lv_if_le (tgt := 216) hx hb dX6_tickOn_203 (by decide) (fun c203 => ?_) (fun c203 => ?_)
                      · refine lv_aload_n hx hb dX6_tickOn_216 rfl (lv_at hl 2 rfl) ?_
                        refine va_get (D := D) (ci := 6) (v := .ref m5) (C := RX6) (T := TX6) (N := 9) hx hb hts iX6_tickOn_X6 hown hk.1 hP 0 rfl rfl 8 (by decide) (hts _ mX6_tickOn_f22) (fun _ h9 => h9) rfl dX6_tickOn_217 ?_
                        refine lv_iconst (v := 4) hx hb dX6_tickOn_220 (by decide) ?_
                        refine aldN hx hb hk hP 4 rfl 4 rfl (by omega) (Nat.le_of_ble_eq_true rfl) dX6_tickOn_221 ?_
                        refine top_int (show _ = ((un (rnS nC cu S).1 5 (tnd ((rnS nC cu S).1 5) ((rnS nC cu S).1 6))) 4 : Int32) from rfl) ?_
                        refine lv_if_ne (tgt := 232) hx hb dX6_tickOn_222 (by decide) (fun c222 => ?_) (fun c222 => ?_)
                        · rw [show tk nD nC cu S = tkE nD (rnS nC cu S) from by rw [tk, tk1, if_neg c4], show tkN nC cu S = rcN cu (S.1 1) nC from if_neg c4]
                          have e4 : sp4 (un (rnS nC cu S).1 5 (tnd ((rnS nC cu S).1 5) ((rnS nC cu S).1 6))) = (un (rnS nC cu S).1 5 (tnd ((rnS nC cu S).1 5) ((rnS nC cu S).1 6))) 4 := if_pos c203
                          have e3 : sp3 (un (rnS nC cu S).1 5 (tnd ((rnS nC cu S).1 5) ((rnS nC cu S).1 6))) = (un (rnS nC cu S).1 5 (tnd ((rnS nC cu S).1 5) ((rnS nC cu S).1 6))) 3 := by rw [sp3, e4]; exact if_neg c222
                          rw [show tkE nD (rnS nC cu S) = (tk0 (un (un (un (rnS nC cu S).1 5 (tnd ((rnS nC cu S).1 5) ((rnS nC cu S).1 6))) 4 (sp4 (un (rnS nC cu S).1 5 (tnd ((rnS nC cu S).1 5) ((rnS nC cu S).1 6))))) 3 (sp3 (un (rnS nC cu S).1 5 (tnd ((rnS nC cu S).1 5) ((rnS nC cu S).1 6))))), dGo (rnS nC cu S).2.1 nD, (rnS nC cu S).2.2.1, cGo (rnS nC cu S).2.2.2 (rnS nC cu S).2.2.1) from rfl, e4, e3]
                          rw [un_self, un_self]
                          refine lv_aload_n hx hb dX6_tickOn_232 rfl (lv_at hl 2 rfl) ?_
                          refine va_get (D := D) (ci := 6) (v := .ref m5) (C := RX6) (T := TX6) (N := 9) hx hb hts iX6_tickOn_X6 hown hk.1 hP 0 rfl rfl 8 (by decide) (hts _ mX6_tickOn_f22) (fun _ h9 => h9) rfl dX6_tickOn_233 ?_
                          refine lv_iconst (v := 0) hx hb dX6_tickOn_236 (by decide) ?_
                          refine lv_dup2_11 hx hb dX6_tickOn_237 rfl rfl ?_
                          refine aldN hx hb hk hP 4 rfl 0 rfl (by omega) (Nat.le_of_ble_eq_true rfl) dX6_tickOn_238 ?_
                          refine top_int (show _ = ((un (rnS nC cu S).1 5 (tnd ((rnS nC cu S).1 5) ((rnS nC cu S).1 6))) 0 : Int32) from rfl) ?_
                          refine lv_iconst (v := 1) hx hb dX6_tickOn_239 (by decide) ?_
                          refine lv_iadd hx hb dX6_tickOn_240 ?_
                          refine astN hx hb hk hP hD hS 4 rfl 0 rfl (by omega) (Nat.le_of_ble_eq_true rfl) dX6_tickOn_241 (fun H locs hP hD hS => ?_)
                          rw [nu_w (k := 0) rfl] at hP hD
                          have hP : va_P D vwCl [(m0, .inr (6, [.int th, .int (nI nD), .int (nI nT), .int (nI nC), .ref m1, .ref m2, .ref m3, .ref m4, .ref m5])), (m1, .inl (cI, 40, .inl (fl 5 (dGo (rnS nC cu S).2.1 nD)))), (m3, .inl (cI, 36, .inl (fl 3 (cGo (rnS nC cu S).2.2.2 ((rnS nC cu S).2.2.1))))), (m4, .inl (cI, 96, .inl (fl 4 cu))), (m5, .inl (cI, 8, .inl (numA (un (un (rnS nC cu S).1 5 (tnd ((rnS nC cu S).1 5) ((rnS nC cu S).1 6))) 0 ((((un (rnS nC cu S).1 5 (tnd ((rnS nC cu S).1 5) ((rnS nC cu S).1 6))) 0) + 1))) (rnS nC cu S).2.2.1)))] H := hP
                          have hD : va_D A [(m0, .inr (6, [.int th, .int (nI nD), .int (nI nT), .int (nI nC), .ref m1, .ref m2, .ref m3, .ref m4, .ref m5])), (m1, .inl (cI, 40, .inl (fl 5 (dGo (rnS nC cu S).2.1 nD)))), (m3, .inl (cI, 36, .inl (fl 3 (cGo (rnS nC cu S).2.2.2 ((rnS nC cu S).2.2.1))))), (m4, .inl (cI, 96, .inl (fl 4 cu))), (m5, .inl (cI, 8, .inl (numA (un (un (rnS nC cu S).1 5 (tnd ((rnS nC cu S).1 5) ((rnS nC cu S).1 6))) 0 ((((un (rnS nC cu S).1 5 (tnd ((rnS nC cu S).1 5) ((rnS nC cu S).1 6))) 0) + 1))) (rnS nC cu S).2.2.1)))] := hD
                          refine lv_iload_n hx hb dX6_tickOn_242 rfl (lv_at hl 1 rfl) ?_
                          exact retI hx hb hr hlocks hS hP hD dX6_tickOn_243 (rfl) rfl
                        · refine lv_aload_n hx hb dX6_tickOn_225 rfl (lv_at hl 2 rfl) ?_
                          refine va_get (D := D) (ci := 6) (v := .ref m5) (C := RX6) (T := TX6) (N := 9) hx hb hts iX6_tickOn_X6 hown hk.1 hP 0 rfl rfl 8 (by decide) (hts _ mX6_tickOn_f22) (fun _ h9 => h9) rfl dX6_tickOn_226 ?_
                          refine lv_iconst (v := 3) hx hb dX6_tickOn_229 (by decide) ?_
                          refine lv_iconst (v := (-1)) hx hb dX6_tickOn_230 (by decide) ?_
                          refine astN hx hb hk hP hD hS 4 rfl 3 rfl (by omega) (Nat.le_of_ble_eq_true rfl) dX6_tickOn_231 (fun H locs hP hD hS => ?_)
                          rw [nu_w (k := 3) rfl] at hP hD
                          have hP : va_P D vwCl [(m0, .inr (6, [.int th, .int (nI nD), .int (nI nT), .int (nI nC), .ref m1, .ref m2, .ref m3, .ref m4, .ref m5])), (m1, .inl (cI, 40, .inl (fl 5 (dGo (rnS nC cu S).2.1 nD)))), (m3, .inl (cI, 36, .inl (fl 3 (cGo (rnS nC cu S).2.2.2 ((rnS nC cu S).2.2.1))))), (m4, .inl (cI, 96, .inl (fl 4 cu))), (m5, .inl (cI, 8, .inl (numA (un (un (rnS nC cu S).1 5 (tnd ((rnS nC cu S).1 5) ((rnS nC cu S).1 6))) 3 ((-1))) (rnS nC cu S).2.2.1)))] H := hP
                          have hD : va_D A [(m0, .inr (6, [.int th, .int (nI nD), .int (nI nT), .int (nI nC), .ref m1, .ref m2, .ref m3, .ref m4, .ref m5])), (m1, .inl (cI, 40, .inl (fl 5 (dGo (rnS nC cu S).2.1 nD)))), (m3, .inl (cI, 36, .inl (fl 3 (cGo (rnS nC cu S).2.2.2 ((rnS nC cu S).2.2.1))))), (m4, .inl (cI, 96, .inl (fl 4 cu))), (m5, .inl (cI, 8, .inl (numA (un (un (rnS nC cu S).1 5 (tnd ((rnS nC cu S).1 5) ((rnS nC cu S).1 6))) 3 ((-1))) (rnS nC cu S).2.2.1)))] := hD
                          rw [show tk nD nC cu S = tkE nD (rnS nC cu S) from by rw [tk, tk1, if_neg c4], show tkN nC cu S = rcN cu (S.1 1) nC from if_neg c4]
                          have e4 : sp4 (un (rnS nC cu S).1 5 (tnd ((rnS nC cu S).1 5) ((rnS nC cu S).1 6))) = (un (rnS nC cu S).1 5 (tnd ((rnS nC cu S).1 5) ((rnS nC cu S).1 6))) 4 := if_pos c203
                          have e3 : sp3 (un (rnS nC cu S).1 5 (tnd ((rnS nC cu S).1 5) ((rnS nC cu S).1 6))) = -1 := by rw [sp3, e4]; exact if_pos c222
                          rw [show tkE nD (rnS nC cu S) = (tk0 (un (un (un (rnS nC cu S).1 5 (tnd ((rnS nC cu S).1 5) ((rnS nC cu S).1 6))) 4 (sp4 (un (rnS nC cu S).1 5 (tnd ((rnS nC cu S).1 5) ((rnS nC cu S).1 6))))) 3 (sp3 (un (rnS nC cu S).1 5 (tnd ((rnS nC cu S).1 5) ((rnS nC cu S).1 6))))), dGo (rnS nC cu S).2.1 nD, (rnS nC cu S).2.2.1, cGo (rnS nC cu S).2.2.2 (rnS nC cu S).2.2.1) from rfl, e4, e3]
                          rw [un_self]
                          refine lv_aload_n hx hb dX6_tickOn_232 rfl (lv_at hl 2 rfl) ?_
                          refine va_get (D := D) (ci := 6) (v := .ref m5) (C := RX6) (T := TX6) (N := 9) hx hb hts iX6_tickOn_X6 hown hk.1 hP 0 rfl rfl 8 (by decide) (hts _ mX6_tickOn_f22) (fun _ h9 => h9) rfl dX6_tickOn_233 ?_
                          refine lv_iconst (v := 0) hx hb dX6_tickOn_236 (by decide) ?_
                          refine lv_dup2_11 hx hb dX6_tickOn_237 rfl rfl ?_
                          refine aldN hx hb hk hP 4 rfl 0 rfl (by omega) (Nat.le_of_ble_eq_true rfl) dX6_tickOn_238 ?_
                          refine top_int (show _ = ((un (un (rnS nC cu S).1 5 (tnd ((rnS nC cu S).1 5) ((rnS nC cu S).1 6))) 3 ((-1))) 0 : Int32) from rfl) ?_
                          refine lv_iconst (v := 1) hx hb dX6_tickOn_239 (by decide) ?_
                          refine lv_iadd hx hb dX6_tickOn_240 ?_
                          refine astN hx hb hk hP hD hS 4 rfl 0 rfl (by omega) (Nat.le_of_ble_eq_true rfl) dX6_tickOn_241 (fun H locs hP hD hS => ?_)
                          rw [nu_w (k := 0) rfl] at hP hD
                          have hP : va_P D vwCl [(m0, .inr (6, [.int th, .int (nI nD), .int (nI nT), .int (nI nC), .ref m1, .ref m2, .ref m3, .ref m4, .ref m5])), (m1, .inl (cI, 40, .inl (fl 5 (dGo (rnS nC cu S).2.1 nD)))), (m3, .inl (cI, 36, .inl (fl 3 (cGo (rnS nC cu S).2.2.2 ((rnS nC cu S).2.2.1))))), (m4, .inl (cI, 96, .inl (fl 4 cu))), (m5, .inl (cI, 8, .inl (numA (un (un (un (rnS nC cu S).1 5 (tnd ((rnS nC cu S).1 5) ((rnS nC cu S).1 6))) 3 ((-1))) 0 ((((un (un (rnS nC cu S).1 5 (tnd ((rnS nC cu S).1 5) ((rnS nC cu S).1 6))) 3 ((-1))) 0) + 1))) (rnS nC cu S).2.2.1)))] H := hP
                          have hD : va_D A [(m0, .inr (6, [.int th, .int (nI nD), .int (nI nT), .int (nI nC), .ref m1, .ref m2, .ref m3, .ref m4, .ref m5])), (m1, .inl (cI, 40, .inl (fl 5 (dGo (rnS nC cu S).2.1 nD)))), (m3, .inl (cI, 36, .inl (fl 3 (cGo (rnS nC cu S).2.2.2 ((rnS nC cu S).2.2.1))))), (m4, .inl (cI, 96, .inl (fl 4 cu))), (m5, .inl (cI, 8, .inl (numA (un (un (un (rnS nC cu S).1 5 (tnd ((rnS nC cu S).1 5) ((rnS nC cu S).1 6))) 3 ((-1))) 0 ((((un (un (rnS nC cu S).1 5 (tnd ((rnS nC cu S).1 5) ((rnS nC cu S).1 6))) 3 ((-1))) 0) + 1))) (rnS nC cu S).2.2.1)))] := hD
                          refine lv_iload_n hx hb dX6_tickOn_242 rfl (lv_at hl 1 rfl) ?_
                          exact retI hx hb hr hlocks hS hP hD dX6_tickOn_243 (rfl) rfl
                      · refine lv_aload_n hx hb dX6_tickOn_206 rfl (lv_at hl 2 rfl) ?_
                        refine va_get (D := D) (ci := 6) (v := .ref m5) (C := RX6) (T := TX6) (N := 9) hx hb hts iX6_tickOn_X6 hown hk.1 hP 0 rfl rfl 8 (by decide) (hts _ mX6_tickOn_f22) (fun _ h9 => h9) rfl dX6_tickOn_207 ?_
                        refine lv_iconst (v := 4) hx hb dX6_tickOn_210 (by decide) ?_
                        refine lv_dup2_11 hx hb dX6_tickOn_211 rfl rfl ?_
                        refine aldN hx hb hk hP 4 rfl 4 rfl (by omega) (Nat.le_of_ble_eq_true rfl) dX6_tickOn_212 ?_
                        refine top_int (show _ = ((un (rnS nC cu S).1 5 (tnd ((rnS nC cu S).1 5) ((rnS nC cu S).1 6))) 4 : Int32) from rfl) ?_
                        refine lv_iconst (v := 1) hx hb dX6_tickOn_213 (by decide) ?_
                        refine lv_isub hx hb dX6_tickOn_214 ?_
                        refine astN hx hb hk hP hD hS 4 rfl 4 rfl (by omega) (Nat.le_of_ble_eq_true rfl) dX6_tickOn_215 (fun H locs hP hD hS => ?_)
                        rw [nu_w (k := 4) rfl] at hP hD
                        have hP : va_P D vwCl [(m0, .inr (6, [.int th, .int (nI nD), .int (nI nT), .int (nI nC), .ref m1, .ref m2, .ref m3, .ref m4, .ref m5])), (m1, .inl (cI, 40, .inl (fl 5 (dGo (rnS nC cu S).2.1 nD)))), (m3, .inl (cI, 36, .inl (fl 3 (cGo (rnS nC cu S).2.2.2 ((rnS nC cu S).2.2.1))))), (m4, .inl (cI, 96, .inl (fl 4 cu))), (m5, .inl (cI, 8, .inl (numA (un (un (rnS nC cu S).1 5 (tnd ((rnS nC cu S).1 5) ((rnS nC cu S).1 6))) 4 ((((un (rnS nC cu S).1 5 (tnd ((rnS nC cu S).1 5) ((rnS nC cu S).1 6))) 4) - 1))) (rnS nC cu S).2.2.1)))] H := hP
                        have hD : va_D A [(m0, .inr (6, [.int th, .int (nI nD), .int (nI nT), .int (nI nC), .ref m1, .ref m2, .ref m3, .ref m4, .ref m5])), (m1, .inl (cI, 40, .inl (fl 5 (dGo (rnS nC cu S).2.1 nD)))), (m3, .inl (cI, 36, .inl (fl 3 (cGo (rnS nC cu S).2.2.2 ((rnS nC cu S).2.2.1))))), (m4, .inl (cI, 96, .inl (fl 4 cu))), (m5, .inl (cI, 8, .inl (numA (un (un (rnS nC cu S).1 5 (tnd ((rnS nC cu S).1 5) ((rnS nC cu S).1 6))) 4 ((((un (rnS nC cu S).1 5 (tnd ((rnS nC cu S).1 5) ((rnS nC cu S).1 6))) 4) - 1))) (rnS nC cu S).2.2.1)))] := hD
                        refine lv_aload_n hx hb dX6_tickOn_216 rfl (lv_at hl 2 rfl) ?_
                        refine va_get (D := D) (ci := 6) (v := .ref m5) (C := RX6) (T := TX6) (N := 9) hx hb hts iX6_tickOn_X6 hown hk.1 hP 0 rfl rfl 8 (by decide) (hts _ mX6_tickOn_f22) (fun _ h9 => h9) rfl dX6_tickOn_217 ?_
                        refine lv_iconst (v := 4) hx hb dX6_tickOn_220 (by decide) ?_
                        refine aldN hx hb hk hP 4 rfl 4 rfl (by omega) (Nat.le_of_ble_eq_true rfl) dX6_tickOn_221 ?_
                        refine top_int (show _ = ((un (un (rnS nC cu S).1 5 (tnd ((rnS nC cu S).1 5) ((rnS nC cu S).1 6))) 4 ((((un (rnS nC cu S).1 5 (tnd ((rnS nC cu S).1 5) ((rnS nC cu S).1 6))) 4) - 1))) 4 : Int32) from rfl) ?_
                        refine lv_if_ne (tgt := 232) hx hb dX6_tickOn_222 (by decide) (fun c222 => ?_) (fun c222 => ?_)
                        · rw [show tk nD nC cu S = tkE nD (rnS nC cu S) from by rw [tk, tk1, if_neg c4], show tkN nC cu S = rcN cu (S.1 1) nC from if_neg c4]
                          have e4 : sp4 (un (rnS nC cu S).1 5 (tnd ((rnS nC cu S).1 5) ((rnS nC cu S).1 6))) = (un (rnS nC cu S).1 5 (tnd ((rnS nC cu S).1 5) ((rnS nC cu S).1 6))) 4 - 1 := if_neg c203
                          have e3 : sp3 (un (rnS nC cu S).1 5 (tnd ((rnS nC cu S).1 5) ((rnS nC cu S).1 6))) = (un (rnS nC cu S).1 5 (tnd ((rnS nC cu S).1 5) ((rnS nC cu S).1 6))) 3 := by rw [sp3, e4]; exact if_neg c222
                          rw [show tkE nD (rnS nC cu S) = (tk0 (un (un (un (rnS nC cu S).1 5 (tnd ((rnS nC cu S).1 5) ((rnS nC cu S).1 6))) 4 (sp4 (un (rnS nC cu S).1 5 (tnd ((rnS nC cu S).1 5) ((rnS nC cu S).1 6))))) 3 (sp3 (un (rnS nC cu S).1 5 (tnd ((rnS nC cu S).1 5) ((rnS nC cu S).1 6))))), dGo (rnS nC cu S).2.1 nD, (rnS nC cu S).2.2.1, cGo (rnS nC cu S).2.2.2 (rnS nC cu S).2.2.1) from rfl, e4, e3]
                          rw [show un (un (un (rnS nC cu S).1 5 (tnd ((rnS nC cu S).1 5) ((rnS nC cu S).1 6))) 4 ((un (rnS nC cu S).1 5 (tnd ((rnS nC cu S).1 5) ((rnS nC cu S).1 6))) 4 - 1)) 3 ((un (rnS nC cu S).1 5 (tnd ((rnS nC cu S).1 5) ((rnS nC cu S).1 6))) 3) = un (un (rnS nC cu S).1 5 (tnd ((rnS nC cu S).1 5) ((rnS nC cu S).1 6))) 4 ((un (rnS nC cu S).1 5 (tnd ((rnS nC cu S).1 5) ((rnS nC cu S).1 6))) 4 - 1) from un_self (nu := un (un (rnS nC cu S).1 5 (tnd ((rnS nC cu S).1 5) ((rnS nC cu S).1 6))) 4 ((un (rnS nC cu S).1 5 (tnd ((rnS nC cu S).1 5) ((rnS nC cu S).1 6))) 4 - 1)) (k := 3)]
                          refine lv_aload_n hx hb dX6_tickOn_232 rfl (lv_at hl 2 rfl) ?_
                          refine va_get (D := D) (ci := 6) (v := .ref m5) (C := RX6) (T := TX6) (N := 9) hx hb hts iX6_tickOn_X6 hown hk.1 hP 0 rfl rfl 8 (by decide) (hts _ mX6_tickOn_f22) (fun _ h9 => h9) rfl dX6_tickOn_233 ?_
                          refine lv_iconst (v := 0) hx hb dX6_tickOn_236 (by decide) ?_
                          refine lv_dup2_11 hx hb dX6_tickOn_237 rfl rfl ?_
                          refine aldN hx hb hk hP 4 rfl 0 rfl (by omega) (Nat.le_of_ble_eq_true rfl) dX6_tickOn_238 ?_
                          refine top_int (show _ = ((un (un (rnS nC cu S).1 5 (tnd ((rnS nC cu S).1 5) ((rnS nC cu S).1 6))) 4 ((((un (rnS nC cu S).1 5 (tnd ((rnS nC cu S).1 5) ((rnS nC cu S).1 6))) 4) - 1))) 0 : Int32) from rfl) ?_
                          refine lv_iconst (v := 1) hx hb dX6_tickOn_239 (by decide) ?_
                          refine lv_iadd hx hb dX6_tickOn_240 ?_
                          refine astN hx hb hk hP hD hS 4 rfl 0 rfl (by omega) (Nat.le_of_ble_eq_true rfl) dX6_tickOn_241 (fun H locs hP hD hS => ?_)
                          rw [nu_w (k := 0) rfl] at hP hD
                          have hP : va_P D vwCl [(m0, .inr (6, [.int th, .int (nI nD), .int (nI nT), .int (nI nC), .ref m1, .ref m2, .ref m3, .ref m4, .ref m5])), (m1, .inl (cI, 40, .inl (fl 5 (dGo (rnS nC cu S).2.1 nD)))), (m3, .inl (cI, 36, .inl (fl 3 (cGo (rnS nC cu S).2.2.2 ((rnS nC cu S).2.2.1))))), (m4, .inl (cI, 96, .inl (fl 4 cu))), (m5, .inl (cI, 8, .inl (numA (un (un (un (rnS nC cu S).1 5 (tnd ((rnS nC cu S).1 5) ((rnS nC cu S).1 6))) 4 ((((un (rnS nC cu S).1 5 (tnd ((rnS nC cu S).1 5) ((rnS nC cu S).1 6))) 4) - 1))) 0 ((((un (un (rnS nC cu S).1 5 (tnd ((rnS nC cu S).1 5) ((rnS nC cu S).1 6))) 4 ((((un (rnS nC cu S).1 5 (tnd ((rnS nC cu S).1 5) ((rnS nC cu S).1 6))) 4) - 1))) 0) + 1))) (rnS nC cu S).2.2.1)))] H := hP
                          have hD : va_D A [(m0, .inr (6, [.int th, .int (nI nD), .int (nI nT), .int (nI nC), .ref m1, .ref m2, .ref m3, .ref m4, .ref m5])), (m1, .inl (cI, 40, .inl (fl 5 (dGo (rnS nC cu S).2.1 nD)))), (m3, .inl (cI, 36, .inl (fl 3 (cGo (rnS nC cu S).2.2.2 ((rnS nC cu S).2.2.1))))), (m4, .inl (cI, 96, .inl (fl 4 cu))), (m5, .inl (cI, 8, .inl (numA (un (un (un (rnS nC cu S).1 5 (tnd ((rnS nC cu S).1 5) ((rnS nC cu S).1 6))) 4 ((((un (rnS nC cu S).1 5 (tnd ((rnS nC cu S).1 5) ((rnS nC cu S).1 6))) 4) - 1))) 0 ((((un (un (rnS nC cu S).1 5 (tnd ((rnS nC cu S).1 5) ((rnS nC cu S).1 6))) 4 ((((un (rnS nC cu S).1 5 (tnd ((rnS nC cu S).1 5) ((rnS nC cu S).1 6))) 4) - 1))) 0) + 1))) (rnS nC cu S).2.2.1)))] := hD
                          refine lv_iload_n hx hb dX6_tickOn_242 rfl (lv_at hl 1 rfl) ?_
                          exact retI hx hb hr hlocks hS hP hD dX6_tickOn_243 (rfl) rfl
                        · refine lv_aload_n hx hb dX6_tickOn_225 rfl (lv_at hl 2 rfl) ?_
                          refine va_get (D := D) (ci := 6) (v := .ref m5) (C := RX6) (T := TX6) (N := 9) hx hb hts iX6_tickOn_X6 hown hk.1 hP 0 rfl rfl 8 (by decide) (hts _ mX6_tickOn_f22) (fun _ h9 => h9) rfl dX6_tickOn_226 ?_
                          refine lv_iconst (v := 3) hx hb dX6_tickOn_229 (by decide) ?_
                          refine lv_iconst (v := (-1)) hx hb dX6_tickOn_230 (by decide) ?_
                          refine astN hx hb hk hP hD hS 4 rfl 3 rfl (by omega) (Nat.le_of_ble_eq_true rfl) dX6_tickOn_231 (fun H locs hP hD hS => ?_)
                          rw [nu_w (k := 3) rfl] at hP hD
                          have hP : va_P D vwCl [(m0, .inr (6, [.int th, .int (nI nD), .int (nI nT), .int (nI nC), .ref m1, .ref m2, .ref m3, .ref m4, .ref m5])), (m1, .inl (cI, 40, .inl (fl 5 (dGo (rnS nC cu S).2.1 nD)))), (m3, .inl (cI, 36, .inl (fl 3 (cGo (rnS nC cu S).2.2.2 ((rnS nC cu S).2.2.1))))), (m4, .inl (cI, 96, .inl (fl 4 cu))), (m5, .inl (cI, 8, .inl (numA (un (un (un (rnS nC cu S).1 5 (tnd ((rnS nC cu S).1 5) ((rnS nC cu S).1 6))) 4 ((((un (rnS nC cu S).1 5 (tnd ((rnS nC cu S).1 5) ((rnS nC cu S).1 6))) 4) - 1))) 3 ((-1))) (rnS nC cu S).2.2.1)))] H := hP
                          have hD : va_D A [(m0, .inr (6, [.int th, .int (nI nD), .int (nI nT), .int (nI nC), .ref m1, .ref m2, .ref m3, .ref m4, .ref m5])), (m1, .inl (cI, 40, .inl (fl 5 (dGo (rnS nC cu S).2.1 nD)))), (m3, .inl (cI, 36, .inl (fl 3 (cGo (rnS nC cu S).2.2.2 ((rnS nC cu S).2.2.1))))), (m4, .inl (cI, 96, .inl (fl 4 cu))), (m5, .inl (cI, 8, .inl (numA (un (un (un (rnS nC cu S).1 5 (tnd ((rnS nC cu S).1 5) ((rnS nC cu S).1 6))) 4 ((((un (rnS nC cu S).1 5 (tnd ((rnS nC cu S).1 5) ((rnS nC cu S).1 6))) 4) - 1))) 3 ((-1))) (rnS nC cu S).2.2.1)))] := hD
                          rw [show tk nD nC cu S = tkE nD (rnS nC cu S) from by rw [tk, tk1, if_neg c4], show tkN nC cu S = rcN cu (S.1 1) nC from if_neg c4]
                          have e4 : sp4 (un (rnS nC cu S).1 5 (tnd ((rnS nC cu S).1 5) ((rnS nC cu S).1 6))) = (un (rnS nC cu S).1 5 (tnd ((rnS nC cu S).1 5) ((rnS nC cu S).1 6))) 4 - 1 := if_neg c203
                          have e3 : sp3 (un (rnS nC cu S).1 5 (tnd ((rnS nC cu S).1 5) ((rnS nC cu S).1 6))) = -1 := by rw [sp3, e4]; exact if_pos c222
                          rw [show tkE nD (rnS nC cu S) = (tk0 (un (un (un (rnS nC cu S).1 5 (tnd ((rnS nC cu S).1 5) ((rnS nC cu S).1 6))) 4 (sp4 (un (rnS nC cu S).1 5 (tnd ((rnS nC cu S).1 5) ((rnS nC cu S).1 6))))) 3 (sp3 (un (rnS nC cu S).1 5 (tnd ((rnS nC cu S).1 5) ((rnS nC cu S).1 6))))), dGo (rnS nC cu S).2.1 nD, (rnS nC cu S).2.2.1, cGo (rnS nC cu S).2.2.2 (rnS nC cu S).2.2.1) from rfl, e4, e3]
                          refine lv_aload_n hx hb dX6_tickOn_232 rfl (lv_at hl 2 rfl) ?_
                          refine va_get (D := D) (ci := 6) (v := .ref m5) (C := RX6) (T := TX6) (N := 9) hx hb hts iX6_tickOn_X6 hown hk.1 hP 0 rfl rfl 8 (by decide) (hts _ mX6_tickOn_f22) (fun _ h9 => h9) rfl dX6_tickOn_233 ?_
                          refine lv_iconst (v := 0) hx hb dX6_tickOn_236 (by decide) ?_
                          refine lv_dup2_11 hx hb dX6_tickOn_237 rfl rfl ?_
                          refine aldN hx hb hk hP 4 rfl 0 rfl (by omega) (Nat.le_of_ble_eq_true rfl) dX6_tickOn_238 ?_
                          refine top_int (show _ = ((un (un (un (rnS nC cu S).1 5 (tnd ((rnS nC cu S).1 5) ((rnS nC cu S).1 6))) 4 ((((un (rnS nC cu S).1 5 (tnd ((rnS nC cu S).1 5) ((rnS nC cu S).1 6))) 4) - 1))) 3 ((-1))) 0 : Int32) from rfl) ?_
                          refine lv_iconst (v := 1) hx hb dX6_tickOn_239 (by decide) ?_
                          refine lv_iadd hx hb dX6_tickOn_240 ?_
                          refine astN hx hb hk hP hD hS 4 rfl 0 rfl (by omega) (Nat.le_of_ble_eq_true rfl) dX6_tickOn_241 (fun H locs hP hD hS => ?_)
                          rw [nu_w (k := 0) rfl] at hP hD
                          have hP : va_P D vwCl [(m0, .inr (6, [.int th, .int (nI nD), .int (nI nT), .int (nI nC), .ref m1, .ref m2, .ref m3, .ref m4, .ref m5])), (m1, .inl (cI, 40, .inl (fl 5 (dGo (rnS nC cu S).2.1 nD)))), (m3, .inl (cI, 36, .inl (fl 3 (cGo (rnS nC cu S).2.2.2 ((rnS nC cu S).2.2.1))))), (m4, .inl (cI, 96, .inl (fl 4 cu))), (m5, .inl (cI, 8, .inl (numA (un (un (un (un (rnS nC cu S).1 5 (tnd ((rnS nC cu S).1 5) ((rnS nC cu S).1 6))) 4 ((((un (rnS nC cu S).1 5 (tnd ((rnS nC cu S).1 5) ((rnS nC cu S).1 6))) 4) - 1))) 3 ((-1))) 0 ((((un (un (un (rnS nC cu S).1 5 (tnd ((rnS nC cu S).1 5) ((rnS nC cu S).1 6))) 4 ((((un (rnS nC cu S).1 5 (tnd ((rnS nC cu S).1 5) ((rnS nC cu S).1 6))) 4) - 1))) 3 ((-1))) 0) + 1))) (rnS nC cu S).2.2.1)))] H := hP
                          have hD : va_D A [(m0, .inr (6, [.int th, .int (nI nD), .int (nI nT), .int (nI nC), .ref m1, .ref m2, .ref m3, .ref m4, .ref m5])), (m1, .inl (cI, 40, .inl (fl 5 (dGo (rnS nC cu S).2.1 nD)))), (m3, .inl (cI, 36, .inl (fl 3 (cGo (rnS nC cu S).2.2.2 ((rnS nC cu S).2.2.1))))), (m4, .inl (cI, 96, .inl (fl 4 cu))), (m5, .inl (cI, 8, .inl (numA (un (un (un (un (rnS nC cu S).1 5 (tnd ((rnS nC cu S).1 5) ((rnS nC cu S).1 6))) 4 ((((un (rnS nC cu S).1 5 (tnd ((rnS nC cu S).1 5) ((rnS nC cu S).1 6))) 4) - 1))) 3 ((-1))) 0 ((((un (un (un (rnS nC cu S).1 5 (tnd ((rnS nC cu S).1 5) ((rnS nC cu S).1 6))) 4 ((((un (rnS nC cu S).1 5 (tnd ((rnS nC cu S).1 5) ((rnS nC cu S).1 6))) 4) - 1))) 3 ((-1))) 0) + 1))) (rnS nC cu S).2.2.1)))] := hD
                          refine lv_iload_n hx hb dX6_tickOn_242 rfl (lv_at hl 1 rfl) ?_
                          exact retI hx hb hr hlocks hS hP hD dX6_tickOn_243 (rfl) rfl
                    · refine lv_aload_n hx hb dX6_tickOn_127 rfl (lv_at hl 2 rfl) ?_
                      refine va_get (D := D) (ci := 6) (v := .ref m3) (C := RX6) (T := TX6) (N := 9) hx hb hts iX6_tickOn_X6 hown hk.1 hP 0 rfl rfl 6 (by decide) (hts _ mX6_tickOn_f16) (fun _ h9 => h9) rfl dX6_tickOn_128 ?_
                      refine lv_iconst (v := 3) hx hb dX6_tickOn_131 (by decide) ?_
                      refine lv_iload_n hx hb dX6_tickOn_132 rfl (lv_at hl 0 rfl) ?_
                      refine lv_imul hx hb dX6_tickOn_133 ?_
                      refine top_int (nmulE (a := 3) (b := i) rfl rfl) ?_
                      refine lv_iconst (v := 2) hx hb dX6_tickOn_134 (by decide) ?_
                      refine lv_iadd hx hb dX6_tickOn_135 ?_
                      refine top_int (naddE (a := 3 * i) (b := 2) rfl rfl) ?_
                      refine aldN hx hb hk hP 2 rfl ((3 * i) + 2) rfl (by omega) (Nat.le_of_ble_eq_true rfl) dX6_tickOn_136 ?_
                      refine top_int (fl_r (d := i) (w := 2) (by omega)) ?_
                      refine lv_if_ne (tgt := 143) hx hb dX6_tickOn_137 (by decide) (fun c137 => ?_) (fun c137 => ?_)
                      · refine lv_aload_n hx hb dX6_tickOn_143 rfl (lv_at hl 2 rfl) ?_
                        refine va_get (D := D) (ci := 6) (v := .ref m3) (C := RX6) (T := TX6) (N := 9) hx hb hts iX6_tickOn_X6 hown hk.1 hP 0 rfl rfl 6 (by decide) (hts _ mX6_tickOn_f16) (fun _ h9 => h9) rfl dX6_tickOn_144 ?_
                        refine lv_iconst (v := 3) hx hb dX6_tickOn_147 (by decide) ?_
                        refine lv_iload_n hx hb dX6_tickOn_148 rfl (lv_at hl 0 rfl) ?_
                        refine lv_imul hx hb dX6_tickOn_149 ?_
                        refine top_int (nmulE (a := 3) (b := i) rfl rfl) ?_
                        refine lv_iconst (v := 0) hx hb dX6_tickOn_150 (by decide) ?_
                        refine lv_iadd hx hb dX6_tickOn_151 ?_
                        refine top_int (naddE (a := 3 * i) (b := 0) rfl rfl) ?_
                        refine lv_aload_n hx hb dX6_tickOn_152 rfl (lv_at hl 2 rfl) ?_
                        refine va_get (D := D) (ci := 6) (v := .ref m3) (C := RX6) (T := TX6) (N := 9) hx hb hts iX6_tickOn_X6 hown hk.1 hP 0 rfl rfl 6 (by decide) (hts _ mX6_tickOn_f16) (fun _ h9 => h9) rfl dX6_tickOn_153 ?_
                        refine lv_iconst (v := 3) hx hb dX6_tickOn_156 (by decide) ?_
                        refine lv_iload_n hx hb dX6_tickOn_157 rfl (lv_at hl 0 rfl) ?_
                        refine lv_imul hx hb dX6_tickOn_158 ?_
                        refine top_int (nmulE (a := 3) (b := i) rfl rfl) ?_
                        refine lv_iconst (v := 0) hx hb dX6_tickOn_159 (by decide) ?_
                        refine lv_iadd hx hb dX6_tickOn_160 ?_
                        refine top_int (naddE (a := 3 * i) (b := 0) rfl rfl) ?_
                        refine aldN hx hb hk hP 2 rfl ((3 * i) + 0) rfl (by omega) (Nat.le_of_ble_eq_true rfl) dX6_tickOn_161 ?_
                        refine top_int (fl_r (d := i) (w := 0) (by omega)) ?_
                        refine lv_aload_n hx hb dX6_tickOn_162 rfl (lv_at hl 2 rfl) ?_
                        refine va_get (D := D) (ci := 6) (v := .ref m3) (C := RX6) (T := TX6) (N := 9) hx hb hts iX6_tickOn_X6 hown hk.1 hP 0 rfl rfl 6 (by decide) (hts _ mX6_tickOn_f16) (fun _ h9 => h9) rfl dX6_tickOn_163 ?_
                        refine lv_iconst (v := 3) hx hb dX6_tickOn_166 (by decide) ?_
                        refine lv_iload_n hx hb dX6_tickOn_167 rfl (lv_at hl 0 rfl) ?_
                        refine lv_imul hx hb dX6_tickOn_168 ?_
                        refine top_int (nmulE (a := 3) (b := i) rfl rfl) ?_
                        refine lv_iconst (v := 1) hx hb dX6_tickOn_169 (by decide) ?_
                        refine lv_iadd hx hb dX6_tickOn_170 ?_
                        refine top_int (naddE (a := 3 * i) (b := 1) rfl rfl) ?_
                        refine aldN hx hb hk hP 2 rfl ((3 * i) + 1) rfl (by omega) (Nat.le_of_ble_eq_true rfl) dX6_tickOn_171 ?_
                        refine top_int (fl_r (d := i) (w := 1) (by omega)) ?_
                        refine lv_iadd hx hb dX6_tickOn_172 ?_
                        refine frI (wc := []) (wc' := []) (w' := [(m0, .inr (6, [.int th, .int (nI nD), .int (nI nT), .int (nI nC), .ref m1, .ref m2, .ref m3, .ref m4, .ref m5])), (m1, .inl (cI, 40, .inl (fl 5 (dGo (rnS nC cu S).2.1 nD)))), (m3, .inl (cI, 36, .inl (fl 3 (cGo (rnS nC cu S).2.2.2 i)))), (m4, .inl (cI, 96, .inl (fl 4 cu))), (m5, .inl (cI, 8, .inl (numA (un (rnS nC cu S).1 5 (tnd ((rnS nC cu S).1 5) ((rnS nC cu S).1 6))) (rnS nC cu S).2.2.1)))]) hP hD hS hA [] [0, 1, 2, 3, 4] [0, 1, 2, 3, 4] rfl rfl rfl rfl rfl (va_runS (As := [.int (((cGo (rnS nC cu S).2.2.2 i) 0 i) + ((cGo (rnS nC cu S).2.2.2 i) 1 i))]) (rest := [.int (nI ((3 * i) + 0)), .ref m3]) ⟨hx, hb, hml, hown, hts⟩ (tX6_round l D cI ((((cGo (rnS nC cu S).2.2.2 i) 0 i) + ((cGo (rnS nC cu S).2.2.2 i) 1 i)))  _) (va_cwS 1 hts gX6_tickOn_X6_round rfl rfl rfl hX6_round.2 ⟨Nat.le_of_ble_eq_true rfl, Nat.le_of_ble_eq_true rfl⟩) (preS_of hk hP hD [] rfl rfl) rfl rfl hl.1 rfl (lv_room (Nat.le_of_ble_eq_true rfl)) dX6_tickOn_173 ⟨Nat.le_of_ble_eq_true rfl, Nat.le_of_ble_eq_true rfl⟩) (fun H locs hP hD hS => ?_)
                        refine top_int (tnd_rd (cGo_OK hS1.2.2.1 i (by omega) i (by omega)).1 ⟨by have := (cGo_OK hS1.2.2.1 i (by omega) i (by omega)).2.1.1; omega, by have := (cGo_OK hS1.2.2.1 i (by omega) i (by omega)).2.1.2; omega⟩).1 ?_
                        refine astN hx hb hk hP hD hS 2 rfl ((3 * i) + 0) rfl (by omega) (Nat.le_of_ble_eq_true rfl) dX6_tickOn_176 (fun H locs hP hD hS => ?_)
                        rw [fl_w (b := 3) (d := i) (w := 0) (by omega)] at hP hD
                        have hP : va_P D vwCl [(m0, .inr (6, [.int th, .int (nI nD), .int (nI nT), .int (nI nC), .ref m1, .ref m2, .ref m3, .ref m4, .ref m5])), (m1, .inl (cI, 40, .inl (fl 5 (dGo (rnS nC cu S).2.1 nD)))), (m3, .inl (cI, 36, .inl (fl 3 (um (cGo (rnS nC cu S).2.2.2 i) 0 i (tnd (cGo (rnS nC cu S).2.2.2 i 0 i) (cGo (rnS nC cu S).2.2.2 i 1 i)))))), (m4, .inl (cI, 96, .inl (fl 4 cu))), (m5, .inl (cI, 8, .inl (numA (un (rnS nC cu S).1 5 (tnd ((rnS nC cu S).1 5) ((rnS nC cu S).1 6))) (rnS nC cu S).2.2.1)))] H := hP
                        have hD : va_D A [(m0, .inr (6, [.int th, .int (nI nD), .int (nI nT), .int (nI nC), .ref m1, .ref m2, .ref m3, .ref m4, .ref m5])), (m1, .inl (cI, 40, .inl (fl 5 (dGo (rnS nC cu S).2.1 nD)))), (m3, .inl (cI, 36, .inl (fl 3 (um (cGo (rnS nC cu S).2.2.2 i) 0 i (tnd (cGo (rnS nC cu S).2.2.2 i 0 i) (cGo (rnS nC cu S).2.2.2 i 1 i)))))), (m4, .inl (cI, 96, .inl (fl 4 cu))), (m5, .inl (cI, 8, .inl (numA (un (rnS nC cu S).1 5 (tnd ((rnS nC cu S).1 5) ((rnS nC cu S).1 6))) (rnS nC cu S).2.2.1)))] := hD
                        refine lv_aload_n hx hb dX6_tickOn_177 rfl (lv_at hl 2 rfl) ?_
                        refine va_get (D := D) (ci := 6) (v := .ref m3) (C := RX6) (T := TX6) (N := 9) hx hb hts iX6_tickOn_X6 hown hk.1 hP 0 rfl rfl 6 (by decide) (hts _ mX6_tickOn_f16) (fun _ h9 => h9) rfl dX6_tickOn_178 ?_
                        refine lv_iconst (v := 3) hx hb dX6_tickOn_181 (by decide) ?_
                        refine lv_iload_n hx hb dX6_tickOn_182 rfl (lv_at hl 0 rfl) ?_
                        refine lv_imul hx hb dX6_tickOn_183 ?_
                        refine top_int (nmulE (a := 3) (b := i) rfl rfl) ?_
                        refine lv_iconst (v := 2) hx hb dX6_tickOn_184 (by decide) ?_
                        refine lv_iadd hx hb dX6_tickOn_185 ?_
                        refine top_int (naddE (a := 3 * i) (b := 2) rfl rfl) ?_
                        refine lv_dup2_11 hx hb dX6_tickOn_186 rfl rfl ?_
                        refine aldN hx hb hk hP 2 rfl ((3 * i) + 2) rfl (by omega) (Nat.le_of_ble_eq_true rfl) dX6_tickOn_187 ?_
                        refine top_int (fl_r (d := i) (w := 2) (by omega)) ?_
                        refine lv_iconst (v := 1) hx hb dX6_tickOn_188 (by decide) ?_
                        refine lv_isub hx hb dX6_tickOn_189 ?_
                        refine astN hx hb hk hP hD hS 2 rfl ((3 * i) + 2) rfl (by omega) (Nat.le_of_ble_eq_true rfl) dX6_tickOn_190 (fun H locs hP hD hS => ?_)
                        rw [fl_w (b := 3) (d := i) (w := 2) (by omega)] at hP hD
                        have hP : va_P D vwCl [(m0, .inr (6, [.int th, .int (nI nD), .int (nI nT), .int (nI nC), .ref m1, .ref m2, .ref m3, .ref m4, .ref m5])), (m1, .inl (cI, 40, .inl (fl 5 (dGo (rnS nC cu S).2.1 nD)))), (m3, .inl (cI, 36, .inl (fl 3 (um (um (cGo (rnS nC cu S).2.2.2 i) 0 i (tnd (cGo (rnS nC cu S).2.2.2 i 0 i) (cGo (rnS nC cu S).2.2.2 i 1 i))) 2 i ((((um (cGo (rnS nC cu S).2.2.2 i) 0 i (tnd (cGo (rnS nC cu S).2.2.2 i 0 i) (cGo (rnS nC cu S).2.2.2 i 1 i))) 2 i) - 1)))))), (m4, .inl (cI, 96, .inl (fl 4 cu))), (m5, .inl (cI, 8, .inl (numA (un (rnS nC cu S).1 5 (tnd ((rnS nC cu S).1 5) ((rnS nC cu S).1 6))) (rnS nC cu S).2.2.1)))] H := hP
                        have hD : va_D A [(m0, .inr (6, [.int th, .int (nI nD), .int (nI nT), .int (nI nC), .ref m1, .ref m2, .ref m3, .ref m4, .ref m5])), (m1, .inl (cI, 40, .inl (fl 5 (dGo (rnS nC cu S).2.1 nD)))), (m3, .inl (cI, 36, .inl (fl 3 (um (um (cGo (rnS nC cu S).2.2.2 i) 0 i (tnd (cGo (rnS nC cu S).2.2.2 i 0 i) (cGo (rnS nC cu S).2.2.2 i 1 i))) 2 i ((((um (cGo (rnS nC cu S).2.2.2 i) 0 i (tnd (cGo (rnS nC cu S).2.2.2 i 0 i) (cGo (rnS nC cu S).2.2.2 i 1 i))) 2 i) - 1)))))), (m4, .inl (cI, 96, .inl (fl 4 cu))), (m5, .inl (cI, 8, .inl (numA (un (rnS nC cu S).1 5 (tnd ((rnS nC cu S).1 5) ((rnS nC cu S).1 6))) (rnS nC cu S).2.2.1)))] := hD
                        refine lv_iinc (v := nI (i + 1)) (lv' := [(2, .int (nI (i + 1))), (1, .int (nI (rcN cu (S.1 1) nC))), (0, .ref m0)]) hx hb dX6_tickOn_191 hl (k := 0) rfl (nI_inc i) (by decide) rfl (fun ls hl => ?_)
                        refine lv_goto (tgt := 116) hx hb dX6_tickOn_194 (by decide) ?_
                        have ihx := ih116 (i + 1)  (by omega) (by omega)
                        have hz : ¬ cGo (rnS nC cu S).2.2.2 i 2 i ≤ 0 := fun q => c137 (Int32.le_antisymm q (Int32.le_iff_toInt_le.mpr (cGo_OK hS1.2.2.1 i (by omega) i (by omega)).2.2.1))
                        rw [show cGo (rnS nC cu S).2.2.2 (i + 1) = um (um (cGo (rnS nC cu S).2.2.2 i) 0 i (tnd (cGo (rnS nC cu S).2.2.2 i 0 i) (cGo (rnS nC cu S).2.2.2 i 1 i))) 2 i (cGo (rnS nC cu S).2.2.2 i 2 i - 1) from if_neg hz] at ihx
                        exact ihx _ _ hP hD hS _ (lv_sub hl [0, 1, 2] rfl)
                      · refine lv_goto (tgt := 191) hx hb dX6_tickOn_140 (by decide) ?_
                        refine lv_iinc (v := nI (i + 1)) (lv' := [(2, .int (nI (i + 1))), (1, .int (nI (rcN cu (S.1 1) nC))), (0, .ref m0)]) hx hb dX6_tickOn_191 hl (k := 0) rfl (nI_inc i) (by decide) rfl (fun ls hl => ?_)
                        refine lv_goto (tgt := 116) hx hb dX6_tickOn_194 (by decide) ?_
                        have ihx := ih116 (i + 1)  (by omega) (by omega)
                        rw [show cGo (rnS nC cu S).2.2.2 (i + 1) = cGo (rnS nC cu S).2.2.2 i from if_pos (by rw [c137]; decide)] at ihx
                        exact ihx _ _ hP hD hS _ (lv_sub hl [0, 1, 2] rfl)
                have hK12 := hS1.1
                exact key116 ((rnS nC cu S).2.2.1 + 1) 0  (by omega) (by omega)  _ _ hP hD hS _ (lv_sub hl [0, 1, 2] rfl)
              · refine lv_aload_n hx hb dX6_tickOn_80 rfl (lv_at hl 2 rfl) ?_
                refine lv_iload_n hx hb dX6_tickOn_81 rfl (lv_at hl 0 rfl) ?_
                refine frV (wc := [(m0, .inr (6, [.int th, .int (nI nD), .int (nI nT), .int (nI nC), .ref m1, .ref m2, .ref m3, .ref m4, .ref m5])), (m1, .inl (cI, 40, .inl (fl 5 (dGo (rnS nC cu S).2.1 i))))]) (wc' := [(m0, .inr (6, [.int th, .int (nI nD), .int (nI nT), .int (nI nC), .ref m1, .ref m2, .ref m3, .ref m4, .ref m5])), (m1, .inl (cI, 40, .inl (fl 5 (dSt (dGo (rnS nC cu S).2.1 i) i))))]) (w' := [(m0, .inr (6, [.int th, .int (nI nD), .int (nI nT), .int (nI nC), .ref m1, .ref m2, .ref m3, .ref m4, .ref m5])), (m1, .inl (cI, 40, .inl (fl 5 (dSt (dGo (rnS nC cu S).2.1 i) i)))), (m3, .inl (cI, 36, .inl (fl 3 (rnS nC cu S).2.2.2))), (m4, .inl (cI, 96, .inl (fl 4 cu))), (m5, .inl (cI, 8, .inl (numA (rnS nC cu S).1 (rnS nC cu S).2.2.1)))]) hP hD hS hA [0, 1] [2, 3, 4] [3, 4, 0, 1, 2] rfl rfl rfl rfl rfl (va_runV (As := [.int (nI i)]) (rest := []) ⟨hx, hb, hml, hown, hts⟩ (tX6_glow l D cI m0 m1 m2 m3 m4 m5 nD nT nC th (dGo (rnS nC cu S).2.1 i) i (by omega) (dGo_OK hS1.2.1 i (by omega) i (by omega)).2.1 (dGo_OK hS1.2.1 i (by omega) i (by omega)).2.2.1 (dGo_OK hS1.2.1 i (by omega) i (by omega)).2.2.2 _) (cwV 1 hts gX6_tickOn_X6_glow rfl rfl rfl hX6_glow ⟨Nat.le_of_ble_eq_true rfl, Nat.le_of_ble_eq_true rfl⟩) (preV_of hk hP hD [0, 1] rfl rfl (recvO hk hP (ci := 6) (q0 := 0) rfl rfl)) rfl rfl hl.1 rfl (lv_room (Nat.le_of_ble_eq_true rfl)) dX6_tickOn_82 ⟨Nat.le_of_ble_eq_true rfl, Nat.le_of_ble_eq_true rfl⟩) (fun H locs hP hD hS => ?_)
                refine lv_iinc (v := nI (i + 1)) (lv' := [(2, .int (nI (i + 1))), (1, .int (nI (rcN cu (S.1 1) nC))), (0, .ref m0)]) hx hb dX6_tickOn_85 hl (k := 0) rfl (nI_inc i) (by decide) rfl (fun ls hl => ?_)
                refine lv_goto (tgt := 72) hx hb dX6_tickOn_88 (by decide) ?_
                have ihx := ih72 (i + 1)  (by omega) (by omega)
                rw [show dGo (rnS nC cu S).2.1 (i + 1) = dSt (dGo (rnS nC cu S).2.1 i) i from rfl] at ihx
                exact ihx _ _ hP hD hS _ (lv_sub hl [0, 1, 2] rfl)
          exact key72 (nD + 1) 0  (by omega) (by omega)  _ _ hP hD hS _ (lv_sub hl [0, 2, 3] rfl)
        · refine lv_aload_n hx hb dX6_tickOn_29 rfl (lv_at hl 3 rfl) ?_
          refine va_get (D := D) (ci := 6) (v := .ref m4) (C := RX6) (T := TX6) (N := 9) hx hb hts iX6_tickOn_X6 hown hk.1 hP 0 rfl rfl 7 (by decide) (hts _ mX6_tickOn_f19) (fun _ h9 => h9) rfl dX6_tickOn_30 ?_
          refine lv_iconst (v := 4) hx hb dX6_tickOn_33 (by decide) ?_
          refine lv_iload_n hx hb dX6_tickOn_34 rfl (lv_at hl 0 rfl) ?_
          refine lv_imul hx hb dX6_tickOn_35 ?_
          refine top_int (nmulE (a := 4) (b := i) rfl rfl) ?_
          refine lv_iconst (v := 0) hx hb dX6_tickOn_36 (by decide) ?_
          refine lv_iadd hx hb dX6_tickOn_37 ?_
          refine top_int (naddE (a := 4 * i) (b := 0) rfl rfl) ?_
          refine aldN hx hb hk hP 3 rfl ((4 * i) + 0) rfl (by omega) (Nat.le_of_ble_eq_true rfl) dX6_tickOn_38 ?_
          refine top_int (fl_r (d := i) (w := 0) (by omega)) ?_
          refine lv_iload_n hx hb dX6_tickOn_39 rfl (lv_at hl 2 rfl) ?_
          refine lv_icmp_eq (tgt := 46) hx hb dX6_tickOn_40 (by decide) (fun c40 => ?_) (fun c40 => ?_)
          · refine lv_aload_n hx hb dX6_tickOn_46 rfl (lv_at hl 3 rfl) ?_
            refine lv_iload_n hx hb dX6_tickOn_47 rfl (lv_at hl 0 rfl) ?_
            refine frV (wc := [(m0, .inr (6, [.int th, .int (nI nD), .int (nI nT), .int (nI nC), .ref m1, .ref m2, .ref m3, .ref m4, .ref m5])), (m1, .inl (cI, 40, .inl (fl 5 (rcS cu (S.1 1) S i).2.1))), (m3, .inl (cI, 36, .inl (fl 3 (rcS cu (S.1 1) S i).2.2.2))), (m4, .inl (cI, 96, .inl (fl 4 cu))), (m5, .inl (cI, 8, .inl (numA (rcS cu (S.1 1) S i).1 (rcS cu (S.1 1) S i).2.2.1)))]) (wc' := [(m0, .inr (6, [.int th, .int (nI nD), .int (nI nT), .int (nI nC), .ref m1, .ref m2, .ref m3, .ref m4, .ref m5])), (m1, .inl (cI, 40, .inl (fl 5 (obF (rcS cu (S.1 1) S i) (cu 1 i) (cu 2 i) (cu 3 i)).2.1))), (m3, .inl (cI, 36, .inl (fl 3 (obF (rcS cu (S.1 1) S i) (cu 1 i) (cu 2 i) (cu 3 i)).2.2.2))), (m4, .inl (cI, 96, .inl (fl 4 cu))), (m5, .inl (cI, 8, .inl (numA (obF (rcS cu (S.1 1) S i) (cu 1 i) (cu 2 i) (cu 3 i)).1 (obF (rcS cu (S.1 1) S i) (cu 1 i) (cu 2 i) (cu 3 i)).2.2.1)))]) (w' := [(m0, .inr (6, [.int th, .int (nI nD), .int (nI nT), .int (nI nC), .ref m1, .ref m2, .ref m3, .ref m4, .ref m5])), (m1, .inl (cI, 40, .inl (fl 5 (obF (rcS cu (S.1 1) S i) (cu 1 i) (cu 2 i) (cu 3 i)).2.1))), (m3, .inl (cI, 36, .inl (fl 3 (obF (rcS cu (S.1 1) S i) (cu 1 i) (cu 2 i) (cu 3 i)).2.2.2))), (m4, .inl (cI, 96, .inl (fl 4 cu))), (m5, .inl (cI, 8, .inl (numA (obF (rcS cu (S.1 1) S i) (cu 1 i) (cu 2 i) (cu 3 i)).1 (obF (rcS cu (S.1 1) S i) (cu 1 i) (cu 2 i) (cu 3 i)).2.2.1)))]) hP hD hS hA [0, 1, 2, 3, 4] [] [0, 1, 2, 3, 4] rfl rfl rfl rfl rfl (va_runV (As := [.int (nI i)]) (rest := []) ⟨hx, hb, hml, hown, hts⟩ (tX6_carryOut l D cI m0 m1 m2 m3 m4 m5 nD nT nC th cu (rcS cu (S.1 1) S i) i hn hC (rcS_OK hO hq (S.1 1) i (by omega)) hq (by omega) _) (cwV 1 hts gX6_tickOn_X6_carryOut rfl rfl rfl hX6_carryOut ⟨Nat.le_of_ble_eq_true rfl, Nat.le_of_ble_eq_true rfl⟩) (preV_of hk hP hD [0, 1, 2, 3, 4] rfl rfl (recvO hk hP (ci := 6) (q0 := 0) rfl rfl)) rfl rfl hl.1 rfl (lv_room (Nat.le_of_ble_eq_true rfl)) dX6_tickOn_48 ⟨Nat.le_of_ble_eq_true rfl, Nat.le_of_ble_eq_true rfl⟩) (fun H locs hP hD hS => ?_)
            refine lv_iinc (v := nI (rcN cu (S.1 1) i + 1)) (lv' := [(1, .int (nI (rcN cu (S.1 1) i + 1))), (3, .int (nI i)), (2, .int (S.1 1)), (0, .ref m0)]) hx hb dX6_tickOn_51 hl (k := 1) rfl (nI_inc (rcN cu (S.1 1) i)) (by decide) rfl (fun ls hl => ?_)
            refine lv_iinc (v := nI (i + 1)) (lv' := [(3, .int (nI (i + 1))), (1, .int (nI (rcN cu (S.1 1) i + 1))), (2, .int (S.1 1)), (0, .ref m0)]) hx hb dX6_tickOn_54 hl (k := 1) rfl (nI_inc i) (by decide) rfl (fun ls hl => ?_)
            refine lv_goto (tgt := 21) hx hb dX6_tickOn_57 (by decide) ?_
            have ihx := ih21 (i + 1)  (by omega) (by omega)
            rw [show rcS cu (S.1 1) S (i + 1) = obF (rcS cu (S.1 1) S i) (cu 1 i) (cu 2 i) (cu 3 i) from if_pos c40, show rcN cu (S.1 1) (i + 1) = rcN cu (S.1 1) i + 1 from if_pos c40] at ihx
            exact ihx _ _ hP hD hS _ (lv_sub hl [0, 1, 2, 3] rfl)
          · refine lv_goto (tgt := 54) hx hb dX6_tickOn_43 (by decide) ?_
            refine lv_iinc (v := nI (i + 1)) (lv' := [(3, .int (nI (i + 1))), (1, .int (nI (rcN cu (S.1 1) i))), (2, .int (S.1 1)), (0, .ref m0)]) hx hb dX6_tickOn_54 hl (k := 0) rfl (nI_inc i) (by decide) rfl (fun ls hl => ?_)
            refine lv_goto (tgt := 21) hx hb dX6_tickOn_57 (by decide) ?_
            have ihx := ih21 (i + 1)  (by omega) (by omega)
            rw [show rcS cu (S.1 1) S (i + 1) = rcS cu (S.1 1) S i from if_neg c40, show rcN cu (S.1 1) (i + 1) = rcN cu (S.1 1) i from if_neg c40] at ihx
            exact ihx _ _ hP hD hS _ (lv_sub hl [0, 1, 2, 3] rfl)
    exact key21 (nC + 1) 0  (by omega) (by omega)  _ _ hP hD hS _ (lv_sub hl [0, 2, 1, 3] rfl)


theorem hX6_ticksOn : yX6_ticksOn.cls = RX6 ∧ yX6_ticksOn.cls ≠ "java/lang/invoke/MethodHandle" ∧ yX6_ticksOn.cls ≠ "java/lang/invoke/VarHandle" ∧ (parseMethodDescriptor yX6_ticksOn.desc).map (fun d => d.parameters.length) = some 1 := by decide +kernel
set_option maxHeartbeats 4000000 in
set_option maxRecDepth 100000 in
theorem tX6_ticksOn (l : Launch) (D : va_G) (cI : ClassId) (m0 m1 m2 m3 m4 m5 nD nT nC : Nat) (th : Int32) (cu : Mx) (S : SH) (n : Nat) (hn : nD ≤ 8) (hC : nC ≤ 24) (hO : SOK nD S) (hq : qOK nD nC cu) (ht : n ≤ 1000) : CI l yX6_ticksOn wsX6_ticksOn ({ frames := 3, cells := 0, slots := 0, locals := 70 } : Room) D cI ([.ref m0, .int (nI n)] : List Value) [(m0, .inr (6, [.int th, .int (nI nD), .int (nI nT), .int (nI nC), .ref m1, .ref m2, .ref m3, .ref m4, .ref m5])), (m1, .inl (cI, 40, .inl (fl 5 S.2.1))), (m3, .inl (cI, 36, .inl (fl 3 S.2.2.2))), (m4, .inl (cI, 96, .inl (fl 4 cu))), (m5, .inl (cI, 8, .inl (numA S.1 S.2.2.1)))] (nI (tkC nD nC cu S n)) [(m0, .inr (6, [.int th, .int (nI nD), .int (nI nT), .int (nI nC), .ref m1, .ref m2, .ref m3, .ref m4, .ref m5])), (m1, .inl (cI, 40, .inl (fl 5 (tkI nD nC cu S n).2.1))), (m3, .inl (cI, 36, .inl (fl 3 (tkI nD nC cu S n).2.2.2))), (m4, .inl (cI, 96, .inl (fl 4 cu))), (m5, .inl (cI, 8, .inl (numA (tkI nD nC cu S n).1 (tkI nD nC cu S n).2.2.1)))] := by
  refine entI (cc := cX6_ticksOn) (maxL := 4) (ret := (some .int)) (by decide) rfl (Nat.le_of_ble_eq_true rfl) (fun p e s m below meth c A ls fx hl => ?_)
  obtain ⟨hx, hb, hr, hml, hown, hts, hlocks, hk, hP, hD, hA⟩ := fx
  have hown : s.vm.findClass RX6 = some m.cls := hown
  have hS : va_S A s.heap s.heap [] := va_S.rf
  have hP : va_P D vwCl [(m0, .inr (6, [.int th, .int (nI nD), .int (nI nT), .int (nI nC), .ref m1, .ref m2, .ref m3, .ref m4, .ref m5])), (m1, .inl (cI, 40, .inl (fl 5 S.2.1))), (m3, .inl (cI, 36, .inl (fl 3 S.2.2.2))), (m4, .inl (cI, 96, .inl (fl 4 cu))), (m5, .inl (cI, 8, .inl (numA S.1 S.2.2.1)))] s.heap := hP
  have hD : va_D A [(m0, .inr (6, [.int th, .int (nI nD), .int (nI nT), .int (nI nC), .ref m1, .ref m2, .ref m3, .ref m4, .ref m5])), (m1, .inl (cI, 40, .inl (fl 5 S.2.1))), (m3, .inl (cI, 36, .inl (fl 3 S.2.2.2))), (m4, .inl (cI, 96, .inl (fl 4 cu))), (m5, .inl (cI, 8, .inl (numA S.1 S.2.2.1)))] := hD
  have hl : lv_has ls 4 [(0, .ref m0), (1, .int (nI n))] := hl
  refine lv_iconst (v := 0) hx hb dX6_ticksOn_0 (by decide) ?_
  refine lv_istore_n (lv' := [(2, .int 0), (0, .ref m0), (1, .int (nI n))]) hx hb dX6_ticksOn_1 rfl hl (by decide) rfl (fun ls hl => ?_)
  refine lv_iconst (v := 0) hx hb dX6_ticksOn_2 (by decide) ?_
  refine lv_istore_n (lv' := [(3, .int 0), (2, .int 0), (0, .ref m0), (1, .int (nI n))]) hx hb dX6_ticksOn_3 rfl hl (by decide) rfl (fun ls hl => ?_)
  have key4 : ∀ (ku4 : Nat) (i : Nat), i ≤ n → n - i < ku4 → ∀ (H : Heap) (locs : List Loc), va_P D vwCl [(m0, .inr (6, [.int th, .int (nI nD), .int (nI nT), .int (nI nC), .ref m1, .ref m2, .ref m3, .ref m4, .ref m5])), (m1, .inl (cI, 40, .inl (fl 5 (tkI nD nC cu S i).2.1))), (m3, .inl (cI, 36, .inl (fl 3 (tkI nD nC cu S i).2.2.2))), (m4, .inl (cI, 96, .inl (fl 4 cu))), (m5, .inl (cI, 8, .inl (numA (tkI nD nC cu S i).1 (tkI nD nC cu S i).2.2.1)))] H → va_D A [(m0, .inr (6, [.int th, .int (nI nD), .int (nI nT), .int (nI nC), .ref m1, .ref m2, .ref m3, .ref m4, .ref m5])), (m1, .inl (cI, 40, .inl (fl 5 (tkI nD nC cu S i).2.1))), (m3, .inl (cI, 36, .inl (fl 3 (tkI nD nC cu S i).2.2.2))), (m4, .inl (cI, 96, .inl (fl 4 cu))), (m5, .inl (cI, 8, .inl (numA (tkI nD nC cu S i).1 (tkI nD nC cu S i).2.2.1)))] → va_S A s.heap H locs → ∀ ls : Array Slot, lv_has ls 4 [(3, .int (nI i)), (2, .int (nI (tkC nD nC cu S i))), (0, .ref m0), (1, .int (nI n))] → W p l e ({ frames := 3, cells := 0, slots := 0, locals := 70 } : Room) s m ([.ref m0, .int (nI n)] : List Value).toArray below meth c H locs 0 0 (MQ below (poI D A [(m0, .inr (6, [.int th, .int (nI nD), .int (nI nT), .int (nI nC), .ref m1, .ref m2, .ref m3, .ref m4, .ref m5])), (m1, .inl (cI, 40, .inl (fl 5 (tkI nD nC cu S n).2.1))), (m3, .inl (cI, 36, .inl (fl 3 (tkI nD nC cu S n).2.2.2))), (m4, .inl (cI, 96, .inl (fl 4 cu))), (m5, .inl (cI, 8, .inl (numA (tkI nD nC cu S n).1 (tkI nD nC cu S n).2.2.1)))] (nI (tkC nD nC cu S n))) ([.ref m0, .int (nI n)] : List Value).toArray s 0 0 A) (F0 m 4 ls []) := by
    intro ku4
    induction ku4 with
    | zero => intro i; intros; omega
    | succ ku4 ih4 =>
      intro i  hi4 hm4  H locs hP hD hS ls hl
      refine lv_iload_n hx hb dX6_ticksOn_4 rfl (lv_at hl 0 rfl) ?_
      refine lv_iload_n hx hb dX6_ticksOn_5 rfl (lv_at hl 3 rfl) ?_
      refine icgeN (i := i) (n := n) (tgt := 22) hx hb (by omega) (by omega) dX6_ticksOn_6 (by decide) (fun c6 => ?_) (fun c6 => ?_)
      · obtain rfl : n = i := by omega
        refine lv_iload_n hx hb dX6_ticksOn_22 rfl (lv_at hl 1 rfl) ?_
        exact retI hx hb hr hlocks hS hP hD dX6_ticksOn_23 (rfl) rfl
      · refine lv_iload_n hx hb dX6_ticksOn_9 rfl (lv_at hl 1 rfl) ?_
        refine lv_aload_n hx hb dX6_ticksOn_10 rfl (lv_at hl 2 rfl) ?_
        refine frI (wc := [(m0, .inr (6, [.int th, .int (nI nD), .int (nI nT), .int (nI nC), .ref m1, .ref m2, .ref m3, .ref m4, .ref m5])), (m1, .inl (cI, 40, .inl (fl 5 (tkI nD nC cu S i).2.1))), (m3, .inl (cI, 36, .inl (fl 3 (tkI nD nC cu S i).2.2.2))), (m4, .inl (cI, 96, .inl (fl 4 cu))), (m5, .inl (cI, 8, .inl (numA (tkI nD nC cu S i).1 (tkI nD nC cu S i).2.2.1)))]) (wc' := [(m0, .inr (6, [.int th, .int (nI nD), .int (nI nT), .int (nI nC), .ref m1, .ref m2, .ref m3, .ref m4, .ref m5])), (m1, .inl (cI, 40, .inl (fl 5 (tk nD nC cu (tkI nD nC cu S i)).2.1))), (m3, .inl (cI, 36, .inl (fl 3 (tk nD nC cu (tkI nD nC cu S i)).2.2.2))), (m4, .inl (cI, 96, .inl (fl 4 cu))), (m5, .inl (cI, 8, .inl (numA (tk nD nC cu (tkI nD nC cu S i)).1 (tk nD nC cu (tkI nD nC cu S i)).2.2.1)))]) (w' := [(m0, .inr (6, [.int th, .int (nI nD), .int (nI nT), .int (nI nC), .ref m1, .ref m2, .ref m3, .ref m4, .ref m5])), (m1, .inl (cI, 40, .inl (fl 5 (tk nD nC cu (tkI nD nC cu S i)).2.1))), (m3, .inl (cI, 36, .inl (fl 3 (tk nD nC cu (tkI nD nC cu S i)).2.2.2))), (m4, .inl (cI, 96, .inl (fl 4 cu))), (m5, .inl (cI, 8, .inl (numA (tk nD nC cu (tkI nD nC cu S i)).1 (tk nD nC cu (tkI nD nC cu S i)).2.2.1)))]) hP hD hS hA [0, 1, 2, 3, 4] [] [0, 1, 2, 3, 4] rfl rfl rfl rfl rfl (va_runV (As := []) (rest := [.int (nI (tkC nD nC cu S i))]) ⟨hx, hb, hml, hown, hts⟩ (tX6_tickOn l D cI m0 m1 m2 m3 m4 m5 nD nT nC th cu (tkI nD nC cu S i) hn hC (tkI_OK hO hq i) hq _) (cwV 0 hts gX6_ticksOn_X6_tickOn rfl rfl rfl hX6_tickOn ⟨Nat.le_of_ble_eq_true rfl, Nat.le_of_ble_eq_true rfl⟩) (preV_of hk hP hD [0, 1, 2, 3, 4] rfl rfl (recvO hk hP (ci := 6) (q0 := 0) rfl rfl)) rfl rfl hl.1 rfl (lv_room (Nat.le_of_ble_eq_true rfl)) dX6_ticksOn_11 ⟨Nat.le_of_ble_eq_true rfl, Nat.le_of_ble_eq_true rfl⟩) (fun H locs hP hD hS => ?_)
        refine lv_iadd hx hb dX6_ticksOn_14 ?_
        refine top_int (naddE (a := tkC nD nC cu S i) (b := tkN nC cu (tkI nD nC cu S i)) rfl rfl) ?_
        refine lv_istore_n (lv' := [(2, .int (nI ((tkC nD nC cu S i) + (tkN nC cu (tkI nD nC cu S i))))), (3, .int (nI i)), (0, .ref m0), (1, .int (nI n))]) hx hb dX6_ticksOn_15 rfl hl (by decide) rfl (fun ls hl => ?_)
        refine lv_iinc (v := nI (i + 1)) (lv' := [(3, .int (nI (i + 1))), (2, .int (nI ((tkC nD nC cu S i) + (tkN nC cu (tkI nD nC cu S i))))), (0, .ref m0), (1, .int (nI n))]) hx hb dX6_ticksOn_16 hl (k := 1) rfl (nI_inc i) (by decide) rfl (fun ls hl => ?_)
        refine lv_goto (tgt := 4) hx hb dX6_ticksOn_19 (by decide) ?_
        exact ih4 (i + 1)  (by omega) (by omega)  _ _ hP hD hS _ (lv_sub hl [0, 1, 2, 3] rfl)
  exact key4 (n + 1) 0  (by omega) (by omega)  _ _ hP hD hS _ (lv_sub hl [0, 1, 2, 3] rfl)
