theorem mX4_init_oi : (.methodLink RX4 3 objectInit : Cond) ∈ wsX4_init := by decide +kernel
theorem mX4_init_oin : (.instanceMethod objectInit : Cond) ∈ wsX4_init := by decide +kernel
theorem mX4_init_oic : (.code objectInit ⟨#[0xb1]⟩ 1 none : Cond) ∈ wsX4_init := by decide +kernel
theorem mX4_init_aI : (.arrayClass .int : Cond) ∈ wsX4_init := by decide +kernel
theorem mX4_init_f9 : (.fieldLink RX4 9 "StarConsole$Stars" "degree" "[I" : Cond) ∈ wsX4_init := by decide +kernel
theorem iX4_init_X4 : ∀ w ∈ wsX40, w ∈ wsX4_init := by decide +kernel
theorem mX4_init_f15 : (.fieldLink RX4 15 "StarConsole$Stars" "light" "[I" : Cond) ∈ wsX4_init := by decide +kernel

theorem hX4_init : yX4_init.cls = RX4 ∧ yX4_init.cls ≠ "java/lang/invoke/MethodHandle" ∧ yX4_init.cls ≠ "java/lang/invoke/VarHandle" ∧ (parseMethodDescriptor yX4_init.desc).map (fun d => d.parameters.length) = some 0 := by decide +kernel
set_option maxHeartbeats 4000000 in
set_option maxRecDepth 100000 in
theorem tX4_init (l : Launch) (D : va_G) (cI : ClassId) (t0 : Nat)  : CN l yX4_init wsX4_init ({ frames := 1, cells := 2, slots := 40, locals := 21 } : Room) D cI ([.ref t0] : List Value) [(t0, .inr (4, [.int 0, .null, .null]))] (fun q => [(t0, .inr (4, [.int 0, .ref (q 0), .ref (q 1)])), ((q 0), .inl (cI, 20, .inl (fun _ => 0))), ((q 1), .inl (cI, 20, .inl (fun _ => 0)))]) 2 40 := by
  refine entN (cc := cX4_init) (maxL := 1) (ret := none) (by decide) rfl (Nat.le_of_ble_eq_true rfl) (fun p e s m below meth c A ls hni fx hl => ?_)
  have fx0 := fx
  obtain ⟨hx, hb, hr, hml, hown, hts, hlocks, hk, hP, hD, hA⟩ := fx
  have hown : s.vm.findClass RX4 = some m.cls := hown
  have hS : va_S A s.heap s.heap [] := va_S.rf
  have hP : va_P D vwCl [(t0, .inr (4, [.int 0, .null, .null]))] s.heap := hP
  have hD : va_D A [(t0, .inr (4, [.int 0, .null, .null]))] := hD
  have hl : lv_has ls 1 [(0, .ref t0)] := hl
  obtain ⟨-, -, hin⟩ := hni
  have hin : meth.name = "<init>" := hin.resolve_right (fun q => q rfl)
  refine lv_aload_n hx hb dX4_init_0 rfl (lv_at hl 0 rfl) ?_
  refine W.objInit hx hb hown (hts _ mX4_init_oi) (hts _ mX4_init_oin) (hts _ mX4_init_oic) rfl (by rw [hml]; exact hl.1) rfl dX4_init_1 (Nat.le_of_ble_eq_true rfl) (Nat.le_of_ble_eq_true rfl) ?_
  refine W.eq (g2 := F0 m 4 ls []) rfl ?_
  refine lv_aload_n hx hb dX4_init_4 rfl (lv_at hl 0 rfl) ?_
  refine lv_bipush (v := 20) hx hb dX4_init_5 (by decide) ?_
  refine va_newa (atype := .int) (ty := .int) (N' := 20) (a0 := (20, .inl (fun _ => 0))) hx hb (hts _ mX4_init_aI) rfl hk.1 hP hD hS hA (fun _ => rfl) (by decide) (by decide) (Nat.le_of_ble_eq_true rfl) (Nat.le_of_ble_eq_true rfl) (Nat.le_of_ble_eq_true rfl) dX4_init_7 (fun nq1 cA H hKn hP hD hS => ?_)
  obtain rfl : cI = cA := one_cls hKn
  have hP : va_P D vwCl [(t0, .inr (4, [.int 0, .null, .null])), (nq1, .inl (cI, 20, .inl (fun _ => 0)))] H := hP
  have hD : va_D A [(t0, .inr (4, [.int 0, .null, .null])), (nq1, .inl (cI, 20, .inl (fun _ => 0)))] := hD
  refine va_putF (D := D) (ci := 4) (v := .ref nq1) (ty := (.array .int)) (C := RX4) (T := TX4) (N := 3) hx hb hts iX4_init_X4 tyX4 tyX4_ok nmX4 hown hk.1 hP hD hS 0 rfl rfl 1 (by decide) (hts _ mX4_init_f9) (fun _ h9 => h9) rfl hin rfl (by decide +kernel) rfl rfl (Nat.le_of_ble_eq_true rfl) dX4_init_9 (fun H locs hP hD hS => ?_)
  have hP : va_P D vwCl [(t0, .inr (4, [.int 0, .ref nq1, .null])), (nq1, .inl (cI, 20, .inl (fun _ => 0)))] H := hP
  have hD : va_D A [(t0, .inr (4, [.int 0, .ref nq1, .null])), (nq1, .inl (cI, 20, .inl (fun _ => 0)))] := hD
  refine lv_aload_n hx hb dX4_init_12 rfl (lv_at hl 0 rfl) ?_
  refine lv_bipush (v := 20) hx hb dX4_init_13 (by decide) ?_
  refine va_newa (atype := .int) (ty := .int) (N' := 20) (a0 := (20, .inl (fun _ => 0))) hx hb (hts _ mX4_init_aI) rfl hk.1 hP hD hS hA (fun _ => rfl) (by decide) (by decide) (Nat.le_of_ble_eq_true rfl) (Nat.le_of_ble_eq_true rfl) (Nat.le_of_ble_eq_true rfl) dX4_init_15 (fun nq2 cA H hKn hP hD hS => ?_)
  obtain rfl : cI = cA := one_cls hKn
  have hP : va_P D vwCl [(t0, .inr (4, [.int 0, .ref nq1, .null])), (nq1, .inl (cI, 20, .inl (fun _ => 0))), (nq2, .inl (cI, 20, .inl (fun _ => 0)))] H := hP
  have hD : va_D A [(t0, .inr (4, [.int 0, .ref nq1, .null])), (nq1, .inl (cI, 20, .inl (fun _ => 0))), (nq2, .inl (cI, 20, .inl (fun _ => 0)))] := hD
  refine va_putF (D := D) (ci := 4) (v := .ref nq2) (ty := (.array .int)) (C := RX4) (T := TX4) (N := 3) hx hb hts iX4_init_X4 tyX4 tyX4_ok nmX4 hown hk.1 hP hD hS 0 rfl rfl 2 (by decide) (hts _ mX4_init_f15) (fun _ h9 => h9) rfl hin rfl (by decide +kernel) rfl rfl (Nat.le_of_ble_eq_true rfl) dX4_init_17 (fun H locs hP hD hS => ?_)
  have hP : va_P D vwCl [(t0, .inr (4, [.int 0, .ref nq1, .ref nq2])), (nq1, .inl (cI, 20, .inl (fun _ => 0))), (nq2, .inl (cI, 20, .inl (fun _ => 0)))] H := hP
  have hD : va_D A [(t0, .inr (4, [.int 0, .ref nq1, .ref nq2])), (nq1, .inl (cI, 20, .inl (fun _ => 0))), (nq2, .inl (cI, 20, .inl (fun _ => 0)))] := hD
  exact retN (fun j => ([nq1, nq2] : List Nat).getD j 0) hx hb hr hlocks hS hP hD dX4_init_20 (Nat.le_of_ble_eq_true rfl) (Nat.le_of_ble_eq_true rfl)

theorem mX1_init_oi : (.methodLink RX1 3 objectInit : Cond) ∈ wsX1_init := by decide +kernel
theorem mX1_init_oin : (.instanceMethod objectInit : Cond) ∈ wsX1_init := by decide +kernel
theorem mX1_init_oic : (.code objectInit ⟨#[0xb1]⟩ 1 none : Cond) ∈ wsX1_init := by decide +kernel
theorem mX1_init_aI : (.arrayClass .int : Cond) ∈ wsX1_init := by decide +kernel
theorem mX1_init_f9 : (.fieldLink RX1 9 "StarConsole$Cues" "time" "[I" : Cond) ∈ wsX1_init := by decide +kernel
theorem iX1_init_X1 : ∀ w ∈ wsX10, w ∈ wsX1_init := by decide +kernel
theorem mX1_init_f15 : (.fieldLink RX1 15 "StarConsole$Cues" "kind" "[I" : Cond) ∈ wsX1_init := by decide +kernel
theorem mX1_init_f18 : (.fieldLink RX1 18 "StarConsole$Cues" "a" "[I" : Cond) ∈ wsX1_init := by decide +kernel
theorem mX1_init_f21 : (.fieldLink RX1 21 "StarConsole$Cues" "b" "[I" : Cond) ∈ wsX1_init := by decide +kernel

theorem hX1_init : yX1_init.cls = RX1 ∧ yX1_init.cls ≠ "java/lang/invoke/MethodHandle" ∧ yX1_init.cls ≠ "java/lang/invoke/VarHandle" ∧ (parseMethodDescriptor yX1_init.desc).map (fun d => d.parameters.length) = some 0 := by decide +kernel
set_option maxHeartbeats 4000000 in
set_option maxRecDepth 100000 in
theorem tX1_init (l : Launch) (D : va_G) (cI : ClassId) (u0 : Nat)  : CN l yX1_init wsX1_init ({ frames := 1, cells := 4, slots := 96, locals := 21 } : Room) D cI ([.ref u0] : List Value) [(u0, .inr (1, [.int 0, .null, .null, .null, .null]))] (fun q => [(u0, .inr (1, [.int 0, .ref (q 0), .ref (q 1), .ref (q 2), .ref (q 3)])), ((q 0), .inl (cI, 24, .inl (fun _ => 0))), ((q 1), .inl (cI, 24, .inl (fun _ => 0))), ((q 2), .inl (cI, 24, .inl (fun _ => 0))), ((q 3), .inl (cI, 24, .inl (fun _ => 0)))]) 4 96 := by
  refine entN (cc := cX1_init) (maxL := 1) (ret := none) (by decide) rfl (Nat.le_of_ble_eq_true rfl) (fun p e s m below meth c A ls hni fx hl => ?_)
  have fx0 := fx
  obtain ⟨hx, hb, hr, hml, hown, hts, hlocks, hk, hP, hD, hA⟩ := fx
  have hown : s.vm.findClass RX1 = some m.cls := hown
  have hS : va_S A s.heap s.heap [] := va_S.rf
  have hP : va_P D vwCl [(u0, .inr (1, [.int 0, .null, .null, .null, .null]))] s.heap := hP
  have hD : va_D A [(u0, .inr (1, [.int 0, .null, .null, .null, .null]))] := hD
  have hl : lv_has ls 1 [(0, .ref u0)] := hl
  obtain ⟨-, -, hin⟩ := hni
  have hin : meth.name = "<init>" := hin.resolve_right (fun q => q rfl)
  refine lv_aload_n hx hb dX1_init_0 rfl (lv_at hl 0 rfl) ?_
  refine W.objInit hx hb hown (hts _ mX1_init_oi) (hts _ mX1_init_oin) (hts _ mX1_init_oic) rfl (by rw [hml]; exact hl.1) rfl dX1_init_1 (Nat.le_of_ble_eq_true rfl) (Nat.le_of_ble_eq_true rfl) ?_
  refine W.eq (g2 := F0 m 4 ls []) rfl ?_
  refine lv_aload_n hx hb dX1_init_4 rfl (lv_at hl 0 rfl) ?_
  refine lv_bipush (v := 24) hx hb dX1_init_5 (by decide) ?_
  refine va_newa (atype := .int) (ty := .int) (N' := 24) (a0 := (24, .inl (fun _ => 0))) hx hb (hts _ mX1_init_aI) rfl hk.1 hP hD hS hA (fun _ => rfl) (by decide) (by decide) (Nat.le_of_ble_eq_true rfl) (Nat.le_of_ble_eq_true rfl) (Nat.le_of_ble_eq_true rfl) dX1_init_7 (fun nq1 cA H hKn hP hD hS => ?_)
  obtain rfl : cI = cA := one_cls hKn
  have hP : va_P D vwCl [(u0, .inr (1, [.int 0, .null, .null, .null, .null])), (nq1, .inl (cI, 24, .inl (fun _ => 0)))] H := hP
  have hD : va_D A [(u0, .inr (1, [.int 0, .null, .null, .null, .null])), (nq1, .inl (cI, 24, .inl (fun _ => 0)))] := hD
  refine va_putF (D := D) (ci := 1) (v := .ref nq1) (ty := (.array .int)) (C := RX1) (T := TX1) (N := 5) hx hb hts iX1_init_X1 tyX1 tyX1_ok nmX1 hown hk.1 hP hD hS 0 rfl rfl 1 (by decide) (hts _ mX1_init_f9) (fun _ h9 => h9) rfl hin rfl (by decide +kernel) rfl rfl (Nat.le_of_ble_eq_true rfl) dX1_init_9 (fun H locs hP hD hS => ?_)
  have hP : va_P D vwCl [(u0, .inr (1, [.int 0, .ref nq1, .null, .null, .null])), (nq1, .inl (cI, 24, .inl (fun _ => 0)))] H := hP
  have hD : va_D A [(u0, .inr (1, [.int 0, .ref nq1, .null, .null, .null])), (nq1, .inl (cI, 24, .inl (fun _ => 0)))] := hD
  refine lv_aload_n hx hb dX1_init_12 rfl (lv_at hl 0 rfl) ?_
  refine lv_bipush (v := 24) hx hb dX1_init_13 (by decide) ?_
  refine va_newa (atype := .int) (ty := .int) (N' := 24) (a0 := (24, .inl (fun _ => 0))) hx hb (hts _ mX1_init_aI) rfl hk.1 hP hD hS hA (fun _ => rfl) (by decide) (by decide) (Nat.le_of_ble_eq_true rfl) (Nat.le_of_ble_eq_true rfl) (Nat.le_of_ble_eq_true rfl) dX1_init_15 (fun nq2 cA H hKn hP hD hS => ?_)
  obtain rfl : cI = cA := one_cls hKn
  have hP : va_P D vwCl [(u0, .inr (1, [.int 0, .ref nq1, .null, .null, .null])), (nq1, .inl (cI, 24, .inl (fun _ => 0))), (nq2, .inl (cI, 24, .inl (fun _ => 0)))] H := hP
  have hD : va_D A [(u0, .inr (1, [.int 0, .ref nq1, .null, .null, .null])), (nq1, .inl (cI, 24, .inl (fun _ => 0))), (nq2, .inl (cI, 24, .inl (fun _ => 0)))] := hD
  refine va_putF (D := D) (ci := 1) (v := .ref nq2) (ty := (.array .int)) (C := RX1) (T := TX1) (N := 5) hx hb hts iX1_init_X1 tyX1 tyX1_ok nmX1 hown hk.1 hP hD hS 0 rfl rfl 2 (by decide) (hts _ mX1_init_f15) (fun _ h9 => h9) rfl hin rfl (by decide +kernel) rfl rfl (Nat.le_of_ble_eq_true rfl) dX1_init_17 (fun H locs hP hD hS => ?_)
  have hP : va_P D vwCl [(u0, .inr (1, [.int 0, .ref nq1, .ref nq2, .null, .null])), (nq1, .inl (cI, 24, .inl (fun _ => 0))), (nq2, .inl (cI, 24, .inl (fun _ => 0)))] H := hP
  have hD : va_D A [(u0, .inr (1, [.int 0, .ref nq1, .ref nq2, .null, .null])), (nq1, .inl (cI, 24, .inl (fun _ => 0))), (nq2, .inl (cI, 24, .inl (fun _ => 0)))] := hD
  refine lv_aload_n hx hb dX1_init_20 rfl (lv_at hl 0 rfl) ?_
  refine lv_bipush (v := 24) hx hb dX1_init_21 (by decide) ?_
  refine va_newa (atype := .int) (ty := .int) (N' := 24) (a0 := (24, .inl (fun _ => 0))) hx hb (hts _ mX1_init_aI) rfl hk.1 hP hD hS hA (fun _ => rfl) (by decide) (by decide) (Nat.le_of_ble_eq_true rfl) (Nat.le_of_ble_eq_true rfl) (Nat.le_of_ble_eq_true rfl) dX1_init_23 (fun nq3 cA H hKn hP hD hS => ?_)
  obtain rfl : cI = cA := one_cls hKn
  have hP : va_P D vwCl [(u0, .inr (1, [.int 0, .ref nq1, .ref nq2, .null, .null])), (nq1, .inl (cI, 24, .inl (fun _ => 0))), (nq2, .inl (cI, 24, .inl (fun _ => 0))), (nq3, .inl (cI, 24, .inl (fun _ => 0)))] H := hP
  have hD : va_D A [(u0, .inr (1, [.int 0, .ref nq1, .ref nq2, .null, .null])), (nq1, .inl (cI, 24, .inl (fun _ => 0))), (nq2, .inl (cI, 24, .inl (fun _ => 0))), (nq3, .inl (cI, 24, .inl (fun _ => 0)))] := hD
  refine va_putF (D := D) (ci := 1) (v := .ref nq3) (ty := (.array .int)) (C := RX1) (T := TX1) (N := 5) hx hb hts iX1_init_X1 tyX1 tyX1_ok nmX1 hown hk.1 hP hD hS 0 rfl rfl 3 (by decide) (hts _ mX1_init_f18) (fun _ h9 => h9) rfl hin rfl (by decide +kernel) rfl rfl (Nat.le_of_ble_eq_true rfl) dX1_init_25 (fun H locs hP hD hS => ?_)
  have hP : va_P D vwCl [(u0, .inr (1, [.int 0, .ref nq1, .ref nq2, .ref nq3, .null])), (nq1, .inl (cI, 24, .inl (fun _ => 0))), (nq2, .inl (cI, 24, .inl (fun _ => 0))), (nq3, .inl (cI, 24, .inl (fun _ => 0)))] H := hP
  have hD : va_D A [(u0, .inr (1, [.int 0, .ref nq1, .ref nq2, .ref nq3, .null])), (nq1, .inl (cI, 24, .inl (fun _ => 0))), (nq2, .inl (cI, 24, .inl (fun _ => 0))), (nq3, .inl (cI, 24, .inl (fun _ => 0)))] := hD
  refine lv_aload_n hx hb dX1_init_28 rfl (lv_at hl 0 rfl) ?_
  refine lv_bipush (v := 24) hx hb dX1_init_29 (by decide) ?_
  refine va_newa (atype := .int) (ty := .int) (N' := 24) (a0 := (24, .inl (fun _ => 0))) hx hb (hts _ mX1_init_aI) rfl hk.1 hP hD hS hA (fun _ => rfl) (by decide) (by decide) (Nat.le_of_ble_eq_true rfl) (Nat.le_of_ble_eq_true rfl) (Nat.le_of_ble_eq_true rfl) dX1_init_31 (fun nq4 cA H hKn hP hD hS => ?_)
  obtain rfl : cI = cA := one_cls hKn
  have hP : va_P D vwCl [(u0, .inr (1, [.int 0, .ref nq1, .ref nq2, .ref nq3, .null])), (nq1, .inl (cI, 24, .inl (fun _ => 0))), (nq2, .inl (cI, 24, .inl (fun _ => 0))), (nq3, .inl (cI, 24, .inl (fun _ => 0))), (nq4, .inl (cI, 24, .inl (fun _ => 0)))] H := hP
  have hD : va_D A [(u0, .inr (1, [.int 0, .ref nq1, .ref nq2, .ref nq3, .null])), (nq1, .inl (cI, 24, .inl (fun _ => 0))), (nq2, .inl (cI, 24, .inl (fun _ => 0))), (nq3, .inl (cI, 24, .inl (fun _ => 0))), (nq4, .inl (cI, 24, .inl (fun _ => 0)))] := hD
  refine va_putF (D := D) (ci := 1) (v := .ref nq4) (ty := (.array .int)) (C := RX1) (T := TX1) (N := 5) hx hb hts iX1_init_X1 tyX1 tyX1_ok nmX1 hown hk.1 hP hD hS 0 rfl rfl 4 (by decide) (hts _ mX1_init_f21) (fun _ h9 => h9) rfl hin rfl (by decide +kernel) rfl rfl (Nat.le_of_ble_eq_true rfl) dX1_init_33 (fun H locs hP hD hS => ?_)
  have hP : va_P D vwCl [(u0, .inr (1, [.int 0, .ref nq1, .ref nq2, .ref nq3, .ref nq4])), (nq1, .inl (cI, 24, .inl (fun _ => 0))), (nq2, .inl (cI, 24, .inl (fun _ => 0))), (nq3, .inl (cI, 24, .inl (fun _ => 0))), (nq4, .inl (cI, 24, .inl (fun _ => 0)))] H := hP
  have hD : va_D A [(u0, .inr (1, [.int 0, .ref nq1, .ref nq2, .ref nq3, .ref nq4])), (nq1, .inl (cI, 24, .inl (fun _ => 0))), (nq2, .inl (cI, 24, .inl (fun _ => 0))), (nq3, .inl (cI, 24, .inl (fun _ => 0))), (nq4, .inl (cI, 24, .inl (fun _ => 0)))] := hD
  exact retN (fun j => ([nq1, nq2, nq3, nq4] : List Nat).getD j 0) hx hb hr hlocks hS hP hD dX1_init_36 (Nat.le_of_ble_eq_true rfl) (Nat.le_of_ble_eq_true rfl)

theorem mX2_init_oi : (.methodLink RX2 3 objectInit : Cond) ∈ wsX2_init := by decide +kernel
theorem mX2_init_oin : (.instanceMethod objectInit : Cond) ∈ wsX2_init := by decide +kernel
theorem mX2_init_oic : (.code objectInit ⟨#[0xb1]⟩ 1 none : Cond) ∈ wsX2_init := by decide +kernel
theorem mX2_init_aI : (.arrayClass .int : Cond) ∈ wsX2_init := by decide +kernel
theorem mX2_init_f9 : (.fieldLink RX2 9 "StarConsole$Dimmers" "part" "[I" : Cond) ∈ wsX2_init := by decide +kernel
theorem iX2_init_X2 : ∀ w ∈ wsX20, w ∈ wsX2_init := by decide +kernel
theorem mX2_init_f15 : (.fieldLink RX2 15 "StarConsole$Dimmers" "level" "[I" : Cond) ∈ wsX2_init := by decide +kernel
theorem mX2_init_f18 : (.fieldLink RX2 18 "StarConsole$Dimmers" "aim" "[I" : Cond) ∈ wsX2_init := by decide +kernel
theorem mX2_init_f21 : (.fieldLink RX2 21 "StarConsole$Dimmers" "pace" "[I" : Cond) ∈ wsX2_init := by decide +kernel
theorem mX2_init_f24 : (.fieldLink RX2 24 "StarConsole$Dimmers" "life" "[I" : Cond) ∈ wsX2_init := by decide +kernel

theorem hX2_init : yX2_init.cls = RX2 ∧ yX2_init.cls ≠ "java/lang/invoke/MethodHandle" ∧ yX2_init.cls ≠ "java/lang/invoke/VarHandle" ∧ (parseMethodDescriptor yX2_init.desc).map (fun d => d.parameters.length) = some 0 := by decide +kernel
set_option maxHeartbeats 4000000 in
set_option maxRecDepth 100000 in
theorem tX2_init (l : Launch) (D : va_G) (cI : ClassId) (d0 : Nat)  : CN l yX2_init wsX2_init ({ frames := 1, cells := 5, slots := 40, locals := 21 } : Room) D cI ([.ref d0] : List Value) [(d0, .inr (2, [.int 0, .null, .null, .null, .null, .null]))] (fun q => [(d0, .inr (2, [.int 0, .ref (q 0), .ref (q 1), .ref (q 2), .ref (q 3), .ref (q 4)])), ((q 0), .inl (cI, 8, .inl (fun _ => 0))), ((q 1), .inl (cI, 8, .inl (fun _ => 0))), ((q 2), .inl (cI, 8, .inl (fun _ => 0))), ((q 3), .inl (cI, 8, .inl (fun _ => 0))), ((q 4), .inl (cI, 8, .inl (fun _ => 0)))]) 5 40 := by
  refine entN (cc := cX2_init) (maxL := 1) (ret := none) (by decide) rfl (Nat.le_of_ble_eq_true rfl) (fun p e s m below meth c A ls hni fx hl => ?_)
  have fx0 := fx
  obtain ⟨hx, hb, hr, hml, hown, hts, hlocks, hk, hP, hD, hA⟩ := fx
  have hown : s.vm.findClass RX2 = some m.cls := hown
  have hS : va_S A s.heap s.heap [] := va_S.rf
  have hP : va_P D vwCl [(d0, .inr (2, [.int 0, .null, .null, .null, .null, .null]))] s.heap := hP
  have hD : va_D A [(d0, .inr (2, [.int 0, .null, .null, .null, .null, .null]))] := hD
  have hl : lv_has ls 1 [(0, .ref d0)] := hl
  obtain ⟨-, -, hin⟩ := hni
  have hin : meth.name = "<init>" := hin.resolve_right (fun q => q rfl)
  refine lv_aload_n hx hb dX2_init_0 rfl (lv_at hl 0 rfl) ?_
  refine W.objInit hx hb hown (hts _ mX2_init_oi) (hts _ mX2_init_oin) (hts _ mX2_init_oic) rfl (by rw [hml]; exact hl.1) rfl dX2_init_1 (Nat.le_of_ble_eq_true rfl) (Nat.le_of_ble_eq_true rfl) ?_
  refine W.eq (g2 := F0 m 4 ls []) rfl ?_
  refine lv_aload_n hx hb dX2_init_4 rfl (lv_at hl 0 rfl) ?_
  refine lv_bipush (v := 8) hx hb dX2_init_5 (by decide) ?_
  refine va_newa (atype := .int) (ty := .int) (N' := 8) (a0 := (8, .inl (fun _ => 0))) hx hb (hts _ mX2_init_aI) rfl hk.1 hP hD hS hA (fun _ => rfl) (by decide) (by decide) (Nat.le_of_ble_eq_true rfl) (Nat.le_of_ble_eq_true rfl) (Nat.le_of_ble_eq_true rfl) dX2_init_7 (fun nq1 cA H hKn hP hD hS => ?_)
  obtain rfl : cI = cA := one_cls hKn
  have hP : va_P D vwCl [(d0, .inr (2, [.int 0, .null, .null, .null, .null, .null])), (nq1, .inl (cI, 8, .inl (fun _ => 0)))] H := hP
  have hD : va_D A [(d0, .inr (2, [.int 0, .null, .null, .null, .null, .null])), (nq1, .inl (cI, 8, .inl (fun _ => 0)))] := hD
  refine va_putF (D := D) (ci := 2) (v := .ref nq1) (ty := (.array .int)) (C := RX2) (T := TX2) (N := 6) hx hb hts iX2_init_X2 tyX2 tyX2_ok nmX2 hown hk.1 hP hD hS 0 rfl rfl 1 (by decide) (hts _ mX2_init_f9) (fun _ h9 => h9) rfl hin rfl (by decide +kernel) rfl rfl (Nat.le_of_ble_eq_true rfl) dX2_init_9 (fun H locs hP hD hS => ?_)
  have hP : va_P D vwCl [(d0, .inr (2, [.int 0, .ref nq1, .null, .null, .null, .null])), (nq1, .inl (cI, 8, .inl (fun _ => 0)))] H := hP
  have hD : va_D A [(d0, .inr (2, [.int 0, .ref nq1, .null, .null, .null, .null])), (nq1, .inl (cI, 8, .inl (fun _ => 0)))] := hD
  refine lv_aload_n hx hb dX2_init_12 rfl (lv_at hl 0 rfl) ?_
  refine lv_bipush (v := 8) hx hb dX2_init_13 (by decide) ?_
  refine va_newa (atype := .int) (ty := .int) (N' := 8) (a0 := (8, .inl (fun _ => 0))) hx hb (hts _ mX2_init_aI) rfl hk.1 hP hD hS hA (fun _ => rfl) (by decide) (by decide) (Nat.le_of_ble_eq_true rfl) (Nat.le_of_ble_eq_true rfl) (Nat.le_of_ble_eq_true rfl) dX2_init_15 (fun nq2 cA H hKn hP hD hS => ?_)
  obtain rfl : cI = cA := one_cls hKn
  have hP : va_P D vwCl [(d0, .inr (2, [.int 0, .ref nq1, .null, .null, .null, .null])), (nq1, .inl (cI, 8, .inl (fun _ => 0))), (nq2, .inl (cI, 8, .inl (fun _ => 0)))] H := hP
  have hD : va_D A [(d0, .inr (2, [.int 0, .ref nq1, .null, .null, .null, .null])), (nq1, .inl (cI, 8, .inl (fun _ => 0))), (nq2, .inl (cI, 8, .inl (fun _ => 0)))] := hD
  refine va_putF (D := D) (ci := 2) (v := .ref nq2) (ty := (.array .int)) (C := RX2) (T := TX2) (N := 6) hx hb hts iX2_init_X2 tyX2 tyX2_ok nmX2 hown hk.1 hP hD hS 0 rfl rfl 2 (by decide) (hts _ mX2_init_f15) (fun _ h9 => h9) rfl hin rfl (by decide +kernel) rfl rfl (Nat.le_of_ble_eq_true rfl) dX2_init_17 (fun H locs hP hD hS => ?_)
  have hP : va_P D vwCl [(d0, .inr (2, [.int 0, .ref nq1, .ref nq2, .null, .null, .null])), (nq1, .inl (cI, 8, .inl (fun _ => 0))), (nq2, .inl (cI, 8, .inl (fun _ => 0)))] H := hP
  have hD : va_D A [(d0, .inr (2, [.int 0, .ref nq1, .ref nq2, .null, .null, .null])), (nq1, .inl (cI, 8, .inl (fun _ => 0))), (nq2, .inl (cI, 8, .inl (fun _ => 0)))] := hD
  refine lv_aload_n hx hb dX2_init_20 rfl (lv_at hl 0 rfl) ?_
  refine lv_bipush (v := 8) hx hb dX2_init_21 (by decide) ?_
  refine va_newa (atype := .int) (ty := .int) (N' := 8) (a0 := (8, .inl (fun _ => 0))) hx hb (hts _ mX2_init_aI) rfl hk.1 hP hD hS hA (fun _ => rfl) (by decide) (by decide) (Nat.le_of_ble_eq_true rfl) (Nat.le_of_ble_eq_true rfl) (Nat.le_of_ble_eq_true rfl) dX2_init_23 (fun nq3 cA H hKn hP hD hS => ?_)
  obtain rfl : cI = cA := one_cls hKn
  have hP : va_P D vwCl [(d0, .inr (2, [.int 0, .ref nq1, .ref nq2, .null, .null, .null])), (nq1, .inl (cI, 8, .inl (fun _ => 0))), (nq2, .inl (cI, 8, .inl (fun _ => 0))), (nq3, .inl (cI, 8, .inl (fun _ => 0)))] H := hP
  have hD : va_D A [(d0, .inr (2, [.int 0, .ref nq1, .ref nq2, .null, .null, .null])), (nq1, .inl (cI, 8, .inl (fun _ => 0))), (nq2, .inl (cI, 8, .inl (fun _ => 0))), (nq3, .inl (cI, 8, .inl (fun _ => 0)))] := hD
  refine va_putF (D := D) (ci := 2) (v := .ref nq3) (ty := (.array .int)) (C := RX2) (T := TX2) (N := 6) hx hb hts iX2_init_X2 tyX2 tyX2_ok nmX2 hown hk.1 hP hD hS 0 rfl rfl 3 (by decide) (hts _ mX2_init_f18) (fun _ h9 => h9) rfl hin rfl (by decide +kernel) rfl rfl (Nat.le_of_ble_eq_true rfl) dX2_init_25 (fun H locs hP hD hS => ?_)
  have hP : va_P D vwCl [(d0, .inr (2, [.int 0, .ref nq1, .ref nq2, .ref nq3, .null, .null])), (nq1, .inl (cI, 8, .inl (fun _ => 0))), (nq2, .inl (cI, 8, .inl (fun _ => 0))), (nq3, .inl (cI, 8, .inl (fun _ => 0)))] H := hP
  have hD : va_D A [(d0, .inr (2, [.int 0, .ref nq1, .ref nq2, .ref nq3, .null, .null])), (nq1, .inl (cI, 8, .inl (fun _ => 0))), (nq2, .inl (cI, 8, .inl (fun _ => 0))), (nq3, .inl (cI, 8, .inl (fun _ => 0)))] := hD
  refine lv_aload_n hx hb dX2_init_28 rfl (lv_at hl 0 rfl) ?_
  refine lv_bipush (v := 8) hx hb dX2_init_29 (by decide) ?_
  refine va_newa (atype := .int) (ty := .int) (N' := 8) (a0 := (8, .inl (fun _ => 0))) hx hb (hts _ mX2_init_aI) rfl hk.1 hP hD hS hA (fun _ => rfl) (by decide) (by decide) (Nat.le_of_ble_eq_true rfl) (Nat.le_of_ble_eq_true rfl) (Nat.le_of_ble_eq_true rfl) dX2_init_31 (fun nq4 cA H hKn hP hD hS => ?_)
  obtain rfl : cI = cA := one_cls hKn
  have hP : va_P D vwCl [(d0, .inr (2, [.int 0, .ref nq1, .ref nq2, .ref nq3, .null, .null])), (nq1, .inl (cI, 8, .inl (fun _ => 0))), (nq2, .inl (cI, 8, .inl (fun _ => 0))), (nq3, .inl (cI, 8, .inl (fun _ => 0))), (nq4, .inl (cI, 8, .inl (fun _ => 0)))] H := hP
  have hD : va_D A [(d0, .inr (2, [.int 0, .ref nq1, .ref nq2, .ref nq3, .null, .null])), (nq1, .inl (cI, 8, .inl (fun _ => 0))), (nq2, .inl (cI, 8, .inl (fun _ => 0))), (nq3, .inl (cI, 8, .inl (fun _ => 0))), (nq4, .inl (cI, 8, .inl (fun _ => 0)))] := hD
  refine va_putF (D := D) (ci := 2) (v := .ref nq4) (ty := (.array .int)) (C := RX2) (T := TX2) (N := 6) hx hb hts iX2_init_X2 tyX2 tyX2_ok nmX2 hown hk.1 hP hD hS 0 rfl rfl 4 (by decide) (hts _ mX2_init_f21) (fun _ h9 => h9) rfl hin rfl (by decide +kernel) rfl rfl (Nat.le_of_ble_eq_true rfl) dX2_init_33 (fun H locs hP hD hS => ?_)
  have hP : va_P D vwCl [(d0, .inr (2, [.int 0, .ref nq1, .ref nq2, .ref nq3, .ref nq4, .null])), (nq1, .inl (cI, 8, .inl (fun _ => 0))), (nq2, .inl (cI, 8, .inl (fun _ => 0))), (nq3, .inl (cI, 8, .inl (fun _ => 0))), (nq4, .inl (cI, 8, .inl (fun _ => 0)))] H := hP
  have hD : va_D A [(d0, .inr (2, [.int 0, .ref nq1, .ref nq2, .ref nq3, .ref nq4, .null])), (nq1, .inl (cI, 8, .inl (fun _ => 0))), (nq2, .inl (cI, 8, .inl (fun _ => 0))), (nq3, .inl (cI, 8, .inl (fun _ => 0))), (nq4, .inl (cI, 8, .inl (fun _ => 0)))] := hD
  refine lv_aload_n hx hb dX2_init_36 rfl (lv_at hl 0 rfl) ?_
  refine lv_bipush (v := 8) hx hb dX2_init_37 (by decide) ?_
  refine va_newa (atype := .int) (ty := .int) (N' := 8) (a0 := (8, .inl (fun _ => 0))) hx hb (hts _ mX2_init_aI) rfl hk.1 hP hD hS hA (fun _ => rfl) (by decide) (by decide) (Nat.le_of_ble_eq_true rfl) (Nat.le_of_ble_eq_true rfl) (Nat.le_of_ble_eq_true rfl) dX2_init_39 (fun nq5 cA H hKn hP hD hS => ?_)
  obtain rfl : cI = cA := one_cls hKn
  have hP : va_P D vwCl [(d0, .inr (2, [.int 0, .ref nq1, .ref nq2, .ref nq3, .ref nq4, .null])), (nq1, .inl (cI, 8, .inl (fun _ => 0))), (nq2, .inl (cI, 8, .inl (fun _ => 0))), (nq3, .inl (cI, 8, .inl (fun _ => 0))), (nq4, .inl (cI, 8, .inl (fun _ => 0))), (nq5, .inl (cI, 8, .inl (fun _ => 0)))] H := hP
  have hD : va_D A [(d0, .inr (2, [.int 0, .ref nq1, .ref nq2, .ref nq3, .ref nq4, .null])), (nq1, .inl (cI, 8, .inl (fun _ => 0))), (nq2, .inl (cI, 8, .inl (fun _ => 0))), (nq3, .inl (cI, 8, .inl (fun _ => 0))), (nq4, .inl (cI, 8, .inl (fun _ => 0))), (nq5, .inl (cI, 8, .inl (fun _ => 0)))] := hD
  refine va_putF (D := D) (ci := 2) (v := .ref nq5) (ty := (.array .int)) (C := RX2) (T := TX2) (N := 6) hx hb hts iX2_init_X2 tyX2 tyX2_ok nmX2 hown hk.1 hP hD hS 0 rfl rfl 5 (by decide) (hts _ mX2_init_f24) (fun _ h9 => h9) rfl hin rfl (by decide +kernel) rfl rfl (Nat.le_of_ble_eq_true rfl) dX2_init_41 (fun H locs hP hD hS => ?_)
  have hP : va_P D vwCl [(d0, .inr (2, [.int 0, .ref nq1, .ref nq2, .ref nq3, .ref nq4, .ref nq5])), (nq1, .inl (cI, 8, .inl (fun _ => 0))), (nq2, .inl (cI, 8, .inl (fun _ => 0))), (nq3, .inl (cI, 8, .inl (fun _ => 0))), (nq4, .inl (cI, 8, .inl (fun _ => 0))), (nq5, .inl (cI, 8, .inl (fun _ => 0)))] H := hP
  have hD : va_D A [(d0, .inr (2, [.int 0, .ref nq1, .ref nq2, .ref nq3, .ref nq4, .ref nq5])), (nq1, .inl (cI, 8, .inl (fun _ => 0))), (nq2, .inl (cI, 8, .inl (fun _ => 0))), (nq3, .inl (cI, 8, .inl (fun _ => 0))), (nq4, .inl (cI, 8, .inl (fun _ => 0))), (nq5, .inl (cI, 8, .inl (fun _ => 0)))] := hD
  exact retN (fun j => ([nq1, nq2, nq3, nq4, nq5] : List Nat).getD j 0) hx hb hr hlocks hS hP hD dX2_init_44 (Nat.le_of_ble_eq_true rfl) (Nat.le_of_ble_eq_true rfl)

theorem mX0_init_oi : (.methodLink RX0 3 objectInit : Cond) ∈ wsX0_init := by decide +kernel
theorem mX0_init_oin : (.instanceMethod objectInit : Cond) ∈ wsX0_init := by decide +kernel
theorem mX0_init_oic : (.code objectInit ⟨#[0xb1]⟩ 1 none : Cond) ∈ wsX0_init := by decide +kernel
theorem mX0_init_aI : (.arrayClass .int : Cond) ∈ wsX0_init := by decide +kernel
theorem mX0_init_f9 : (.fieldLink RX0 9 "StarConsole$Comets" "angle" "[I" : Cond) ∈ wsX0_init := by decide +kernel
theorem iX0_init_X0 : ∀ w ∈ wsX00, w ∈ wsX0_init := by decide +kernel
theorem mX0_init_f15 : (.fieldLink RX0 15 "StarConsole$Comets" "speed" "[I" : Cond) ∈ wsX0_init := by decide +kernel
theorem mX0_init_f18 : (.fieldLink RX0 18 "StarConsole$Comets" "left" "[I" : Cond) ∈ wsX0_init := by decide +kernel

theorem hX0_init : yX0_init.cls = RX0 ∧ yX0_init.cls ≠ "java/lang/invoke/MethodHandle" ∧ yX0_init.cls ≠ "java/lang/invoke/VarHandle" ∧ (parseMethodDescriptor yX0_init.desc).map (fun d => d.parameters.length) = some 0 := by decide +kernel
set_option maxHeartbeats 4000000 in
set_option maxRecDepth 100000 in
theorem tX0_init (l : Launch) (D : va_G) (cI : ClassId) (k0 : Nat)  : CN l yX0_init wsX0_init ({ frames := 1, cells := 3, slots := 36, locals := 21 } : Room) D cI ([.ref k0] : List Value) [(k0, .inr (0, [.int 0, .null, .null, .null]))] (fun q => [(k0, .inr (0, [.int 0, .ref (q 0), .ref (q 1), .ref (q 2)])), ((q 0), .inl (cI, 12, .inl (fun _ => 0))), ((q 1), .inl (cI, 12, .inl (fun _ => 0))), ((q 2), .inl (cI, 12, .inl (fun _ => 0)))]) 3 36 := by
  refine entN (cc := cX0_init) (maxL := 1) (ret := none) (by decide) rfl (Nat.le_of_ble_eq_true rfl) (fun p e s m below meth c A ls hni fx hl => ?_)
  have fx0 := fx
  obtain ⟨hx, hb, hr, hml, hown, hts, hlocks, hk, hP, hD, hA⟩ := fx
  have hown : s.vm.findClass RX0 = some m.cls := hown
  have hS : va_S A s.heap s.heap [] := va_S.rf
  have hP : va_P D vwCl [(k0, .inr (0, [.int 0, .null, .null, .null]))] s.heap := hP
  have hD : va_D A [(k0, .inr (0, [.int 0, .null, .null, .null]))] := hD
  have hl : lv_has ls 1 [(0, .ref k0)] := hl
  obtain ⟨-, -, hin⟩ := hni
  have hin : meth.name = "<init>" := hin.resolve_right (fun q => q rfl)
  refine lv_aload_n hx hb dX0_init_0 rfl (lv_at hl 0 rfl) ?_
  refine W.objInit hx hb hown (hts _ mX0_init_oi) (hts _ mX0_init_oin) (hts _ mX0_init_oic) rfl (by rw [hml]; exact hl.1) rfl dX0_init_1 (Nat.le_of_ble_eq_true rfl) (Nat.le_of_ble_eq_true rfl) ?_
  refine W.eq (g2 := F0 m 4 ls []) rfl ?_
  refine lv_aload_n hx hb dX0_init_4 rfl (lv_at hl 0 rfl) ?_
  refine lv_bipush (v := 12) hx hb dX0_init_5 (by decide) ?_
  refine va_newa (atype := .int) (ty := .int) (N' := 12) (a0 := (12, .inl (fun _ => 0))) hx hb (hts _ mX0_init_aI) rfl hk.1 hP hD hS hA (fun _ => rfl) (by decide) (by decide) (Nat.le_of_ble_eq_true rfl) (Nat.le_of_ble_eq_true rfl) (Nat.le_of_ble_eq_true rfl) dX0_init_7 (fun nq1 cA H hKn hP hD hS => ?_)
  obtain rfl : cI = cA := one_cls hKn
  have hP : va_P D vwCl [(k0, .inr (0, [.int 0, .null, .null, .null])), (nq1, .inl (cI, 12, .inl (fun _ => 0)))] H := hP
  have hD : va_D A [(k0, .inr (0, [.int 0, .null, .null, .null])), (nq1, .inl (cI, 12, .inl (fun _ => 0)))] := hD
  refine va_putF (D := D) (ci := 0) (v := .ref nq1) (ty := (.array .int)) (C := RX0) (T := TX0) (N := 4) hx hb hts iX0_init_X0 tyX0 tyX0_ok nmX0 hown hk.1 hP hD hS 0 rfl rfl 1 (by decide) (hts _ mX0_init_f9) (fun _ h9 => h9) rfl hin rfl (by decide +kernel) rfl rfl (Nat.le_of_ble_eq_true rfl) dX0_init_9 (fun H locs hP hD hS => ?_)
  have hP : va_P D vwCl [(k0, .inr (0, [.int 0, .ref nq1, .null, .null])), (nq1, .inl (cI, 12, .inl (fun _ => 0)))] H := hP
  have hD : va_D A [(k0, .inr (0, [.int 0, .ref nq1, .null, .null])), (nq1, .inl (cI, 12, .inl (fun _ => 0)))] := hD
  refine lv_aload_n hx hb dX0_init_12 rfl (lv_at hl 0 rfl) ?_
  refine lv_bipush (v := 12) hx hb dX0_init_13 (by decide) ?_
  refine va_newa (atype := .int) (ty := .int) (N' := 12) (a0 := (12, .inl (fun _ => 0))) hx hb (hts _ mX0_init_aI) rfl hk.1 hP hD hS hA (fun _ => rfl) (by decide) (by decide) (Nat.le_of_ble_eq_true rfl) (Nat.le_of_ble_eq_true rfl) (Nat.le_of_ble_eq_true rfl) dX0_init_15 (fun nq2 cA H hKn hP hD hS => ?_)
  obtain rfl : cI = cA := one_cls hKn
  have hP : va_P D vwCl [(k0, .inr (0, [.int 0, .ref nq1, .null, .null])), (nq1, .inl (cI, 12, .inl (fun _ => 0))), (nq2, .inl (cI, 12, .inl (fun _ => 0)))] H := hP
  have hD : va_D A [(k0, .inr (0, [.int 0, .ref nq1, .null, .null])), (nq1, .inl (cI, 12, .inl (fun _ => 0))), (nq2, .inl (cI, 12, .inl (fun _ => 0)))] := hD
  refine va_putF (D := D) (ci := 0) (v := .ref nq2) (ty := (.array .int)) (C := RX0) (T := TX0) (N := 4) hx hb hts iX0_init_X0 tyX0 tyX0_ok nmX0 hown hk.1 hP hD hS 0 rfl rfl 2 (by decide) (hts _ mX0_init_f15) (fun _ h9 => h9) rfl hin rfl (by decide +kernel) rfl rfl (Nat.le_of_ble_eq_true rfl) dX0_init_17 (fun H locs hP hD hS => ?_)
  have hP : va_P D vwCl [(k0, .inr (0, [.int 0, .ref nq1, .ref nq2, .null])), (nq1, .inl (cI, 12, .inl (fun _ => 0))), (nq2, .inl (cI, 12, .inl (fun _ => 0)))] H := hP
  have hD : va_D A [(k0, .inr (0, [.int 0, .ref nq1, .ref nq2, .null])), (nq1, .inl (cI, 12, .inl (fun _ => 0))), (nq2, .inl (cI, 12, .inl (fun _ => 0)))] := hD
  refine lv_aload_n hx hb dX0_init_20 rfl (lv_at hl 0 rfl) ?_
  refine lv_bipush (v := 12) hx hb dX0_init_21 (by decide) ?_
  refine va_newa (atype := .int) (ty := .int) (N' := 12) (a0 := (12, .inl (fun _ => 0))) hx hb (hts _ mX0_init_aI) rfl hk.1 hP hD hS hA (fun _ => rfl) (by decide) (by decide) (Nat.le_of_ble_eq_true rfl) (Nat.le_of_ble_eq_true rfl) (Nat.le_of_ble_eq_true rfl) dX0_init_23 (fun nq3 cA H hKn hP hD hS => ?_)
  obtain rfl : cI = cA := one_cls hKn
  have hP : va_P D vwCl [(k0, .inr (0, [.int 0, .ref nq1, .ref nq2, .null])), (nq1, .inl (cI, 12, .inl (fun _ => 0))), (nq2, .inl (cI, 12, .inl (fun _ => 0))), (nq3, .inl (cI, 12, .inl (fun _ => 0)))] H := hP
  have hD : va_D A [(k0, .inr (0, [.int 0, .ref nq1, .ref nq2, .null])), (nq1, .inl (cI, 12, .inl (fun _ => 0))), (nq2, .inl (cI, 12, .inl (fun _ => 0))), (nq3, .inl (cI, 12, .inl (fun _ => 0)))] := hD
  refine va_putF (D := D) (ci := 0) (v := .ref nq3) (ty := (.array .int)) (C := RX0) (T := TX0) (N := 4) hx hb hts iX0_init_X0 tyX0 tyX0_ok nmX0 hown hk.1 hP hD hS 0 rfl rfl 3 (by decide) (hts _ mX0_init_f18) (fun _ h9 => h9) rfl hin rfl (by decide +kernel) rfl rfl (Nat.le_of_ble_eq_true rfl) dX0_init_25 (fun H locs hP hD hS => ?_)
  have hP : va_P D vwCl [(k0, .inr (0, [.int 0, .ref nq1, .ref nq2, .ref nq3])), (nq1, .inl (cI, 12, .inl (fun _ => 0))), (nq2, .inl (cI, 12, .inl (fun _ => 0))), (nq3, .inl (cI, 12, .inl (fun _ => 0)))] H := hP
  have hD : va_D A [(k0, .inr (0, [.int 0, .ref nq1, .ref nq2, .ref nq3])), (nq1, .inl (cI, 12, .inl (fun _ => 0))), (nq2, .inl (cI, 12, .inl (fun _ => 0))), (nq3, .inl (cI, 12, .inl (fun _ => 0)))] := hD
  exact retN (fun j => ([nq1, nq2, nq3] : List Nat).getD j 0) hx hb hr hlocks hS hP hD dX0_init_28 (Nat.le_of_ble_eq_true rfl) (Nat.le_of_ble_eq_true rfl)

theorem mX3_init_oi : (.methodLink RX3 3 objectInit : Cond) ∈ wsX3_init := by decide +kernel
theorem mX3_init_oin : (.instanceMethod objectInit : Cond) ∈ wsX3_init := by decide +kernel
theorem mX3_init_oic : (.code objectInit ⟨#[0xb1]⟩ 1 none : Cond) ∈ wsX3_init := by decide +kernel
theorem mX3_init_f9 : (.fieldLink RX3 9 "StarConsole$Show" "line" "I" : Cond) ∈ wsX3_init := by decide +kernel
theorem iX3_init_X3 : ∀ w ∈ wsX30, w ∈ wsX3_init := by decide +kernel
theorem mX3_init_k15 : (.classLink RX3 15 RX2 : Cond) ∈ wsX3_init := by decide +kernel
theorem mX3_init_kiX2 : (.instantiable RX2 6 : Cond) ∈ wsX3_init := by decide +kernel
theorem mX3_init_iX2 : (.initialized RX2 : Cond) ∈ wsX3_init := by decide +kernel
theorem iX3_init_X2 : ∀ w ∈ wsX20, w ∈ wsX3_init := by decide +kernel
theorem mX3_init_inX2_init : (.instanceMethod yX2_init : Cond) ∈ wsX3_init := by decide +kernel
theorem mX3_init_f18 : (.fieldLink RX3 18 "StarConsole$Show" "dimmers" "LStarConsole$Dimmers;" : Cond) ∈ wsX3_init := by decide +kernel
theorem mX3_init_k22 : (.classLink RX3 22 RX0 : Cond) ∈ wsX3_init := by decide +kernel
theorem mX3_init_kiX0 : (.instantiable RX0 4 : Cond) ∈ wsX3_init := by decide +kernel
theorem mX3_init_iX0 : (.initialized RX0 : Cond) ∈ wsX3_init := by decide +kernel
theorem iX3_init_X0 : ∀ w ∈ wsX00, w ∈ wsX3_init := by decide +kernel
theorem mX3_init_inX0_init : (.instanceMethod yX0_init : Cond) ∈ wsX3_init := by decide +kernel
theorem mX3_init_f25 : (.fieldLink RX3 25 "StarConsole$Show" "comets" "LStarConsole$Comets;" : Cond) ∈ wsX3_init := by decide +kernel

theorem hX3_init : yX3_init.cls = RX3 ∧ yX3_init.cls ≠ "java/lang/invoke/MethodHandle" ∧ yX3_init.cls ≠ "java/lang/invoke/VarHandle" ∧ (parseMethodDescriptor yX3_init.desc).map (fun d => d.parameters.length) = some 0 := by decide +kernel
set_option maxHeartbeats 4000000 in
set_option maxRecDepth 100000 in
theorem tX3_init (l : Launch) (D : va_G) (cI : ClassId) (h0 : Nat)  : CN l yX3_init wsX3_init ({ frames := 2, cells := 10, slots := 86, locals := 41 } : Room) D cI ([.ref h0] : List Value) [(h0, .inr (3, [.int 0, .int 0, .int 0, .int 0, .int 0, .int 0, .int 0, .null, .null]))] (fun q => [(h0, .inr (3, [.int 0, .int 0, .int 0, .int 0, .int 0, .int (-1), .int 0, .ref (q 0), .ref (q 6)])), ((q 0), .inr (2, [.int 0, .ref (q 1), .ref (q 2), .ref (q 3), .ref (q 4), .ref (q 5)])), ((q 1), .inl (cI, 8, .inl (fun _ => 0))), ((q 2), .inl (cI, 8, .inl (fun _ => 0))), ((q 3), .inl (cI, 8, .inl (fun _ => 0))), ((q 4), .inl (cI, 8, .inl (fun _ => 0))), ((q 5), .inl (cI, 8, .inl (fun _ => 0))), ((q 6), .inr (0, [.int 0, .ref (q 7), .ref (q 8), .ref (q 9)])), ((q 7), .inl (cI, 12, .inl (fun _ => 0))), ((q 8), .inl (cI, 12, .inl (fun _ => 0))), ((q 9), .inl (cI, 12, .inl (fun _ => 0)))]) 10 86 := by
  refine entN (cc := cX3_init) (maxL := 1) (ret := none) (by decide) rfl (Nat.le_of_ble_eq_true rfl) (fun p e s m below meth c A ls hni fx hl => ?_)
  have fx0 := fx
  obtain ⟨hx, hb, hr, hml, hown, hts, hlocks, hk, hP, hD, hA⟩ := fx
  have hown : s.vm.findClass RX3 = some m.cls := hown
  have hS : va_S A s.heap s.heap [] := va_S.rf
  have hP : va_P D vwCl [(h0, .inr (3, [.int 0, .int 0, .int 0, .int 0, .int 0, .int 0, .int 0, .null, .null]))] s.heap := hP
  have hD : va_D A [(h0, .inr (3, [.int 0, .int 0, .int 0, .int 0, .int 0, .int 0, .int 0, .null, .null]))] := hD
  have hl : lv_has ls 1 [(0, .ref h0)] := hl
  obtain ⟨-, -, hin⟩ := hni
  have hin : meth.name = "<init>" := hin.resolve_right (fun q => q rfl)
  refine lv_aload_n hx hb dX3_init_0 rfl (lv_at hl 0 rfl) ?_
  refine W.objInit hx hb hown (hts _ mX3_init_oi) (hts _ mX3_init_oin) (hts _ mX3_init_oic) rfl (by rw [hml]; exact hl.1) rfl dX3_init_1 (Nat.le_of_ble_eq_true rfl) (Nat.le_of_ble_eq_true rfl) ?_
  refine W.eq (g2 := F0 m 4 ls []) rfl ?_
  refine lv_aload_n hx hb dX3_init_4 rfl (lv_at hl 0 rfl) ?_
  refine lv_iconst (v := (-1)) hx hb dX3_init_5 (by decide) ?_
  refine va_put (D := D) (ci := 3) (v := .int (-1)) (ty := .int) (C := RX3) (T := TX3) (N := 9) hx hb hts iX3_init_X3 tyX3 tyX3_ok nmX3 hown hk.1 hP hD hS 0 rfl rfl 5 (by decide) (hts _ mX3_init_f9) (fun _ h9 => h9) rfl (by decide +kernel) rfl rfl (Nat.le_of_ble_eq_true rfl) dX3_init_6 (fun H locs hP hD hS => ?_)
  have hP : va_P D vwCl [(h0, .inr (3, [.int 0, .int 0, .int 0, .int 0, .int 0, .int (-1), .int 0, .null, .null]))] H := hP
  have hD : va_D A [(h0, .inr (3, [.int 0, .int 0, .int 0, .int 0, .int 0, .int (-1), .int 0, .null, .null]))] := hD
  refine lv_aload_n hx hb dX3_init_9 rfl (lv_at hl 0 rfl) ?_
  refine va_new (ci := 2) (fs := [.int 0, .null, .null, .null, .null, .null]) (C := RX2) (T := TX2) (N := 6) hx hb hts iX3_init_X2 tyX2 tyX2_ok hown (hts _ mX3_init_k15) (hts _ mX3_init_kiX2) (hts _ mX3_init_iX2) hk.1 hP hD hS hA rfl (fun j hj => by rcases (show j = 0 ∨ j = 1 ∨ j = 2 ∨ j = 3 ∨ j = 4 ∨ j = 5 by omega) with rfl | rfl | rfl | rfl | rfl | rfl <;> rfl) (Nat.le_of_ble_eq_true rfl) (Nat.le_of_ble_eq_true rfl) dX3_init_10 (fun nq1 H hP hD hS => ?_)
  have hP : va_P D vwCl [(h0, .inr (3, [.int 0, .int 0, .int 0, .int 0, .int 0, .int (-1), .int 0, .null, .null])), (nq1, .inr (2, [.int 0, .null, .null, .null, .null, .null]))] H := hP
  have hD : va_D A [(h0, .inr (3, [.int 0, .int 0, .int 0, .int 0, .int 0, .int (-1), .int 0, .null, .null])), (nq1, .inr (2, [.int 0, .null, .null, .null, .null, .null]))] := hD
  refine lv_dup hx hb dX3_init_13 rfl ?_
  refine frN (wc := [(nq1, .inr (2, [.int 0, .null, .null, .null, .null, .null]))]) hP hD hS hA [1] [0] rfl rfl rfl (va_runIN (As := []) (rest := [.ref nq1, .ref h0]) ⟨hx, hb, hml, hown, hts⟩ (tX2_init l D cI nq1 _) ⟨va_cnB 0 hts gX3_init_X2_init_n17 rfl rfl rfl (show va_Nw (.methodLinkNest RX3 17 yX2_init "StarConsole") s from hk.2 _ (List.mem_of_getElem? (i := 5) rfl)) (hts _ mX3_init_iX2) ⟨hX2_init.2.1, hX2_init.2.2.1, hX2_init.2.2.2⟩ ⟨Nat.le_of_ble_eq_true rfl, Nat.le_of_ble_eq_true rfl⟩, rfl, (hts _ mX3_init_inX2_init)⟩ (preS_of hk hP hD [1] rfl rfl) rfl rfl hl.1 rfl (lv_room (Nat.le_of_ble_eq_true rfl)) dX3_init_14 ⟨Nat.le_of_ble_eq_true rfl, Nat.le_of_ble_eq_true rfl⟩) (fun qq2 H locs hP hD hS => ?_)
  have hP : va_P D vwCl [(h0, .inr (3, [.int 0, .int 0, .int 0, .int 0, .int 0, .int (-1), .int 0, .null, .null])), (nq1, .inr (2, [.int 0, .ref (qq2 0), .ref (qq2 1), .ref (qq2 2), .ref (qq2 3), .ref (qq2 4)])), ((qq2 0), .inl (cI, 8, .inl (fun _ => 0))), ((qq2 1), .inl (cI, 8, .inl (fun _ => 0))), ((qq2 2), .inl (cI, 8, .inl (fun _ => 0))), ((qq2 3), .inl (cI, 8, .inl (fun _ => 0))), ((qq2 4), .inl (cI, 8, .inl (fun _ => 0)))] H := hP
  have hD : va_D A [(h0, .inr (3, [.int 0, .int 0, .int 0, .int 0, .int 0, .int (-1), .int 0, .null, .null])), (nq1, .inr (2, [.int 0, .ref (qq2 0), .ref (qq2 1), .ref (qq2 2), .ref (qq2 3), .ref (qq2 4)])), ((qq2 0), .inl (cI, 8, .inl (fun _ => 0))), ((qq2 1), .inl (cI, 8, .inl (fun _ => 0))), ((qq2 2), .inl (cI, 8, .inl (fun _ => 0))), ((qq2 3), .inl (cI, 8, .inl (fun _ => 0))), ((qq2 4), .inl (cI, 8, .inl (fun _ => 0)))] := hD
  refine va_putF (D := D) (ci := 3) (v := .ref nq1) (ty := (.object "StarConsole$Dimmers")) (C := RX3) (T := TX3) (N := 9) hx hb hts iX3_init_X3 tyX3 tyX3_ok nmX3 hown hk.1 hP hD hS 0 rfl rfl 7 (by decide) (hts _ mX3_init_f18) (fun _ h9 => h9) rfl hin rfl (by decide +kernel) rfl rfl (Nat.le_of_ble_eq_true rfl) dX3_init_17 (fun H locs hP hD hS => ?_)
  have hP : va_P D vwCl [(h0, .inr (3, [.int 0, .int 0, .int 0, .int 0, .int 0, .int (-1), .int 0, .ref nq1, .null])), (nq1, .inr (2, [.int 0, .ref (qq2 0), .ref (qq2 1), .ref (qq2 2), .ref (qq2 3), .ref (qq2 4)])), ((qq2 0), .inl (cI, 8, .inl (fun _ => 0))), ((qq2 1), .inl (cI, 8, .inl (fun _ => 0))), ((qq2 2), .inl (cI, 8, .inl (fun _ => 0))), ((qq2 3), .inl (cI, 8, .inl (fun _ => 0))), ((qq2 4), .inl (cI, 8, .inl (fun _ => 0)))] H := hP
  have hD : va_D A [(h0, .inr (3, [.int 0, .int 0, .int 0, .int 0, .int 0, .int (-1), .int 0, .ref nq1, .null])), (nq1, .inr (2, [.int 0, .ref (qq2 0), .ref (qq2 1), .ref (qq2 2), .ref (qq2 3), .ref (qq2 4)])), ((qq2 0), .inl (cI, 8, .inl (fun _ => 0))), ((qq2 1), .inl (cI, 8, .inl (fun _ => 0))), ((qq2 2), .inl (cI, 8, .inl (fun _ => 0))), ((qq2 3), .inl (cI, 8, .inl (fun _ => 0))), ((qq2 4), .inl (cI, 8, .inl (fun _ => 0)))] := hD
  refine lv_aload_n hx hb dX3_init_20 rfl (lv_at hl 0 rfl) ?_
  refine va_new (ci := 0) (fs := [.int 0, .null, .null, .null]) (C := RX0) (T := TX0) (N := 4) hx hb hts iX3_init_X0 tyX0 tyX0_ok hown (hts _ mX3_init_k22) (hts _ mX3_init_kiX0) (hts _ mX3_init_iX0) hk.1 hP hD hS hA rfl (fun j hj => by rcases (show j = 0 ∨ j = 1 ∨ j = 2 ∨ j = 3 by omega) with rfl | rfl | rfl | rfl <;> rfl) (Nat.le_of_ble_eq_true rfl) (Nat.le_of_ble_eq_true rfl) dX3_init_21 (fun nq3 H hP hD hS => ?_)
  have hP : va_P D vwCl [(h0, .inr (3, [.int 0, .int 0, .int 0, .int 0, .int 0, .int (-1), .int 0, .ref nq1, .null])), (nq1, .inr (2, [.int 0, .ref (qq2 0), .ref (qq2 1), .ref (qq2 2), .ref (qq2 3), .ref (qq2 4)])), ((qq2 0), .inl (cI, 8, .inl (fun _ => 0))), ((qq2 1), .inl (cI, 8, .inl (fun _ => 0))), ((qq2 2), .inl (cI, 8, .inl (fun _ => 0))), ((qq2 3), .inl (cI, 8, .inl (fun _ => 0))), ((qq2 4), .inl (cI, 8, .inl (fun _ => 0))), (nq3, .inr (0, [.int 0, .null, .null, .null]))] H := hP
  have hD : va_D A [(h0, .inr (3, [.int 0, .int 0, .int 0, .int 0, .int 0, .int (-1), .int 0, .ref nq1, .null])), (nq1, .inr (2, [.int 0, .ref (qq2 0), .ref (qq2 1), .ref (qq2 2), .ref (qq2 3), .ref (qq2 4)])), ((qq2 0), .inl (cI, 8, .inl (fun _ => 0))), ((qq2 1), .inl (cI, 8, .inl (fun _ => 0))), ((qq2 2), .inl (cI, 8, .inl (fun _ => 0))), ((qq2 3), .inl (cI, 8, .inl (fun _ => 0))), ((qq2 4), .inl (cI, 8, .inl (fun _ => 0))), (nq3, .inr (0, [.int 0, .null, .null, .null]))] := hD
  refine lv_dup hx hb dX3_init_24 rfl ?_
  refine frN (wc := [(nq3, .inr (0, [.int 0, .null, .null, .null]))]) hP hD hS hA [7] [0, 1, 2, 3, 4, 5, 6] rfl rfl rfl (va_runIN (As := []) (rest := [.ref nq3, .ref h0]) ⟨hx, hb, hml, hown, hts⟩ (tX0_init l D cI nq3 _) ⟨va_cnB 0 hts gX3_init_X0_init_n24 rfl rfl rfl (show va_Nw (.methodLinkNest RX3 24 yX0_init "StarConsole") s from hk.2 _ (List.mem_of_getElem? (i := 6) rfl)) (hts _ mX3_init_iX0) ⟨hX0_init.2.1, hX0_init.2.2.1, hX0_init.2.2.2⟩ ⟨Nat.le_of_ble_eq_true rfl, Nat.le_of_ble_eq_true rfl⟩, rfl, (hts _ mX3_init_inX0_init)⟩ (preS_of hk hP hD [7] rfl rfl) rfl rfl hl.1 rfl (lv_room (Nat.le_of_ble_eq_true rfl)) dX3_init_25 ⟨Nat.le_of_ble_eq_true rfl, Nat.le_of_ble_eq_true rfl⟩) (fun qq4 H locs hP hD hS => ?_)
  have hP : va_P D vwCl [(h0, .inr (3, [.int 0, .int 0, .int 0, .int 0, .int 0, .int (-1), .int 0, .ref nq1, .null])), (nq1, .inr (2, [.int 0, .ref (qq2 0), .ref (qq2 1), .ref (qq2 2), .ref (qq2 3), .ref (qq2 4)])), ((qq2 0), .inl (cI, 8, .inl (fun _ => 0))), ((qq2 1), .inl (cI, 8, .inl (fun _ => 0))), ((qq2 2), .inl (cI, 8, .inl (fun _ => 0))), ((qq2 3), .inl (cI, 8, .inl (fun _ => 0))), ((qq2 4), .inl (cI, 8, .inl (fun _ => 0))), (nq3, .inr (0, [.int 0, .ref (qq4 0), .ref (qq4 1), .ref (qq4 2)])), ((qq4 0), .inl (cI, 12, .inl (fun _ => 0))), ((qq4 1), .inl (cI, 12, .inl (fun _ => 0))), ((qq4 2), .inl (cI, 12, .inl (fun _ => 0)))] H := hP
  have hD : va_D A [(h0, .inr (3, [.int 0, .int 0, .int 0, .int 0, .int 0, .int (-1), .int 0, .ref nq1, .null])), (nq1, .inr (2, [.int 0, .ref (qq2 0), .ref (qq2 1), .ref (qq2 2), .ref (qq2 3), .ref (qq2 4)])), ((qq2 0), .inl (cI, 8, .inl (fun _ => 0))), ((qq2 1), .inl (cI, 8, .inl (fun _ => 0))), ((qq2 2), .inl (cI, 8, .inl (fun _ => 0))), ((qq2 3), .inl (cI, 8, .inl (fun _ => 0))), ((qq2 4), .inl (cI, 8, .inl (fun _ => 0))), (nq3, .inr (0, [.int 0, .ref (qq4 0), .ref (qq4 1), .ref (qq4 2)])), ((qq4 0), .inl (cI, 12, .inl (fun _ => 0))), ((qq4 1), .inl (cI, 12, .inl (fun _ => 0))), ((qq4 2), .inl (cI, 12, .inl (fun _ => 0)))] := hD
  refine va_putF (D := D) (ci := 3) (v := .ref nq3) (ty := (.object "StarConsole$Comets")) (C := RX3) (T := TX3) (N := 9) hx hb hts iX3_init_X3 tyX3 tyX3_ok nmX3 hown hk.1 hP hD hS 0 rfl rfl 8 (by decide) (hts _ mX3_init_f25) (fun _ h9 => h9) rfl hin rfl (by decide +kernel) rfl rfl (Nat.le_of_ble_eq_true rfl) dX3_init_28 (fun H locs hP hD hS => ?_)
  have hP : va_P D vwCl [(h0, .inr (3, [.int 0, .int 0, .int 0, .int 0, .int 0, .int (-1), .int 0, .ref nq1, .ref nq3])), (nq1, .inr (2, [.int 0, .ref (qq2 0), .ref (qq2 1), .ref (qq2 2), .ref (qq2 3), .ref (qq2 4)])), ((qq2 0), .inl (cI, 8, .inl (fun _ => 0))), ((qq2 1), .inl (cI, 8, .inl (fun _ => 0))), ((qq2 2), .inl (cI, 8, .inl (fun _ => 0))), ((qq2 3), .inl (cI, 8, .inl (fun _ => 0))), ((qq2 4), .inl (cI, 8, .inl (fun _ => 0))), (nq3, .inr (0, [.int 0, .ref (qq4 0), .ref (qq4 1), .ref (qq4 2)])), ((qq4 0), .inl (cI, 12, .inl (fun _ => 0))), ((qq4 1), .inl (cI, 12, .inl (fun _ => 0))), ((qq4 2), .inl (cI, 12, .inl (fun _ => 0)))] H := hP
  have hD : va_D A [(h0, .inr (3, [.int 0, .int 0, .int 0, .int 0, .int 0, .int (-1), .int 0, .ref nq1, .ref nq3])), (nq1, .inr (2, [.int 0, .ref (qq2 0), .ref (qq2 1), .ref (qq2 2), .ref (qq2 3), .ref (qq2 4)])), ((qq2 0), .inl (cI, 8, .inl (fun _ => 0))), ((qq2 1), .inl (cI, 8, .inl (fun _ => 0))), ((qq2 2), .inl (cI, 8, .inl (fun _ => 0))), ((qq2 3), .inl (cI, 8, .inl (fun _ => 0))), ((qq2 4), .inl (cI, 8, .inl (fun _ => 0))), (nq3, .inr (0, [.int 0, .ref (qq4 0), .ref (qq4 1), .ref (qq4 2)])), ((qq4 0), .inl (cI, 12, .inl (fun _ => 0))), ((qq4 1), .inl (cI, 12, .inl (fun _ => 0))), ((qq4 2), .inl (cI, 12, .inl (fun _ => 0)))] := hD
  exact retN (fun j => ([nq1, (qq2 0), (qq2 1), (qq2 2), (qq2 3), (qq2 4), nq3, (qq4 0), (qq4 1), (qq4 2)] : List Nat).getD j 0) hx hb hr hlocks hS hP hD dX3_init_31 (Nat.le_of_ble_eq_true rfl) (Nat.le_of_ble_eq_true rfl)

theorem mX5_init_oi : (.methodLink RX5 1 objectInit : Cond) ∈ wsX5_init := by decide +kernel
theorem mX5_init_oin : (.instanceMethod objectInit : Cond) ∈ wsX5_init := by decide +kernel
theorem mX5_init_oic : (.code objectInit ⟨#[0xb1]⟩ 1 none : Cond) ∈ wsX5_init := by decide +kernel
theorem mX5_init_k7 : (.classLink RX5 7 RX4 : Cond) ∈ wsX5_init := by decide +kernel
theorem mX5_init_kiX4 : (.instantiable RX4 3 : Cond) ∈ wsX5_init := by decide +kernel
theorem mX5_init_iX4 : (.initialized RX4 : Cond) ∈ wsX5_init := by decide +kernel
theorem iX5_init_X4 : ∀ w ∈ wsX40, w ∈ wsX5_init := by decide +kernel
theorem mX5_init_inX4_init : (.instanceMethod yX4_init : Cond) ∈ wsX5_init := by decide +kernel
theorem mX5_init_f10 : (.fieldLink RX5 10 "StarConsole" "stars" "LStarConsole$Stars;" : Cond) ∈ wsX5_init := by decide +kernel
theorem iX5_init_X5 : ∀ w ∈ wsX50, w ∈ wsX5_init := by decide +kernel
theorem mX5_init_k16 : (.classLink RX5 16 RX1 : Cond) ∈ wsX5_init := by decide +kernel
theorem mX5_init_kiX1 : (.instantiable RX1 5 : Cond) ∈ wsX5_init := by decide +kernel
theorem mX5_init_iX1 : (.initialized RX1 : Cond) ∈ wsX5_init := by decide +kernel
theorem iX5_init_X1 : ∀ w ∈ wsX10, w ∈ wsX5_init := by decide +kernel
theorem mX5_init_inX1_init : (.instanceMethod yX1_init : Cond) ∈ wsX5_init := by decide +kernel
theorem mX5_init_f19 : (.fieldLink RX5 19 "StarConsole" "cues" "LStarConsole$Cues;" : Cond) ∈ wsX5_init := by decide +kernel
theorem mX5_init_k23 : (.classLink RX5 23 RX3 : Cond) ∈ wsX5_init := by decide +kernel
theorem mX5_init_kiX3 : (.instantiable RX3 9 : Cond) ∈ wsX5_init := by decide +kernel
theorem mX5_init_iX3 : (.initialized RX3 : Cond) ∈ wsX5_init := by decide +kernel
theorem iX5_init_X3 : ∀ w ∈ wsX30, w ∈ wsX5_init := by decide +kernel
theorem mX5_init_inX3_init : (.instanceMethod yX3_init : Cond) ∈ wsX5_init := by decide +kernel
theorem mX5_init_f26 : (.fieldLink RX5 26 "StarConsole" "show" "LStarConsole$Show;" : Cond) ∈ wsX5_init := by decide +kernel
theorem mX5_init_f30 : (.fieldLink RX5 30 "StarConsole" "ahead" "LStarConsole$Show;" : Cond) ∈ wsX5_init := by decide +kernel

theorem hX5_init : yX5_init.cls = RX5 ∧ yX5_init.cls ≠ "java/lang/invoke/MethodHandle" ∧ yX5_init.cls ≠ "java/lang/invoke/VarHandle" ∧ (parseMethodDescriptor yX5_init.desc).map (fun d => d.parameters.length) = some 0 := by decide +kernel
set_option maxHeartbeats 4000000 in
set_option maxRecDepth 100000 in
theorem tX5_init (l : Launch) (D : va_G) (cI : ClassId) (o0 : Nat)  : CN l yX5_init wsX5_init ({ frames := 3, cells := 30, slots := 334, locals := 61 } : Room) D cI ([.ref o0] : List Value) [(o0, .inr (5, [.null, .null, .null, .null]))] (fun q => [(o0, .inr (5, [.ref (q 0), .ref (q 3), .ref (q 8), .ref (q 19)])), ((q 0), .inr (4, [.int 0, .ref (q 1), .ref (q 2)])), ((q 1), .inl (cI, 20, .inl (fun _ => 0))), ((q 2), .inl (cI, 20, .inl (fun _ => 0))), ((q 3), .inr (1, [.int 0, .ref (q 4), .ref (q 5), .ref (q 6), .ref (q 7)])), ((q 4), .inl (cI, 24, .inl (fun _ => 0))), ((q 5), .inl (cI, 24, .inl (fun _ => 0))), ((q 6), .inl (cI, 24, .inl (fun _ => 0))), ((q 7), .inl (cI, 24, .inl (fun _ => 0))), ((q 8), .inr (3, [.int 0, .int 0, .int 0, .int 0, .int 0, .int (-1), .int 0, .ref (q 9), .ref (q 15)])), ((q 9), .inr (2, [.int 0, .ref (q 10), .ref (q 11), .ref (q 12), .ref (q 13), .ref (q 14)])), ((q 10), .inl (cI, 8, .inl (fun _ => 0))), ((q 11), .inl (cI, 8, .inl (fun _ => 0))), ((q 12), .inl (cI, 8, .inl (fun _ => 0))), ((q 13), .inl (cI, 8, .inl (fun _ => 0))), ((q 14), .inl (cI, 8, .inl (fun _ => 0))), ((q 15), .inr (0, [.int 0, .ref (q 16), .ref (q 17), .ref (q 18)])), ((q 16), .inl (cI, 12, .inl (fun _ => 0))), ((q 17), .inl (cI, 12, .inl (fun _ => 0))), ((q 18), .inl (cI, 12, .inl (fun _ => 0))), ((q 19), .inr (3, [.int 0, .int 0, .int 0, .int 0, .int 0, .int (-1), .int 0, .ref (q 20), .ref (q 26)])), ((q 20), .inr (2, [.int 0, .ref (q 21), .ref (q 22), .ref (q 23), .ref (q 24), .ref (q 25)])), ((q 21), .inl (cI, 8, .inl (fun _ => 0))), ((q 22), .inl (cI, 8, .inl (fun _ => 0))), ((q 23), .inl (cI, 8, .inl (fun _ => 0))), ((q 24), .inl (cI, 8, .inl (fun _ => 0))), ((q 25), .inl (cI, 8, .inl (fun _ => 0))), ((q 26), .inr (0, [.int 0, .ref (q 27), .ref (q 28), .ref (q 29)])), ((q 27), .inl (cI, 12, .inl (fun _ => 0))), ((q 28), .inl (cI, 12, .inl (fun _ => 0))), ((q 29), .inl (cI, 12, .inl (fun _ => 0)))]) 30 334 := by
  refine entN (cc := cX5_init) (maxL := 1) (ret := none) (by decide) rfl (Nat.le_of_ble_eq_true rfl) (fun p e s m below meth c A ls hni fx hl => ?_)
  have fx0 := fx
  obtain ⟨hx, hb, hr, hml, hown, hts, hlocks, hk, hP, hD, hA⟩ := fx
  have hown : s.vm.findClass RX5 = some m.cls := hown
  have hS : va_S A s.heap s.heap [] := va_S.rf
  have hP : va_P D vwCl [(o0, .inr (5, [.null, .null, .null, .null]))] s.heap := hP
  have hD : va_D A [(o0, .inr (5, [.null, .null, .null, .null]))] := hD
  have hl : lv_has ls 1 [(0, .ref o0)] := hl
  obtain ⟨-, -, hin⟩ := hni
  have hin : meth.name = "<init>" := hin.resolve_right (fun q => q rfl)
  refine lv_aload_n hx hb dX5_init_0 rfl (lv_at hl 0 rfl) ?_
  refine W.objInit hx hb hown (hts _ mX5_init_oi) (hts _ mX5_init_oin) (hts _ mX5_init_oic) rfl (by rw [hml]; exact hl.1) rfl dX5_init_1 (Nat.le_of_ble_eq_true rfl) (Nat.le_of_ble_eq_true rfl) ?_
  refine W.eq (g2 := F0 m 4 ls []) rfl ?_
  refine lv_aload_n hx hb dX5_init_4 rfl (lv_at hl 0 rfl) ?_
  refine va_new (ci := 4) (fs := [.int 0, .null, .null]) (C := RX4) (T := TX4) (N := 3) hx hb hts iX5_init_X4 tyX4 tyX4_ok hown (hts _ mX5_init_k7) (hts _ mX5_init_kiX4) (hts _ mX5_init_iX4) hk.1 hP hD hS hA rfl (fun j hj => by rcases (show j = 0 ∨ j = 1 ∨ j = 2 by omega) with rfl | rfl | rfl <;> rfl) (Nat.le_of_ble_eq_true rfl) (Nat.le_of_ble_eq_true rfl) dX5_init_5 (fun nq1 H hP hD hS => ?_)
  have hP : va_P D vwCl [(o0, .inr (5, [.null, .null, .null, .null])), (nq1, .inr (4, [.int 0, .null, .null]))] H := hP
  have hD : va_D A [(o0, .inr (5, [.null, .null, .null, .null])), (nq1, .inr (4, [.int 0, .null, .null]))] := hD
  refine lv_dup hx hb dX5_init_8 rfl ?_
  refine frN (wc := [(nq1, .inr (4, [.int 0, .null, .null]))]) hP hD hS hA [1] [0] rfl rfl rfl (va_runIN (As := []) (rest := [.ref nq1, .ref o0]) ⟨hx, hb, hml, hown, hts⟩ (tX4_init l D cI nq1 _) ⟨va_cnB 0 hts gX5_init_X4_init_n9 rfl rfl rfl (show va_Nw (.methodLinkNest RX5 9 yX4_init "StarConsole") s from hk.2 _ (List.mem_of_getElem? (i := 4) rfl)) (hts _ mX5_init_iX4) ⟨hX4_init.2.1, hX4_init.2.2.1, hX4_init.2.2.2⟩ ⟨Nat.le_of_ble_eq_true rfl, Nat.le_of_ble_eq_true rfl⟩, rfl, (hts _ mX5_init_inX4_init)⟩ (preS_of hk hP hD [1] rfl rfl) rfl rfl hl.1 rfl (lv_room (Nat.le_of_ble_eq_true rfl)) dX5_init_9 ⟨Nat.le_of_ble_eq_true rfl, Nat.le_of_ble_eq_true rfl⟩) (fun qq2 H locs hP hD hS => ?_)
  have hP : va_P D vwCl [(o0, .inr (5, [.null, .null, .null, .null])), (nq1, .inr (4, [.int 0, .ref (qq2 0), .ref (qq2 1)])), ((qq2 0), .inl (cI, 20, .inl (fun _ => 0))), ((qq2 1), .inl (cI, 20, .inl (fun _ => 0)))] H := hP
  have hD : va_D A [(o0, .inr (5, [.null, .null, .null, .null])), (nq1, .inr (4, [.int 0, .ref (qq2 0), .ref (qq2 1)])), ((qq2 0), .inl (cI, 20, .inl (fun _ => 0))), ((qq2 1), .inl (cI, 20, .inl (fun _ => 0)))] := hD
  refine va_putF (D := D) (ci := 5) (v := .ref nq1) (ty := (.object "StarConsole$Stars")) (C := RX5) (T := TX5) (N := 4) hx hb hts iX5_init_X5 tyX5 tyX5_ok nmX5 hown hk.1 hP hD hS 0 rfl rfl 0 (by decide) (hts _ mX5_init_f10) (fun _ h9 => h9) rfl hin rfl (by decide +kernel) rfl rfl (Nat.le_of_ble_eq_true rfl) dX5_init_12 (fun H locs hP hD hS => ?_)
  have hP : va_P D vwCl [(o0, .inr (5, [.ref nq1, .null, .null, .null])), (nq1, .inr (4, [.int 0, .ref (qq2 0), .ref (qq2 1)])), ((qq2 0), .inl (cI, 20, .inl (fun _ => 0))), ((qq2 1), .inl (cI, 20, .inl (fun _ => 0)))] H := hP
  have hD : va_D A [(o0, .inr (5, [.ref nq1, .null, .null, .null])), (nq1, .inr (4, [.int 0, .ref (qq2 0), .ref (qq2 1)])), ((qq2 0), .inl (cI, 20, .inl (fun _ => 0))), ((qq2 1), .inl (cI, 20, .inl (fun _ => 0)))] := hD
  refine lv_aload_n hx hb dX5_init_15 rfl (lv_at hl 0 rfl) ?_
  refine va_new (ci := 1) (fs := [.int 0, .null, .null, .null, .null]) (C := RX1) (T := TX1) (N := 5) hx hb hts iX5_init_X1 tyX1 tyX1_ok hown (hts _ mX5_init_k16) (hts _ mX5_init_kiX1) (hts _ mX5_init_iX1) hk.1 hP hD hS hA rfl (fun j hj => by rcases (show j = 0 ∨ j = 1 ∨ j = 2 ∨ j = 3 ∨ j = 4 by omega) with rfl | rfl | rfl | rfl | rfl <;> rfl) (Nat.le_of_ble_eq_true rfl) (Nat.le_of_ble_eq_true rfl) dX5_init_16 (fun nq3 H hP hD hS => ?_)
  have hP : va_P D vwCl [(o0, .inr (5, [.ref nq1, .null, .null, .null])), (nq1, .inr (4, [.int 0, .ref (qq2 0), .ref (qq2 1)])), ((qq2 0), .inl (cI, 20, .inl (fun _ => 0))), ((qq2 1), .inl (cI, 20, .inl (fun _ => 0))), (nq3, .inr (1, [.int 0, .null, .null, .null, .null]))] H := hP
  have hD : va_D A [(o0, .inr (5, [.ref nq1, .null, .null, .null])), (nq1, .inr (4, [.int 0, .ref (qq2 0), .ref (qq2 1)])), ((qq2 0), .inl (cI, 20, .inl (fun _ => 0))), ((qq2 1), .inl (cI, 20, .inl (fun _ => 0))), (nq3, .inr (1, [.int 0, .null, .null, .null, .null]))] := hD
  refine lv_dup hx hb dX5_init_19 rfl ?_
  refine frN (wc := [(nq3, .inr (1, [.int 0, .null, .null, .null, .null]))]) hP hD hS hA [4] [0, 1, 2, 3] rfl rfl rfl (va_runIN (As := []) (rest := [.ref nq3, .ref o0]) ⟨hx, hb, hml, hown, hts⟩ (tX1_init l D cI nq3 _) ⟨va_cnB 0 hts gX5_init_X1_init_n18 rfl rfl rfl (show va_Nw (.methodLinkNest RX5 18 yX1_init "StarConsole") s from hk.2 _ (List.mem_of_getElem? (i := 2) rfl)) (hts _ mX5_init_iX1) ⟨hX1_init.2.1, hX1_init.2.2.1, hX1_init.2.2.2⟩ ⟨Nat.le_of_ble_eq_true rfl, Nat.le_of_ble_eq_true rfl⟩, rfl, (hts _ mX5_init_inX1_init)⟩ (preS_of hk hP hD [4] rfl rfl) rfl rfl hl.1 rfl (lv_room (Nat.le_of_ble_eq_true rfl)) dX5_init_20 ⟨Nat.le_of_ble_eq_true rfl, Nat.le_of_ble_eq_true rfl⟩) (fun qq4 H locs hP hD hS => ?_)
  have hP : va_P D vwCl [(o0, .inr (5, [.ref nq1, .null, .null, .null])), (nq1, .inr (4, [.int 0, .ref (qq2 0), .ref (qq2 1)])), ((qq2 0), .inl (cI, 20, .inl (fun _ => 0))), ((qq2 1), .inl (cI, 20, .inl (fun _ => 0))), (nq3, .inr (1, [.int 0, .ref (qq4 0), .ref (qq4 1), .ref (qq4 2), .ref (qq4 3)])), ((qq4 0), .inl (cI, 24, .inl (fun _ => 0))), ((qq4 1), .inl (cI, 24, .inl (fun _ => 0))), ((qq4 2), .inl (cI, 24, .inl (fun _ => 0))), ((qq4 3), .inl (cI, 24, .inl (fun _ => 0)))] H := hP
  have hD : va_D A [(o0, .inr (5, [.ref nq1, .null, .null, .null])), (nq1, .inr (4, [.int 0, .ref (qq2 0), .ref (qq2 1)])), ((qq2 0), .inl (cI, 20, .inl (fun _ => 0))), ((qq2 1), .inl (cI, 20, .inl (fun _ => 0))), (nq3, .inr (1, [.int 0, .ref (qq4 0), .ref (qq4 1), .ref (qq4 2), .ref (qq4 3)])), ((qq4 0), .inl (cI, 24, .inl (fun _ => 0))), ((qq4 1), .inl (cI, 24, .inl (fun _ => 0))), ((qq4 2), .inl (cI, 24, .inl (fun _ => 0))), ((qq4 3), .inl (cI, 24, .inl (fun _ => 0)))] := hD
  refine va_putF (D := D) (ci := 5) (v := .ref nq3) (ty := (.object "StarConsole$Cues")) (C := RX5) (T := TX5) (N := 4) hx hb hts iX5_init_X5 tyX5 tyX5_ok nmX5 hown hk.1 hP hD hS 0 rfl rfl 1 (by decide) (hts _ mX5_init_f19) (fun _ h9 => h9) rfl hin rfl (by decide +kernel) rfl rfl (Nat.le_of_ble_eq_true rfl) dX5_init_23 (fun H locs hP hD hS => ?_)
  have hP : va_P D vwCl [(o0, .inr (5, [.ref nq1, .ref nq3, .null, .null])), (nq1, .inr (4, [.int 0, .ref (qq2 0), .ref (qq2 1)])), ((qq2 0), .inl (cI, 20, .inl (fun _ => 0))), ((qq2 1), .inl (cI, 20, .inl (fun _ => 0))), (nq3, .inr (1, [.int 0, .ref (qq4 0), .ref (qq4 1), .ref (qq4 2), .ref (qq4 3)])), ((qq4 0), .inl (cI, 24, .inl (fun _ => 0))), ((qq4 1), .inl (cI, 24, .inl (fun _ => 0))), ((qq4 2), .inl (cI, 24, .inl (fun _ => 0))), ((qq4 3), .inl (cI, 24, .inl (fun _ => 0)))] H := hP
  have hD : va_D A [(o0, .inr (5, [.ref nq1, .ref nq3, .null, .null])), (nq1, .inr (4, [.int 0, .ref (qq2 0), .ref (qq2 1)])), ((qq2 0), .inl (cI, 20, .inl (fun _ => 0))), ((qq2 1), .inl (cI, 20, .inl (fun _ => 0))), (nq3, .inr (1, [.int 0, .ref (qq4 0), .ref (qq4 1), .ref (qq4 2), .ref (qq4 3)])), ((qq4 0), .inl (cI, 24, .inl (fun _ => 0))), ((qq4 1), .inl (cI, 24, .inl (fun _ => 0))), ((qq4 2), .inl (cI, 24, .inl (fun _ => 0))), ((qq4 3), .inl (cI, 24, .inl (fun _ => 0)))] := hD
  refine lv_aload_n hx hb dX5_init_26 rfl (lv_at hl 0 rfl) ?_
  refine va_new (ci := 3) (fs := [.int 0, .int 0, .int 0, .int 0, .int 0, .int 0, .int 0, .null, .null]) (C := RX3) (T := TX3) (N := 9) hx hb hts iX5_init_X3 tyX3 tyX3_ok hown (hts _ mX5_init_k23) (hts _ mX5_init_kiX3) (hts _ mX5_init_iX3) hk.1 hP hD hS hA rfl (fun j hj => by rcases (show j = 0 ∨ j = 1 ∨ j = 2 ∨ j = 3 ∨ j = 4 ∨ j = 5 ∨ j = 6 ∨ j = 7 ∨ j = 8 by omega) with rfl | rfl | rfl | rfl | rfl | rfl | rfl | rfl | rfl <;> rfl) (Nat.le_of_ble_eq_true rfl) (Nat.le_of_ble_eq_true rfl) dX5_init_27 (fun nq5 H hP hD hS => ?_)
  have hP : va_P D vwCl [(o0, .inr (5, [.ref nq1, .ref nq3, .null, .null])), (nq1, .inr (4, [.int 0, .ref (qq2 0), .ref (qq2 1)])), ((qq2 0), .inl (cI, 20, .inl (fun _ => 0))), ((qq2 1), .inl (cI, 20, .inl (fun _ => 0))), (nq3, .inr (1, [.int 0, .ref (qq4 0), .ref (qq4 1), .ref (qq4 2), .ref (qq4 3)])), ((qq4 0), .inl (cI, 24, .inl (fun _ => 0))), ((qq4 1), .inl (cI, 24, .inl (fun _ => 0))), ((qq4 2), .inl (cI, 24, .inl (fun _ => 0))), ((qq4 3), .inl (cI, 24, .inl (fun _ => 0))), (nq5, .inr (3, [.int 0, .int 0, .int 0, .int 0, .int 0, .int 0, .int 0, .null, .null]))] H := hP
  have hD : va_D A [(o0, .inr (5, [.ref nq1, .ref nq3, .null, .null])), (nq1, .inr (4, [.int 0, .ref (qq2 0), .ref (qq2 1)])), ((qq2 0), .inl (cI, 20, .inl (fun _ => 0))), ((qq2 1), .inl (cI, 20, .inl (fun _ => 0))), (nq3, .inr (1, [.int 0, .ref (qq4 0), .ref (qq4 1), .ref (qq4 2), .ref (qq4 3)])), ((qq4 0), .inl (cI, 24, .inl (fun _ => 0))), ((qq4 1), .inl (cI, 24, .inl (fun _ => 0))), ((qq4 2), .inl (cI, 24, .inl (fun _ => 0))), ((qq4 3), .inl (cI, 24, .inl (fun _ => 0))), (nq5, .inr (3, [.int 0, .int 0, .int 0, .int 0, .int 0, .int 0, .int 0, .null, .null]))] := hD
  refine lv_dup hx hb dX5_init_30 rfl ?_
  refine frN (wc := [(nq5, .inr (3, [.int 0, .int 0, .int 0, .int 0, .int 0, .int 0, .int 0, .null, .null]))]) hP hD hS hA [9] [0, 1, 2, 3, 4, 5, 6, 7, 8] rfl rfl rfl (va_runIN (As := []) (rest := [.ref nq5, .ref o0]) ⟨hx, hb, hml, hown, hts⟩ (tX3_init l D cI nq5 _) ⟨va_cnB 0 hts gX5_init_X3_init_n25 rfl rfl rfl (show va_Nw (.methodLinkNest RX5 25 yX3_init "StarConsole") s from hk.2 _ (List.mem_of_getElem? (i := 3) rfl)) (hts _ mX5_init_iX3) ⟨hX3_init.2.1, hX3_init.2.2.1, hX3_init.2.2.2⟩ ⟨Nat.le_of_ble_eq_true rfl, Nat.le_of_ble_eq_true rfl⟩, rfl, (hts _ mX5_init_inX3_init)⟩ (preS_of hk hP hD [9] rfl rfl) rfl rfl hl.1 rfl (lv_room (Nat.le_of_ble_eq_true rfl)) dX5_init_31 ⟨Nat.le_of_ble_eq_true rfl, Nat.le_of_ble_eq_true rfl⟩) (fun qq6 H locs hP hD hS => ?_)
  have hP : va_P D vwCl [(o0, .inr (5, [.ref nq1, .ref nq3, .null, .null])), (nq1, .inr (4, [.int 0, .ref (qq2 0), .ref (qq2 1)])), ((qq2 0), .inl (cI, 20, .inl (fun _ => 0))), ((qq2 1), .inl (cI, 20, .inl (fun _ => 0))), (nq3, .inr (1, [.int 0, .ref (qq4 0), .ref (qq4 1), .ref (qq4 2), .ref (qq4 3)])), ((qq4 0), .inl (cI, 24, .inl (fun _ => 0))), ((qq4 1), .inl (cI, 24, .inl (fun _ => 0))), ((qq4 2), .inl (cI, 24, .inl (fun _ => 0))), ((qq4 3), .inl (cI, 24, .inl (fun _ => 0))), (nq5, .inr (3, [.int 0, .int 0, .int 0, .int 0, .int 0, .int (-1), .int 0, .ref (qq6 0), .ref (qq6 6)])), ((qq6 0), .inr (2, [.int 0, .ref (qq6 1), .ref (qq6 2), .ref (qq6 3), .ref (qq6 4), .ref (qq6 5)])), ((qq6 1), .inl (cI, 8, .inl (fun _ => 0))), ((qq6 2), .inl (cI, 8, .inl (fun _ => 0))), ((qq6 3), .inl (cI, 8, .inl (fun _ => 0))), ((qq6 4), .inl (cI, 8, .inl (fun _ => 0))), ((qq6 5), .inl (cI, 8, .inl (fun _ => 0))), ((qq6 6), .inr (0, [.int 0, .ref (qq6 7), .ref (qq6 8), .ref (qq6 9)])), ((qq6 7), .inl (cI, 12, .inl (fun _ => 0))), ((qq6 8), .inl (cI, 12, .inl (fun _ => 0))), ((qq6 9), .inl (cI, 12, .inl (fun _ => 0)))] H := hP
  have hD : va_D A [(o0, .inr (5, [.ref nq1, .ref nq3, .null, .null])), (nq1, .inr (4, [.int 0, .ref (qq2 0), .ref (qq2 1)])), ((qq2 0), .inl (cI, 20, .inl (fun _ => 0))), ((qq2 1), .inl (cI, 20, .inl (fun _ => 0))), (nq3, .inr (1, [.int 0, .ref (qq4 0), .ref (qq4 1), .ref (qq4 2), .ref (qq4 3)])), ((qq4 0), .inl (cI, 24, .inl (fun _ => 0))), ((qq4 1), .inl (cI, 24, .inl (fun _ => 0))), ((qq4 2), .inl (cI, 24, .inl (fun _ => 0))), ((qq4 3), .inl (cI, 24, .inl (fun _ => 0))), (nq5, .inr (3, [.int 0, .int 0, .int 0, .int 0, .int 0, .int (-1), .int 0, .ref (qq6 0), .ref (qq6 6)])), ((qq6 0), .inr (2, [.int 0, .ref (qq6 1), .ref (qq6 2), .ref (qq6 3), .ref (qq6 4), .ref (qq6 5)])), ((qq6 1), .inl (cI, 8, .inl (fun _ => 0))), ((qq6 2), .inl (cI, 8, .inl (fun _ => 0))), ((qq6 3), .inl (cI, 8, .inl (fun _ => 0))), ((qq6 4), .inl (cI, 8, .inl (fun _ => 0))), ((qq6 5), .inl (cI, 8, .inl (fun _ => 0))), ((qq6 6), .inr (0, [.int 0, .ref (qq6 7), .ref (qq6 8), .ref (qq6 9)])), ((qq6 7), .inl (cI, 12, .inl (fun _ => 0))), ((qq6 8), .inl (cI, 12, .inl (fun _ => 0))), ((qq6 9), .inl (cI, 12, .inl (fun _ => 0)))] := hD
  refine va_putF (D := D) (ci := 5) (v := .ref nq5) (ty := (.object "StarConsole$Show")) (C := RX5) (T := TX5) (N := 4) hx hb hts iX5_init_X5 tyX5 tyX5_ok nmX5 hown hk.1 hP hD hS 0 rfl rfl 2 (by decide) (hts _ mX5_init_f26) (fun _ h9 => h9) rfl hin rfl (by decide +kernel) rfl rfl (Nat.le_of_ble_eq_true rfl) dX5_init_34 (fun H locs hP hD hS => ?_)
  have hP : va_P D vwCl [(o0, .inr (5, [.ref nq1, .ref nq3, .ref nq5, .null])), (nq1, .inr (4, [.int 0, .ref (qq2 0), .ref (qq2 1)])), ((qq2 0), .inl (cI, 20, .inl (fun _ => 0))), ((qq2 1), .inl (cI, 20, .inl (fun _ => 0))), (nq3, .inr (1, [.int 0, .ref (qq4 0), .ref (qq4 1), .ref (qq4 2), .ref (qq4 3)])), ((qq4 0), .inl (cI, 24, .inl (fun _ => 0))), ((qq4 1), .inl (cI, 24, .inl (fun _ => 0))), ((qq4 2), .inl (cI, 24, .inl (fun _ => 0))), ((qq4 3), .inl (cI, 24, .inl (fun _ => 0))), (nq5, .inr (3, [.int 0, .int 0, .int 0, .int 0, .int 0, .int (-1), .int 0, .ref (qq6 0), .ref (qq6 6)])), ((qq6 0), .inr (2, [.int 0, .ref (qq6 1), .ref (qq6 2), .ref (qq6 3), .ref (qq6 4), .ref (qq6 5)])), ((qq6 1), .inl (cI, 8, .inl (fun _ => 0))), ((qq6 2), .inl (cI, 8, .inl (fun _ => 0))), ((qq6 3), .inl (cI, 8, .inl (fun _ => 0))), ((qq6 4), .inl (cI, 8, .inl (fun _ => 0))), ((qq6 5), .inl (cI, 8, .inl (fun _ => 0))), ((qq6 6), .inr (0, [.int 0, .ref (qq6 7), .ref (qq6 8), .ref (qq6 9)])), ((qq6 7), .inl (cI, 12, .inl (fun _ => 0))), ((qq6 8), .inl (cI, 12, .inl (fun _ => 0))), ((qq6 9), .inl (cI, 12, .inl (fun _ => 0)))] H := hP
  have hD : va_D A [(o0, .inr (5, [.ref nq1, .ref nq3, .ref nq5, .null])), (nq1, .inr (4, [.int 0, .ref (qq2 0), .ref (qq2 1)])), ((qq2 0), .inl (cI, 20, .inl (fun _ => 0))), ((qq2 1), .inl (cI, 20, .inl (fun _ => 0))), (nq3, .inr (1, [.int 0, .ref (qq4 0), .ref (qq4 1), .ref (qq4 2), .ref (qq4 3)])), ((qq4 0), .inl (cI, 24, .inl (fun _ => 0))), ((qq4 1), .inl (cI, 24, .inl (fun _ => 0))), ((qq4 2), .inl (cI, 24, .inl (fun _ => 0))), ((qq4 3), .inl (cI, 24, .inl (fun _ => 0))), (nq5, .inr (3, [.int 0, .int 0, .int 0, .int 0, .int 0, .int (-1), .int 0, .ref (qq6 0), .ref (qq6 6)])), ((qq6 0), .inr (2, [.int 0, .ref (qq6 1), .ref (qq6 2), .ref (qq6 3), .ref (qq6 4), .ref (qq6 5)])), ((qq6 1), .inl (cI, 8, .inl (fun _ => 0))), ((qq6 2), .inl (cI, 8, .inl (fun _ => 0))), ((qq6 3), .inl (cI, 8, .inl (fun _ => 0))), ((qq6 4), .inl (cI, 8, .inl (fun _ => 0))), ((qq6 5), .inl (cI, 8, .inl (fun _ => 0))), ((qq6 6), .inr (0, [.int 0, .ref (qq6 7), .ref (qq6 8), .ref (qq6 9)])), ((qq6 7), .inl (cI, 12, .inl (fun _ => 0))), ((qq6 8), .inl (cI, 12, .inl (fun _ => 0))), ((qq6 9), .inl (cI, 12, .inl (fun _ => 0)))] := hD
  refine lv_aload_n hx hb dX5_init_37 rfl (lv_at hl 0 rfl) ?_
  refine va_new (ci := 3) (fs := [.int 0, .int 0, .int 0, .int 0, .int 0, .int 0, .int 0, .null, .null]) (C := RX3) (T := TX3) (N := 9) hx hb hts iX5_init_X3 tyX3 tyX3_ok hown (hts _ mX5_init_k23) (hts _ mX5_init_kiX3) (hts _ mX5_init_iX3) hk.1 hP hD hS hA rfl (fun j hj => by rcases (show j = 0 ∨ j = 1 ∨ j = 2 ∨ j = 3 ∨ j = 4 ∨ j = 5 ∨ j = 6 ∨ j = 7 ∨ j = 8 by omega) with rfl | rfl | rfl | rfl | rfl | rfl | rfl | rfl | rfl <;> rfl) (Nat.le_of_ble_eq_true rfl) (Nat.le_of_ble_eq_true rfl) dX5_init_38 (fun nq7 H hP hD hS => ?_)
  have hP : va_P D vwCl [(o0, .inr (5, [.ref nq1, .ref nq3, .ref nq5, .null])), (nq1, .inr (4, [.int 0, .ref (qq2 0), .ref (qq2 1)])), ((qq2 0), .inl (cI, 20, .inl (fun _ => 0))), ((qq2 1), .inl (cI, 20, .inl (fun _ => 0))), (nq3, .inr (1, [.int 0, .ref (qq4 0), .ref (qq4 1), .ref (qq4 2), .ref (qq4 3)])), ((qq4 0), .inl (cI, 24, .inl (fun _ => 0))), ((qq4 1), .inl (cI, 24, .inl (fun _ => 0))), ((qq4 2), .inl (cI, 24, .inl (fun _ => 0))), ((qq4 3), .inl (cI, 24, .inl (fun _ => 0))), (nq5, .inr (3, [.int 0, .int 0, .int 0, .int 0, .int 0, .int (-1), .int 0, .ref (qq6 0), .ref (qq6 6)])), ((qq6 0), .inr (2, [.int 0, .ref (qq6 1), .ref (qq6 2), .ref (qq6 3), .ref (qq6 4), .ref (qq6 5)])), ((qq6 1), .inl (cI, 8, .inl (fun _ => 0))), ((qq6 2), .inl (cI, 8, .inl (fun _ => 0))), ((qq6 3), .inl (cI, 8, .inl (fun _ => 0))), ((qq6 4), .inl (cI, 8, .inl (fun _ => 0))), ((qq6 5), .inl (cI, 8, .inl (fun _ => 0))), ((qq6 6), .inr (0, [.int 0, .ref (qq6 7), .ref (qq6 8), .ref (qq6 9)])), ((qq6 7), .inl (cI, 12, .inl (fun _ => 0))), ((qq6 8), .inl (cI, 12, .inl (fun _ => 0))), ((qq6 9), .inl (cI, 12, .inl (fun _ => 0))), (nq7, .inr (3, [.int 0, .int 0, .int 0, .int 0, .int 0, .int 0, .int 0, .null, .null]))] H := hP
  have hD : va_D A [(o0, .inr (5, [.ref nq1, .ref nq3, .ref nq5, .null])), (nq1, .inr (4, [.int 0, .ref (qq2 0), .ref (qq2 1)])), ((qq2 0), .inl (cI, 20, .inl (fun _ => 0))), ((qq2 1), .inl (cI, 20, .inl (fun _ => 0))), (nq3, .inr (1, [.int 0, .ref (qq4 0), .ref (qq4 1), .ref (qq4 2), .ref (qq4 3)])), ((qq4 0), .inl (cI, 24, .inl (fun _ => 0))), ((qq4 1), .inl (cI, 24, .inl (fun _ => 0))), ((qq4 2), .inl (cI, 24, .inl (fun _ => 0))), ((qq4 3), .inl (cI, 24, .inl (fun _ => 0))), (nq5, .inr (3, [.int 0, .int 0, .int 0, .int 0, .int 0, .int (-1), .int 0, .ref (qq6 0), .ref (qq6 6)])), ((qq6 0), .inr (2, [.int 0, .ref (qq6 1), .ref (qq6 2), .ref (qq6 3), .ref (qq6 4), .ref (qq6 5)])), ((qq6 1), .inl (cI, 8, .inl (fun _ => 0))), ((qq6 2), .inl (cI, 8, .inl (fun _ => 0))), ((qq6 3), .inl (cI, 8, .inl (fun _ => 0))), ((qq6 4), .inl (cI, 8, .inl (fun _ => 0))), ((qq6 5), .inl (cI, 8, .inl (fun _ => 0))), ((qq6 6), .inr (0, [.int 0, .ref (qq6 7), .ref (qq6 8), .ref (qq6 9)])), ((qq6 7), .inl (cI, 12, .inl (fun _ => 0))), ((qq6 8), .inl (cI, 12, .inl (fun _ => 0))), ((qq6 9), .inl (cI, 12, .inl (fun _ => 0))), (nq7, .inr (3, [.int 0, .int 0, .int 0, .int 0, .int 0, .int 0, .int 0, .null, .null]))] := hD
  refine lv_dup hx hb dX5_init_41 rfl ?_
  refine frN (wc := [(nq7, .inr (3, [.int 0, .int 0, .int 0, .int 0, .int 0, .int 0, .int 0, .null, .null]))]) hP hD hS hA [20] [0, 1, 2, 3, 4, 5, 6, 7, 8, 9, 10, 11, 12, 13, 14, 15, 16, 17, 18, 19] rfl rfl rfl (va_runIN (As := []) (rest := [.ref nq7, .ref o0]) ⟨hx, hb, hml, hown, hts⟩ (tX3_init l D cI nq7 _) ⟨va_cnB 0 hts gX5_init_X3_init_n25 rfl rfl rfl (show va_Nw (.methodLinkNest RX5 25 yX3_init "StarConsole") s from hk.2 _ (List.mem_of_getElem? (i := 3) rfl)) (hts _ mX5_init_iX3) ⟨hX3_init.2.1, hX3_init.2.2.1, hX3_init.2.2.2⟩ ⟨Nat.le_of_ble_eq_true rfl, Nat.le_of_ble_eq_true rfl⟩, rfl, (hts _ mX5_init_inX3_init)⟩ (preS_of hk hP hD [20] rfl rfl) rfl rfl hl.1 rfl (lv_room (Nat.le_of_ble_eq_true rfl)) dX5_init_42 ⟨Nat.le_of_ble_eq_true rfl, Nat.le_of_ble_eq_true rfl⟩) (fun qq8 H locs hP hD hS => ?_)
  have hP : va_P D vwCl [(o0, .inr (5, [.ref nq1, .ref nq3, .ref nq5, .null])), (nq1, .inr (4, [.int 0, .ref (qq2 0), .ref (qq2 1)])), ((qq2 0), .inl (cI, 20, .inl (fun _ => 0))), ((qq2 1), .inl (cI, 20, .inl (fun _ => 0))), (nq3, .inr (1, [.int 0, .ref (qq4 0), .ref (qq4 1), .ref (qq4 2), .ref (qq4 3)])), ((qq4 0), .inl (cI, 24, .inl (fun _ => 0))), ((qq4 1), .inl (cI, 24, .inl (fun _ => 0))), ((qq4 2), .inl (cI, 24, .inl (fun _ => 0))), ((qq4 3), .inl (cI, 24, .inl (fun _ => 0))), (nq5, .inr (3, [.int 0, .int 0, .int 0, .int 0, .int 0, .int (-1), .int 0, .ref (qq6 0), .ref (qq6 6)])), ((qq6 0), .inr (2, [.int 0, .ref (qq6 1), .ref (qq6 2), .ref (qq6 3), .ref (qq6 4), .ref (qq6 5)])), ((qq6 1), .inl (cI, 8, .inl (fun _ => 0))), ((qq6 2), .inl (cI, 8, .inl (fun _ => 0))), ((qq6 3), .inl (cI, 8, .inl (fun _ => 0))), ((qq6 4), .inl (cI, 8, .inl (fun _ => 0))), ((qq6 5), .inl (cI, 8, .inl (fun _ => 0))), ((qq6 6), .inr (0, [.int 0, .ref (qq6 7), .ref (qq6 8), .ref (qq6 9)])), ((qq6 7), .inl (cI, 12, .inl (fun _ => 0))), ((qq6 8), .inl (cI, 12, .inl (fun _ => 0))), ((qq6 9), .inl (cI, 12, .inl (fun _ => 0))), (nq7, .inr (3, [.int 0, .int 0, .int 0, .int 0, .int 0, .int (-1), .int 0, .ref (qq8 0), .ref (qq8 6)])), ((qq8 0), .inr (2, [.int 0, .ref (qq8 1), .ref (qq8 2), .ref (qq8 3), .ref (qq8 4), .ref (qq8 5)])), ((qq8 1), .inl (cI, 8, .inl (fun _ => 0))), ((qq8 2), .inl (cI, 8, .inl (fun _ => 0))), ((qq8 3), .inl (cI, 8, .inl (fun _ => 0))), ((qq8 4), .inl (cI, 8, .inl (fun _ => 0))), ((qq8 5), .inl (cI, 8, .inl (fun _ => 0))), ((qq8 6), .inr (0, [.int 0, .ref (qq8 7), .ref (qq8 8), .ref (qq8 9)])), ((qq8 7), .inl (cI, 12, .inl (fun _ => 0))), ((qq8 8), .inl (cI, 12, .inl (fun _ => 0))), ((qq8 9), .inl (cI, 12, .inl (fun _ => 0)))] H := hP
  have hD : va_D A [(o0, .inr (5, [.ref nq1, .ref nq3, .ref nq5, .null])), (nq1, .inr (4, [.int 0, .ref (qq2 0), .ref (qq2 1)])), ((qq2 0), .inl (cI, 20, .inl (fun _ => 0))), ((qq2 1), .inl (cI, 20, .inl (fun _ => 0))), (nq3, .inr (1, [.int 0, .ref (qq4 0), .ref (qq4 1), .ref (qq4 2), .ref (qq4 3)])), ((qq4 0), .inl (cI, 24, .inl (fun _ => 0))), ((qq4 1), .inl (cI, 24, .inl (fun _ => 0))), ((qq4 2), .inl (cI, 24, .inl (fun _ => 0))), ((qq4 3), .inl (cI, 24, .inl (fun _ => 0))), (nq5, .inr (3, [.int 0, .int 0, .int 0, .int 0, .int 0, .int (-1), .int 0, .ref (qq6 0), .ref (qq6 6)])), ((qq6 0), .inr (2, [.int 0, .ref (qq6 1), .ref (qq6 2), .ref (qq6 3), .ref (qq6 4), .ref (qq6 5)])), ((qq6 1), .inl (cI, 8, .inl (fun _ => 0))), ((qq6 2), .inl (cI, 8, .inl (fun _ => 0))), ((qq6 3), .inl (cI, 8, .inl (fun _ => 0))), ((qq6 4), .inl (cI, 8, .inl (fun _ => 0))), ((qq6 5), .inl (cI, 8, .inl (fun _ => 0))), ((qq6 6), .inr (0, [.int 0, .ref (qq6 7), .ref (qq6 8), .ref (qq6 9)])), ((qq6 7), .inl (cI, 12, .inl (fun _ => 0))), ((qq6 8), .inl (cI, 12, .inl (fun _ => 0))), ((qq6 9), .inl (cI, 12, .inl (fun _ => 0))), (nq7, .inr (3, [.int 0, .int 0, .int 0, .int 0, .int 0, .int (-1), .int 0, .ref (qq8 0), .ref (qq8 6)])), ((qq8 0), .inr (2, [.int 0, .ref (qq8 1), .ref (qq8 2), .ref (qq8 3), .ref (qq8 4), .ref (qq8 5)])), ((qq8 1), .inl (cI, 8, .inl (fun _ => 0))), ((qq8 2), .inl (cI, 8, .inl (fun _ => 0))), ((qq8 3), .inl (cI, 8, .inl (fun _ => 0))), ((qq8 4), .inl (cI, 8, .inl (fun _ => 0))), ((qq8 5), .inl (cI, 8, .inl (fun _ => 0))), ((qq8 6), .inr (0, [.int 0, .ref (qq8 7), .ref (qq8 8), .ref (qq8 9)])), ((qq8 7), .inl (cI, 12, .inl (fun _ => 0))), ((qq8 8), .inl (cI, 12, .inl (fun _ => 0))), ((qq8 9), .inl (cI, 12, .inl (fun _ => 0)))] := hD
  refine va_putF (D := D) (ci := 5) (v := .ref nq7) (ty := (.object "StarConsole$Show")) (C := RX5) (T := TX5) (N := 4) hx hb hts iX5_init_X5 tyX5 tyX5_ok nmX5 hown hk.1 hP hD hS 0 rfl rfl 3 (by decide) (hts _ mX5_init_f30) (fun _ h9 => h9) rfl hin rfl (by decide +kernel) rfl rfl (Nat.le_of_ble_eq_true rfl) dX5_init_45 (fun H locs hP hD hS => ?_)
  have hP : va_P D vwCl [(o0, .inr (5, [.ref nq1, .ref nq3, .ref nq5, .ref nq7])), (nq1, .inr (4, [.int 0, .ref (qq2 0), .ref (qq2 1)])), ((qq2 0), .inl (cI, 20, .inl (fun _ => 0))), ((qq2 1), .inl (cI, 20, .inl (fun _ => 0))), (nq3, .inr (1, [.int 0, .ref (qq4 0), .ref (qq4 1), .ref (qq4 2), .ref (qq4 3)])), ((qq4 0), .inl (cI, 24, .inl (fun _ => 0))), ((qq4 1), .inl (cI, 24, .inl (fun _ => 0))), ((qq4 2), .inl (cI, 24, .inl (fun _ => 0))), ((qq4 3), .inl (cI, 24, .inl (fun _ => 0))), (nq5, .inr (3, [.int 0, .int 0, .int 0, .int 0, .int 0, .int (-1), .int 0, .ref (qq6 0), .ref (qq6 6)])), ((qq6 0), .inr (2, [.int 0, .ref (qq6 1), .ref (qq6 2), .ref (qq6 3), .ref (qq6 4), .ref (qq6 5)])), ((qq6 1), .inl (cI, 8, .inl (fun _ => 0))), ((qq6 2), .inl (cI, 8, .inl (fun _ => 0))), ((qq6 3), .inl (cI, 8, .inl (fun _ => 0))), ((qq6 4), .inl (cI, 8, .inl (fun _ => 0))), ((qq6 5), .inl (cI, 8, .inl (fun _ => 0))), ((qq6 6), .inr (0, [.int 0, .ref (qq6 7), .ref (qq6 8), .ref (qq6 9)])), ((qq6 7), .inl (cI, 12, .inl (fun _ => 0))), ((qq6 8), .inl (cI, 12, .inl (fun _ => 0))), ((qq6 9), .inl (cI, 12, .inl (fun _ => 0))), (nq7, .inr (3, [.int 0, .int 0, .int 0, .int 0, .int 0, .int (-1), .int 0, .ref (qq8 0), .ref (qq8 6)])), ((qq8 0), .inr (2, [.int 0, .ref (qq8 1), .ref (qq8 2), .ref (qq8 3), .ref (qq8 4), .ref (qq8 5)])), ((qq8 1), .inl (cI, 8, .inl (fun _ => 0))), ((qq8 2), .inl (cI, 8, .inl (fun _ => 0))), ((qq8 3), .inl (cI, 8, .inl (fun _ => 0))), ((qq8 4), .inl (cI, 8, .inl (fun _ => 0))), ((qq8 5), .inl (cI, 8, .inl (fun _ => 0))), ((qq8 6), .inr (0, [.int 0, .ref (qq8 7), .ref (qq8 8), .ref (qq8 9)])), ((qq8 7), .inl (cI, 12, .inl (fun _ => 0))), ((qq8 8), .inl (cI, 12, .inl (fun _ => 0))), ((qq8 9), .inl (cI, 12, .inl (fun _ => 0)))] H := hP
  have hD : va_D A [(o0, .inr (5, [.ref nq1, .ref nq3, .ref nq5, .ref nq7])), (nq1, .inr (4, [.int 0, .ref (qq2 0), .ref (qq2 1)])), ((qq2 0), .inl (cI, 20, .inl (fun _ => 0))), ((qq2 1), .inl (cI, 20, .inl (fun _ => 0))), (nq3, .inr (1, [.int 0, .ref (qq4 0), .ref (qq4 1), .ref (qq4 2), .ref (qq4 3)])), ((qq4 0), .inl (cI, 24, .inl (fun _ => 0))), ((qq4 1), .inl (cI, 24, .inl (fun _ => 0))), ((qq4 2), .inl (cI, 24, .inl (fun _ => 0))), ((qq4 3), .inl (cI, 24, .inl (fun _ => 0))), (nq5, .inr (3, [.int 0, .int 0, .int 0, .int 0, .int 0, .int (-1), .int 0, .ref (qq6 0), .ref (qq6 6)])), ((qq6 0), .inr (2, [.int 0, .ref (qq6 1), .ref (qq6 2), .ref (qq6 3), .ref (qq6 4), .ref (qq6 5)])), ((qq6 1), .inl (cI, 8, .inl (fun _ => 0))), ((qq6 2), .inl (cI, 8, .inl (fun _ => 0))), ((qq6 3), .inl (cI, 8, .inl (fun _ => 0))), ((qq6 4), .inl (cI, 8, .inl (fun _ => 0))), ((qq6 5), .inl (cI, 8, .inl (fun _ => 0))), ((qq6 6), .inr (0, [.int 0, .ref (qq6 7), .ref (qq6 8), .ref (qq6 9)])), ((qq6 7), .inl (cI, 12, .inl (fun _ => 0))), ((qq6 8), .inl (cI, 12, .inl (fun _ => 0))), ((qq6 9), .inl (cI, 12, .inl (fun _ => 0))), (nq7, .inr (3, [.int 0, .int 0, .int 0, .int 0, .int 0, .int (-1), .int 0, .ref (qq8 0), .ref (qq8 6)])), ((qq8 0), .inr (2, [.int 0, .ref (qq8 1), .ref (qq8 2), .ref (qq8 3), .ref (qq8 4), .ref (qq8 5)])), ((qq8 1), .inl (cI, 8, .inl (fun _ => 0))), ((qq8 2), .inl (cI, 8, .inl (fun _ => 0))), ((qq8 3), .inl (cI, 8, .inl (fun _ => 0))), ((qq8 4), .inl (cI, 8, .inl (fun _ => 0))), ((qq8 5), .inl (cI, 8, .inl (fun _ => 0))), ((qq8 6), .inr (0, [.int 0, .ref (qq8 7), .ref (qq8 8), .ref (qq8 9)])), ((qq8 7), .inl (cI, 12, .inl (fun _ => 0))), ((qq8 8), .inl (cI, 12, .inl (fun _ => 0))), ((qq8 9), .inl (cI, 12, .inl (fun _ => 0)))] := hD
  exact retN (fun j => ([nq1, (qq2 0), (qq2 1), nq3, (qq4 0), (qq4 1), (qq4 2), (qq4 3), nq5, (qq6 0), (qq6 1), (qq6 2), (qq6 3), (qq6 4), (qq6 5), (qq6 6), (qq6 7), (qq6 8), (qq6 9), nq7, (qq8 0), (qq8 1), (qq8 2), (qq8 3), (qq8 4), (qq8 5), (qq8 6), (qq8 7), (qq8 8), (qq8 9)] : List Nat).getD j 0) hx hb hr hlocks hS hP hD dX5_init_48 (Nat.le_of_ble_eq_true rfl) (Nat.le_of_ble_eq_true rfl)
