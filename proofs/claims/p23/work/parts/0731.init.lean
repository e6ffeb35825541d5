theorem mX6_init_oi : (.methodLink RX6 1 objectInit : Cond) ∈ wsX6_init := by decide +kernel
theorem mX6_init_oin : (.instanceMethod objectInit : Cond) ∈ wsX6_init := by decide +kernel
theorem mX6_init_oic : (.code objectInit ⟨#[0xb1]⟩ 1 none : Cond) ∈ wsX6_init := by decide +kernel
theorem mX6_init_k7 : (.classLink RX6 7 "[I" : Cond) ∈ wsX6_init := by decide +kernel
theorem mX6_init_f9 : (.fieldLink RX6 9 "StarConsoleLaw$Sim" "dimmers" "[[I" : Cond) ∈ wsX6_init := by decide +kernel
theorem iX6_init_X6 : ∀ w ∈ wsX60, w ∈ wsX6_init := by decide +kernel
theorem mX6_init_f15 : (.fieldLink RX6 15 "StarConsoleLaw$Sim" "stars" "[[I" : Cond) ∈ wsX6_init := by decide +kernel
theorem mX6_init_f18 : (.fieldLink RX6 18 "StarConsoleLaw$Sim" "comets" "[[I" : Cond) ∈ wsX6_init := by decide +kernel
theorem mX6_init_f21 : (.fieldLink RX6 21 "StarConsoleLaw$Sim" "cues" "[[I" : Cond) ∈ wsX6_init := by decide +kernel
theorem mX6_init_f24 : (.fieldLink RX6 24 "StarConsoleLaw$Sim" "line" "I" : Cond) ∈ wsX6_init := by decide +kernel

theorem hX6_init : yX6_init.cls = RX6 ∧ yX6_init.cls ≠ "java/lang/invoke/MethodHandle" ∧ yX6_init.cls ≠ "java/lang/invoke/VarHandle" ∧ (parseMethodDescriptor yX6_init.desc).map (fun d => d.parameters.length) = some 0 := by decide +kernel
set_option maxHeartbeats 4000000 in
set_option maxRecDepth 100000 in
theorem tX6_init (l : Launch) (D : va_G) (cI : ClassId) (cA : ClassId) (z0 : Nat)  : CNr l yX6_init wsX6_init ({ frames := 1, cells := 4, slots := 0, locals := 21 } : Room) D cI cA ([.ref z0] : List Value) [(z0, .inr (6, [.null, .null, .null, .null, .int 0, .int 0, .int 0, .int 0, .int 0, .int 0, .int 0]))] (fun q => [(z0, .inr (6, [.ref (q 0), .ref (q 1), .ref (q 2), .ref (q 3), .int 0, .int 0, .int 0, .int (-1), .int 0, .int 0, .int 0])), ((q 0), .inl (cA, 0, .inr (.inr (.inr (.inr (fun _ => none)))))), ((q 1), .inl (cA, 0, .inr (.inr (.inr (.inr (fun _ => none)))))), ((q 2), .inl (cA, 0, .inr (.inr (.inr (.inr (fun _ => none)))))), ((q 3), .inl (cA, 0, .inr (.inr (.inr (.inr (fun _ => none))))))]) 4 0 := by
  refine entNr (cc := cX6_init) (maxL := 1) (ret := none) (by decide) rfl (Nat.le_of_ble_eq_true rfl) (fun p e s m below meth c A ls hni hkr fx hl => ?_)
  have fx0 := fx
  obtain ⟨hx, hb, hr, hml, hown, hts, hlocks, hk, hP, hD, hA⟩ := fx
  have hown : s.vm.findClass RX6 = some m.cls := hown
  have hS : va_S A s.heap s.heap [] := va_S.rf
  have hP : va_P D vwCl [(z0, .inr (6, [.null, .null, .null, .null, .int 0, .int 0, .int 0, .int 0, .int 0, .int 0, .int 0]))] s.heap := hP
  have hD : va_D A [(z0, .inr (6, [.null, .null, .null, .null, .int 0, .int 0, .int 0, .int 0, .int 0, .int 0, .int 0]))] := hD
  have hl : lv_has ls 1 [(0, .ref z0)] := hl
  obtain ⟨-, -, hin⟩ := hni
  have hin : meth.name = "<init>" := hin.resolve_right (fun q => q rfl)
  refine lv_aload_n hx hb dX6_init_0 rfl (lv_at hl 0 rfl) ?_
  refine W.objInit hx hb hown (hts _ mX6_init_oi) (hts _ mX6_init_oin) (hts _ mX6_init_oic) rfl (by rw [hml]; exact hl.1) rfl dX6_init_1 (Nat.le_of_ble_eq_true rfl) (Nat.le_of_ble_eq_true rfl) ?_
  refine W.eq (g2 := F0 m 4 ls []) rfl ?_
  refine lv_aload_n hx hb dX6_init_4 rfl (lv_at hl 0 rfl) ?_
  refine lv_iconst (v := 0) hx hb dX6_init_5 (by decide) ?_
  refine anewK (N' := 0) hx hb hown (hts _ mX6_init_k7) hkr hP hD hS hA (by decide) rfl (Nat.le_of_ble_eq_true rfl) (Nat.le_of_ble_eq_true rfl) (Nat.le_of_ble_eq_true rfl) dX6_init_6 (fun nq1 H hP hD hS => ?_)
  have hP : va_P D vwCl [(z0, .inr (6, [.null, .null, .null, .null, .int 0, .int 0, .int 0, .int 0, .int 0, .int 0, .int 0])), (nq1, .inl (cA, 0, .inr (.inr (.inr (.inr (fun _ => none))))))] H := hP
  have hD : va_D A [(z0, .inr (6, [.null, .null, .null, .null, .int 0, .int 0, .int 0, .int 0, .int 0, .int 0, .int 0])), (nq1, .inl (cA, 0, .inr (.inr (.inr (.inr (fun _ => none))))))] := hD
  refine va_put (D := D) (ci := 6) (v := .ref nq1) (ty := (.array (.array .int))) (C := RX6) (T := TX6) (N := 11) hx hb hts iX6_init_X6 tyX6 tyX6_ok nmX6 hown hk.1 hP hD hS 0 rfl rfl 0 (by decide) (hts _ mX6_init_f9) (fun _ h9 => h9) rfl (by decide +kernel) rfl rfl (Nat.le_of_ble_eq_true rfl) dX6_init_9 (fun H locs hP hD hS => ?_)
  have hP : va_P D vwCl [(z0, .inr (6, [.ref nq1, .null, .null, .null, .int 0, .int 0, .int 0, .int 0, .int 0, .int 0, .int 0])), (nq1, .inl (cA, 0, .inr (.inr (.inr (.inr (fun _ => none))))))] H := hP
  have hD : va_D A [(z0, .inr (6, [.ref nq1, .null, .null, .null, .int 0, .int 0, .int 0, .int 0, .int 0, .int 0, .int 0])), (nq1, .inl (cA, 0, .inr (.inr (.inr (.inr (fun _ => none))))))] := hD
  refine lv_aload_n hx hb dX6_init_12 rfl (lv_at hl 0 rfl) ?_
  refine lv_iconst (v := 0) hx hb dX6_init_13 (by decide) ?_
  refine anewK (N' := 0) hx hb hown (hts _ mX6_init_k7) hkr hP hD hS hA (by decide) rfl (Nat.le_of_ble_eq_true rfl) (Nat.le_of_ble_eq_true rfl) (Nat.le_of_ble_eq_true rfl) dX6_init_14 (fun nq2 H hP hD hS => ?_)
  have hP : va_P D vwCl [(z0, .inr (6, [.ref nq1, .null, .null, .null, .int 0, .int 0, .int 0, .int 0, .int 0, .int 0, .int 0])), (nq1, .inl (cA, 0, .inr (.inr (.inr (.inr (fun _ => none)))))), (nq2, .inl (cA, 0, .inr (.inr (.inr (.inr (fun _ => none))))))] H := hP
  have hD : va_D A [(z0, .inr (6, [.ref nq1, .null, .null, .null, .int 0, .int 0, .int 0, .int 0, .int 0, .int 0, .int 0])), (nq1, .inl (cA, 0, .inr (.inr (.inr (.inr (fun _ => none)))))), (nq2, .inl (cA, 0, .inr (.inr (.inr (.inr (fun _ => none))))))] := hD
  refine va_put (D := D) (ci := 6) (v := .ref nq2) (ty := (.array (.array .int))) (C := RX6) (T := TX6) (N := 11) hx hb hts iX6_init_X6 tyX6 tyX6_ok nmX6 hown hk.1 hP hD hS 0 rfl rfl 1 (by decide) (hts _ mX6_init_f15) (fun _ h9 => h9) rfl (by decide +kernel) rfl rfl (Nat.le_of_ble_eq_true rfl) dX6_init_17 (fun H locs hP hD hS => ?_)
  have hP : va_P D vwCl [(z0, .inr (6, [.ref nq1, .ref nq2, .null, .null, .int 0, .int 0, .int 0, .int 0, .int 0, .int 0, .int 0])), (nq1, .inl (cA, 0, .inr (.inr (.inr (.inr (fun _ => none)))))), (nq2, .inl (cA, 0, .inr (.inr (.inr (.inr (fun _ => none))))))] H := hP
  have hD : va_D A [(z0, .inr (6, [.ref nq1, .ref nq2, .null, .null, .int 0, .int 0, .int 0, .int 0, .int 0, .int 0, .int 0])), (nq1, .inl (cA, 0, .inr (.inr (.inr (.inr (fun _ => none)))))), (nq2, .inl (cA, 0, .inr (.inr (.inr (.inr (fun _ => none))))))] := hD
  refine lv_aload_n hx hb dX6_init_20 rfl (lv_at hl 0 rfl) ?_
  refine lv_iconst (v := 0) hx hb dX6_init_21 (by decide) ?_
  refine anewK (N' := 0) hx hb hown (hts _ mX6_init_k7) hkr hP hD hS hA (by decide) rfl (Nat.le_of_ble_eq_true rfl) (Nat.le_of_ble_eq_true rfl) (Nat.le_of_ble_eq_true rfl) dX6_init_22 (fun nq3 H hP hD hS => ?_)
  have hP : va_P D vwCl [(z0, .inr (6, [.ref nq1, .ref nq2, .null, .null, .int 0, .int 0, .int 0, .int 0, .int 0, .int 0, .int 0])), (nq1, .inl (cA, 0, .inr (.inr (.inr (.inr (fun _ => none)))))), (nq2, .inl (cA, 0, .inr (.inr (.inr (.inr (fun _ => none)))))), (nq3, .inl (cA, 0, .inr (.inr (.inr (.inr (fun _ => none))))))] H := hP
  have hD : va_D A [(z0, .inr (6, [.ref nq1, .ref nq2, .null, .null, .int 0, .int 0, .int 0, .int 0, .int 0, .int 0, .int 0])), (nq1, .inl (cA, 0, .inr (.inr (.inr (.inr (fun _ => none)))))), (nq2, .inl (cA, 0, .inr (.inr (.inr (.inr (fun _ => none)))))), (nq3, .inl (cA, 0, .inr (.inr (.inr (.inr (fun _ => none))))))] := hD
  refine va_put (D := D) (ci := 6) (v := .ref nq3) (ty := (.array (.array .int))) (C := RX6) (T := TX6) (N := 11) hx hb hts iX6_init_X6 tyX6 tyX6_ok nmX6 hown hk.1 hP hD hS 0 rfl rfl 2 (by decide) (hts _ mX6_init_f18) (fun _ h9 => h9) rfl (by decide +kernel) rfl rfl (Nat.le_of_ble_eq_true rfl) dX6_init_25 (fun H locs hP hD hS => ?_)
  have hP : va_P D vwCl [(z0, .inr (6, [.ref nq1, .ref nq2, .ref nq3, .null, .int 0, .int 0, .int 0, .int 0, .int 0, .int 0, .int 0])), (nq1, .inl (cA, 0, .inr (.inr (.inr (.inr (fun _ => none)))))), (nq2, .inl (cA, 0, .inr (.inr (.inr (.inr (fun _ => none)))))), (nq3, .inl (cA, 0, .inr (.inr (.inr (.inr (fun _ => none))))))] H := hP
  have hD : va_D A [(z0, .inr (6, [.ref nq1, .ref nq2, .ref nq3, .null, .int 0, .int 0, .int 0, .int 0, .int 0, .int 0, .int 0])), (nq1, .inl (cA, 0, .inr (.inr (.inr (.inr (fun _ => none)))))), (nq2, .inl (cA, 0, .inr (.inr (.inr (.inr (fun _ => none)))))), (nq3, .inl (cA, 0, .inr (.inr (.inr (.inr (fun _ => none))))))] := hD
  refine lv_aload_n hx hb dX6_init_28 rfl (lv_at hl 0 rfl) ?_
  refine lv_iconst (v := 0) hx hb dX6_init_29 (by decide) ?_
  refine anewK (N' := 0) hx hb hown (hts _ mX6_init_k7) hkr hP hD hS hA (by decide) rfl (Nat.le_of_ble_eq_true rfl) (Nat.le_of_ble_eq_true rfl) (Nat.le_of_ble_eq_true rfl) dX6_init_30 (fun nq4 H hP hD hS => ?_)
  have hP : va_P D vwCl [(z0, .inr (6, [.ref nq1, .ref nq2, .ref nq3, .null, .int 0, .int 0, .int 0, .int 0, .int 0, .int 0, .int 0])), (nq1, .inl (cA, 0, .inr (.inr (.inr (.inr (fun _ => none)))))), (nq2, .inl (cA, 0, .inr (.inr (.inr (.inr (fun _ => none)))))), (nq3, .inl (cA, 0, .inr (.inr (.inr (.inr (fun _ => none)))))), (nq4, .inl (cA, 0, .inr (.inr (.inr (.inr (fun _ => none))))))] H := hP
  have hD : va_D A [(z0, .inr (6, [.ref nq1, .ref nq2, .ref nq3, .null, .int 0, .int 0, .int 0, .int 0, .int 0, .int 0, .int 0])), (nq1, .inl (cA, 0, .inr (.inr (.inr (.inr (fun _ => none)))))), (nq2, .inl (cA, 0, .inr (.inr (.inr (.inr (fun _ => none)))))), (nq3, .inl (cA, 0, .inr (.inr (.inr (.inr (fun _ => none)))))), (nq4, .inl (cA, 0, .inr (.inr (.inr (.inr (fun _ => none))))))] := hD
  refine va_put (D := D) (ci := 6) (v := .ref nq4) (ty := (.array (.array .int))) (C := RX6) (T := TX6) (N := 11) hx hb hts iX6_init_X6 tyX6 tyX6_ok nmX6 hown hk.1 hP hD hS 0 rfl rfl 3 (by decide) (hts _ mX6_init_f21) (fun _ h9 => h9) rfl (by decide +kernel) rfl rfl (Nat.le_of_ble_eq_true rfl) dX6_init_33 (fun H locs hP hD hS => ?_)
  have hP : va_P D vwCl [(z0, .inr (6, [.ref nq1, .ref nq2, .ref nq3, .ref nq4, .int 0, .int 0, .int 0, .int 0, .int 0, .int 0, .int 0])), (nq1, .inl (cA, 0, .inr (.inr (.inr (.inr (fun _ => none)))))), (nq2, .inl (cA, 0, .inr (.inr (.inr (.inr (fun _ => none)))))), (nq3, .inl (cA, 0, .inr (.inr (.inr (.inr (fun _ => none)))))), (nq4, .inl (cA, 0, .inr (.inr (.inr (.inr (fun _ => none))))))] H := hP
  have hD : va_D A [(z0, .inr (6, [.ref nq1, .ref nq2, .ref nq3, .ref nq4, .int 0, .int 0, .int 0, .int 0, .int 0, .int 0, .int 0])), (nq1, .inl (cA, 0, .inr (.inr (.inr (.inr (fun _ => none)))))), (nq2, .inl (cA, 0, .inr (.inr (.inr (.inr (fun _ => none)))))), (nq3, .inl (cA, 0, .inr (.inr (.inr (.inr (fun _ => none)))))), (nq4, .inl (cA, 0, .inr (.inr (.inr (.inr (fun _ => none))))))] := hD
  refine lv_aload_n hx hb dX6_init_36 rfl (lv_at hl 0 rfl) ?_
  refine lv_iconst (v := (-1)) hx hb dX6_init_37 (by decide) ?_
  refine va_put (D := D) (ci := 6) (v := .int (-1)) (ty := .int) (C := RX6) (T := TX6) (N := 11) hx hb hts iX6_init_X6 tyX6 tyX6_ok nmX6 hown hk.1 hP hD hS 0 rfl rfl 7 (by decide) (hts _ mX6_init_f24) (fun _ h9 => h9) rfl (by decide +kernel) rfl rfl (Nat.le_of_ble_eq_true rfl) dX6_init_38 (fun H locs hP hD hS => ?_)
  have hP : va_P D vwCl [(z0, .inr (6, [.ref nq1, .ref nq2, .ref nq3, .ref nq4, .int 0, .int 0, .int 0, .int (-1), .int 0, .int 0, .int 0])), (nq1, .inl (cA, 0, .inr (.inr (.inr (.inr (fun _ => none)))))), (nq2, .inl (cA, 0, .inr (.inr (.inr (.inr (fun _ => none)))))), (nq3, .inl (cA, 0, .inr (.inr (.inr (.inr (fun _ => none)))))), (nq4, .inl (cA, 0, .inr (.inr (.inr (.inr (fun _ => none))))))] H := hP
  have hD : va_D A [(z0, .inr (6, [.ref nq1, .ref nq2, .ref nq3, .ref nq4, .int 0, .int 0, .int 0, .int (-1), .int 0, .int 0, .int 0])), (nq1, .inl (cA, 0, .inr (.inr (.inr (.inr (fun _ => none)))))), (nq2, .inl (cA, 0, .inr (.inr (.inr (.inr (fun _ => none)))))), (nq3, .inl (cA, 0, .inr (.inr (.inr (.inr (fun _ => none)))))), (nq4, .inl (cA, 0, .inr (.inr (.inr (.inr (fun _ => none))))))] := hD
  exact retN (fun j => ([nq1, nq2, nq3, nq4] : List Nat).getD j 0) hx hb hr hlocks hS hP hD dX6_init_41 (Nat.le_of_ble_eq_true rfl) (Nat.le_of_ble_eq_true rfl)
