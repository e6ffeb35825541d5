theorem mX6_kept_k111 : (.classLink RX6 111 "[I" : Cond) ∈ wsX6_kept := by decide +kernel
theorem mX6_kept_f9 : (.fieldLink RX6 9 "StarConsoleModel" "lamps" "[I" : Cond) ∈ wsX6_kept := by decide +kernel
theorem iX6_kept_X6 : ∀ w ∈ wsX60, w ∈ wsX6_kept := by decide +kernel
theorem mX6_kept_cl1 : (.methodLink RX6 112 ⟨"[I", "clone", "()Ljava/lang/Object;"⟩ : Cond) ∈ wsX6_kept := by decide +kernel
theorem mX6_kept_cl2 : (.sameMethod "[I" "java/lang/Object" "clone" "()Ljava/lang/Object;" : Cond) ∈ wsX6_kept := by decide +kernel
theorem mX6_kept_cl3 : (.native ⟨"java/lang/Object", "clone", "()Ljava/lang/Object;"⟩ : Cond) ∈ wsX6_kept := by decide +kernel
theorem mX6_kept_cl4 : (.instanceMethod ⟨"java/lang/Object", "clone", "()Ljava/lang/Object;"⟩ : Cond) ∈ wsX6_kept := by decide +kernel
theorem mX6_kept_cl5 : (.selects "[I" ⟨"[I", "clone", "()Ljava/lang/Object;"⟩ ⟨"java/lang/Object", "clone", "()Ljava/lang/Object;"⟩ : Cond) ∈ wsX6_kept := by decide +kernel
theorem mX6_kept_f16 : (.fieldLink RX6 16 "StarConsoleModel" "tails" "[I" : Cond) ∈ wsX6_kept := by decide +kernel
theorem mX6_kept_f22 : (.fieldLink RX6 22 "StarConsoleModel" "numbers" "[I" : Cond) ∈ wsX6_kept := by decide +kernel

theorem hX6_kept : yX6_kept.cls = RX6 ∧ yX6_kept.cls ≠ "java/lang/invoke/MethodHandle" ∧ yX6_kept.cls ≠ "java/lang/invoke/VarHandle" ∧ (parseMethodDescriptor yX6_kept.desc).map (fun d => d.parameters.length) = some 0 := by decide +kernel
set_option maxHeartbeats 4000000 in
set_option maxRecDepth 100000 in
theorem tX6_kept (l : Launch) (D : va_G) (cI : ClassId) (cA : ClassId) (m0 m1 m2 m3 m4 m5 nD nT nC : Nat) (th : Int32) (f1 f3 f5 : Nat → Int32)  : CR l yX6_kept wsX6_kept ({ frames := 1, cells := 4, slots := 87, locals := 40 } : Room) D cI cA ([.ref m0] : List Value) [(m0, .inr (6, [.int th, .int (nI nD), .int (nI nT), .int (nI nC), .ref m1, .ref m2, .ref m3, .ref m4, .ref m5])), (m1, .inl (cI, 40, .inl f1)), (m3, .inl (cI, 36, .inl f3)), (m5, .inl (cI, 8, .inl f5))] (fun a q => [(m0, .inr (6, [.int th, .int (nI nD), .int (nI nT), .int (nI nC), .ref m1, .ref m2, .ref m3, .ref m4, .ref m5])), (m1, .inl (cI, 40, .inl f1)), (m3, .inl (cI, 36, .inl f3)), (m5, .inl (cI, 8, .inl f5)), (a, .inl (cA, 3, .inr (.inr (.inr (.inr (va_up (va_up (va_up (fun _ => none) 0 (some (q 0))) 1 (some (q 1))) 2 (some (q 2)))))))), ((q 0), .inl (cI, 40, .inl f1)), ((q 1), .inl (cI, 36, .inl f3)), ((q 2), .inl (cI, 8, .inl f5))]) 4 87 := by
  refine entR (cc := cX6_kept) (maxL := 1) (ret := (some (.array (.array .int)))) (by decide) rfl (Nat.le_of_ble_eq_true rfl) (fun p e s m below meth c A ls hkr fx hl => ?_)
  have fx0 := fx
  obtain ⟨hx, hb, hr, hml, hown, hts, hlocks, hk, hP, hD, hA⟩ := fx
  have hown : s.vm.findClass RX6 = some m.cls := hown
  have hS : va_S A s.heap s.heap [] := va_S.rf
  have hP : va_P D vwCl [(m0, .inr (6, [.int th, .int (nI nD), .int (nI nT), .int (nI nC), .ref m1, .ref m2, .ref m3, .ref m4, .ref m5])), (m1, .inl (cI, 40, .inl f1)), (m3, .inl (cI, 36, .inl f3)), (m5, .inl (cI, 8, .inl f5))] s.heap := hP
  have hD : va_D A [(m0, .inr (6, [.int th, .int (nI nD), .int (nI nT), .int (nI nC), .ref m1, .ref m2, .ref m3, .ref m4, .ref m5])), (m1, .inl (cI, 40, .inl f1)), (m3, .inl (cI, 36, .inl f3)), (m5, .inl (cI, 8, .inl f5))] := hD
  have hl : lv_has ls 1 [(0, .ref m0)] := hl
  refine lv_iconst (v := 3) hx hb dX6_kept_0 (by decide) ?_
  refine anewK (N' := 3) hx hb hown (hts _ mX6_kept_k111) hkr hP hD hS hA (by decide) rfl (Nat.le_of_ble_eq_true rfl) (Nat.le_of_ble_eq_true rfl) (Nat.le_of_ble_eq_true rfl) dX6_kept_1 (fun nq1 H hP hD hS => ?_)
  have hP : va_P D vwCl [(m0, .inr (6, [.int th, .int (nI nD), .int (nI nT), .int (nI nC), .ref m1, .ref m2, .ref m3, .ref m4, .ref m5])), (m1, .inl (cI, 40, .inl f1)), (m3, .inl (cI, 36, .inl f3)), (m5, .inl (cI, 8, .inl f5)), (nq1, .inl (cA, 3, .inr (.inr (.inr (.inr (fun _ => none))))))] H := hP
  have hD : va_D A [(m0, .inr (6, [.int th, .int (nI nD), .int (nI nT), .int (nI nC), .ref m1, .ref m2, .ref m3, .ref m4, .ref m5])), (m1, .inl (cI, 40, .inl f1)), (m3, .inl (cI, 36, .inl f3)), (m5, .inl (cI, 8, .inl f5)), (nq1, .inl (cA, 3, .inr (.inr (.inr (.inr (fun _ => none))))))] := hD
  refine lv_dup hx hb dX6_kept_4 rfl ?_
  refine lv_iconst (v := 0) hx hb dX6_kept_5 (by decide) ?_
  refine lv_aload_n hx hb dX6_kept_6 rfl (lv_at hl 0 rfl) ?_
  refine va_get (D := D) (ci := 6) (v := .ref m1) (C := RX6) (T := TX6) (N := 9) hx hb hts iX6_kept_X6 hown hk.1 hP 0 rfl rfl 4 (by decide) (hts _ mX6_kept_f9) (fun _ h9 => h9) rfl dX6_kept_7 ?_
  refine va_clone hx hb (hml.trans hl.1.symm) hown (hts _ mX6_kept_cl1) (hts _ mX6_kept_cl2) (hts _ mX6_kept_cl3) (hts _ mX6_kept_cl4) (hts _ mX6_kept_cl5) hkr.2.1.2 hk.1 hP hD hS hA 1 0 rfl rfl (clsI hk) fitI (Nat.le_of_ble_eq_true rfl) (Nat.le_of_ble_eq_true rfl) (Nat.le_of_ble_eq_true rfl) (Nat.le_of_ble_eq_true rfl) dX6_kept_10 (fun nq2 H hKn hP hD hS => ?_)
  have hP : va_P D vwCl [(m0, .inr (6, [.int th, .int (nI nD), .int (nI nT), .int (nI nC), .ref m1, .ref m2, .ref m3, .ref m4, .ref m5])), (m1, .inl (cI, 40, .inl f1)), (m3, .inl (cI, 36, .inl f3)), (m5, .inl (cI, 8, .inl f5)), (nq1, .inl (cA, 3, .inr (.inr (.inr (.inr (fun _ => none)))))), (nq2, .inl (cI, 40, .inl f1))] H := hP
  have hD : va_D A [(m0, .inr (6, [.int th, .int (nI nD), .int (nI nT), .int (nI nC), .ref m1, .ref m2, .ref m3, .ref m4, .ref m5])), (m1, .inl (cI, 40, .inl f1)), (m3, .inl (cI, 36, .inl f3)), (m5, .inl (cI, 8, .inl f5)), (nq1, .inl (cA, 3, .inr (.inr (.inr (.inr (fun _ => none)))))), (nq2, .inl (cI, 40, .inl f1))] := hD
  refine va_castA hx hb hown (hts _ mX6_kept_k111) hP 5 rfl (clsI hk) dX6_kept_13 ?_
  refine aastR hx hb hk (kR.rA hkr) hP hD hS 4 5 rfl rfl (by unfold vp_in; decide) dX6_kept_16 (fun H locs hP hD hS => ?_)
  have hP : va_P D vwCl [(m0, .inr (6, [.int th, .int (nI nD), .int (nI nT), .int (nI nC), .ref m1, .ref m2, .ref m3, .ref m4, .ref m5])), (m1, .inl (cI, 40, .inl f1)), (m3, .inl (cI, 36, .inl f3)), (m5, .inl (cI, 8, .inl f5)), (nq1, .inl (cA, 3, .inr (.inr (.inr (.inr (va_up (fun _ => none) 0 (some nq2))))))), (nq2, .inl (cI, 40, .inl f1))] H := hP
  have hD : va_D A [(m0, .inr (6, [.int th, .int (nI nD), .int (nI nT), .int (nI nC), .ref m1, .ref m2, .ref m3, .ref m4, .ref m5])), (m1, .inl (cI, 40, .inl f1)), (m3, .inl (cI, 36, .inl f3)), (m5, .inl (cI, 8, .inl f5)), (nq1, .inl (cA, 3, .inr (.inr (.inr (.inr (va_up (fun _ => none) 0 (some nq2))))))), (nq2, .inl (cI, 40, .inl f1))] := hD
  refine lv_dup hx hb dX6_kept_17 rfl ?_
  refine lv_iconst (v := 1) hx hb dX6_kept_18 (by decide) ?_
  refine lv_aload_n hx hb dX6_kept_19 rfl (lv_at hl 0 rfl) ?_
  refine va_get (D := D) (ci := 6) (v := .ref m3) (C := RX6) (T := TX6) (N := 9) hx hb hts iX6_kept_X6 hown hk.1 hP 0 rfl rfl 6 (by decide) (hts _ mX6_kept_f16) (fun _ h9 => h9) rfl dX6_kept_20 ?_
  refine va_clone hx hb (hml.trans hl.1.symm) hown (hts _ mX6_kept_cl1) (hts _ mX6_kept_cl2) (hts _ mX6_kept_cl3) (hts _ mX6_kept_cl4) (hts _ mX6_kept_cl5) hkr.2.1.2 hk.1 hP hD hS hA 2 0 rfl rfl (clsI hk) fitI (Nat.le_of_ble_eq_true rfl) (Nat.le_of_ble_eq_true rfl) (Nat.le_of_ble_eq_true rfl) (Nat.le_of_ble_eq_true rfl) dX6_kept_23 (fun nq3 H hKn hP hD hS => ?_)
  have hP : va_P D vwCl [(m0, .inr (6, [.int th, .int (nI nD), .int (nI nT), .int (nI nC), .ref m1, .ref m2, .ref m3, .ref m4, .ref m5])), (m1, .inl (cI, 40, .inl f1)), (m3, .inl (cI, 36, .inl f3)), (m5, .inl (cI, 8, .inl f5)), (nq1, .inl (cA, 3, .inr (.inr (.inr (.inr (va_up (fun _ => none) 0 (some nq2))))))), (nq2, .inl (cI, 40, .inl f1)), (nq3, .inl (cI, 36, .inl f3))] H := hP
  have hD : va_D A [(m0, .inr (6, [.int th, .int (nI nD), .int (nI nT), .int (nI nC), .ref m1, .ref m2, .ref m3, .ref m4, .ref m5])), (m1, .inl (cI, 40, .inl f1)), (m3, .inl (cI, 36, .inl f3)), (m5, .inl (cI, 8, .inl f5)), (nq1, .inl (cA, 3, .inr (.inr (.inr (.inr (va_up (fun _ => none) 0 (some nq2))))))), (nq2, .inl (cI, 40, .inl f1)), (nq3, .inl (cI, 36, .inl f3))] := hD
  refine va_castA hx hb hown (hts _ mX6_kept_k111) hP 6 rfl (clsI hk) dX6_kept_26 ?_
  refine aastR hx hb hk (kR.rA hkr) hP hD hS 4 6 rfl rfl (by unfold vp_in; decide) dX6_kept_29 (fun H locs hP hD hS => ?_)
  have hP : va_P D vwCl [(m0, .inr (6, [.int th, .int (nI nD), .int (nI nT), .int (nI nC), .ref m1, .ref m2, .ref m3, .ref m4, .ref m5])), (m1, .inl (cI, 40, .inl f1)), (m3, .inl (cI, 36, .inl f3)), (m5, .inl (cI, 8, .inl f5)), (nq1, .inl (cA, 3, .inr (.inr (.inr (.inr (va_up (va_up (fun _ => none) 0 (some nq2)) 1 (some nq3))))))), (nq2, .inl (cI, 40, .inl f1)), (nq3, .inl (cI, 36, .inl f3))] H := hP
  have hD : va_D A [(m0, .inr (6, [.int th, .int (nI nD), .int (nI nT), .int (nI nC), .ref m1, .ref m2, .ref m3, .ref m4, .ref m5])), (m1, .inl (cI, 40, .inl f1)), (m3, .inl (cI, 36, .inl f3)), (m5, .inl (cI, 8, .inl f5)), (nq1, .inl (cA, 3, .inr (.inr (.inr (.inr (va_up (va_up (fun _ => none) 0 (some nq2)) 1 (some nq3))))))), (nq2, .inl (cI, 40, .inl f1)), (nq3, .inl (cI, 36, .inl f3))] := hD
  refine lv_dup hx hb dX6_kept_30 rfl ?_
  refine lv_iconst (v := 2) hx hb dX6_kept_31 (by decide) ?_
  refine lv_aload_n hx hb dX6_kept_32 rfl (lv_at hl 0 rfl) ?_
  refine va_get (D := D) (ci := 6) (v := .ref m5) (C := RX6) (T := TX6) (N := 9) hx hb hts iX6_kept_X6 hown hk.1 hP 0 rfl rfl 8 (by decide) (hts _ mX6_kept_f22) (fun _ h9 => h9) rfl dX6_kept_33 ?_
  refine va_clone hx hb (hml.trans hl.1.symm) hown (hts _ mX6_kept_cl1) (hts _ mX6_kept_cl2) (hts _ mX6_kept_cl3) (hts _ mX6_kept_cl4) (hts _ mX6_kept_cl5) hkr.2.1.2 hk.1 hP hD hS hA 3 0 rfl rfl (clsI hk) fitI (Nat.le_of_ble_eq_true rfl) (Nat.le_of_ble_eq_true rfl) (Nat.le_of_ble_eq_true rfl) (Nat.le_of_ble_eq_true rfl) dX6_kept_36 (fun nq4 H hKn hP hD hS => ?_)
  have hP : va_P D vwCl [(m0, .inr (6, [.int th, .int (nI nD), .int (nI nT), .int (nI nC), .ref m1, .ref m2, .ref m3, .ref m4, .ref m5])), (m1, .inl (cI, 40, .inl f1)), (m3, .inl (cI, 36, .inl f3)), (m5, .inl (cI, 8, .inl f5)), (nq1, .inl (cA, 3, .inr (.inr (.inr (.inr (va_up (va_up (fun _ => none) 0 (some nq2)) 1 (some nq3))))))), (nq2, .inl (cI, 40, .inl f1)), (nq3, .inl (cI, 36, .inl f3)), (nq4, .inl (cI, 8, .inl f5))] H := hP
  have hD : va_D A [(m0, .inr (6, [.int th, .int (nI nD), .int (nI nT), .int (nI nC), .ref m1, .ref m2, .ref m3, .ref m4, .ref m5])), (m1, .inl (cI, 40, .inl f1)), (m3, .inl (cI, 36, .inl f3)), (m5, .inl (cI, 8, .inl f5)), (nq1, .inl (cA, 3, .inr (.inr (.inr (.inr (va_up (va_up (fun _ => none) 0 (some nq2)) 1 (some nq3))))))), (nq2, .inl (cI, 40, .inl f1)), (nq3, .inl (cI, 36, .inl f3)), (nq4, .inl (cI, 8, .inl f5))] := hD
  refine va_castA hx hb hown (hts _ mX6_kept_k111) hP 7 rfl (clsI hk) dX6_kept_39 ?_
  refine aastR hx hb hk (kR.rA hkr) hP hD hS 4 7 rfl rfl (by unfold vp_in; decide) dX6_kept_42 (fun H locs hP hD hS => ?_)
  have hP : va_P D vwCl [(m0, .inr (6, [.int th, .int (nI nD), .int (nI nT), .int (nI nC), .ref m1, .ref m2, .ref m3, .ref m4, .ref m5])), (m1, .inl (cI, 40, .inl f1)), (m3, .inl (cI, 36, .inl f3)), (m5, .inl (cI, 8, .inl f5)), (nq1, .inl (cA, 3, .inr (.inr (.inr (.inr (va_up (va_up (va_up (fun _ => none) 0 (some nq2)) 1 (some nq3)) 2 (some nq4))))))), (nq2, .inl (cI, 40, .inl f1)), (nq3, .inl (cI, 36, .inl f3)), (nq4, .inl (cI, 8, .inl f5))] H := hP
  have hD : va_D A [(m0, .inr (6, [.int th, .int (nI nD), .int (nI nT), .int (nI nC), .ref m1, .ref m2, .ref m3, .ref m4, .ref m5])), (m1, .inl (cI, 40, .inl f1)), (m3, .inl (cI, 36, .inl f3)), (m5, .inl (cI, 8, .inl f5)), (nq1, .inl (cA, 3, .inr (.inr (.inr (.inr (va_up (va_up (va_up (fun _ => none) 0 (some nq2)) 1 (some nq3)) 2 (some nq4))))))), (nq2, .inl (cI, 40, .inl f1)), (nq3, .inl (cI, 36, .inl f3)), (nq4, .inl (cI, 8, .inl f5))] := hD
  exact retR (fun j => ([nq2, nq3, nq4] : List Nat).getD j 0) hx hb hr hlocks hS hP hD dX6_kept_43 (Nat.le_of_ble_eq_true rfl) (Nat.le_of_ble_eq_true rfl)

theorem mX6_bringBack_f9 : (.fieldLink RX6 9 "StarConsoleModel" "lamps" "[I" : Cond) ∈ wsX6_bringBack := by decide +kernel
theorem iX6_bringBack_X6 : ∀ w ∈ wsX60, w ∈ wsX6_bringBack := by decide +kernel
theorem mX6_bringBack_lac : (.methodLink RX6 40 arraycopyName : Cond) ∈ wsX6_bringBack := by decide +kernel
theorem mX6_bringBack_nac : (.native arraycopyName : Cond) ∈ wsX6_bringBack := by decide +kernel
theorem mX6_bringBack_sac : (.static arraycopyName : Cond) ∈ wsX6_bringBack := by decide +kernel
theorem mX6_bringBack_iSys : (.initialized "java/lang/System" : Cond) ∈ wsX6_bringBack := by decide +kernel
theorem mX6_bringBack_f16 : (.fieldLink RX6 16 "StarConsoleModel" "tails" "[I" : Cond) ∈ wsX6_bringBack := by decide +kernel
theorem mX6_bringBack_f22 : (.fieldLink RX6 22 "StarConsoleModel" "numbers" "[I" : Cond) ∈ wsX6_bringBack := by decide +kernel

theorem hX6_bringBack : yX6_bringBack.cls = RX6 ∧ yX6_bringBack.cls ≠ "java/lang/invoke/MethodHandle" ∧ yX6_bringBack.cls ≠ "java/lang/invoke/VarHandle" ∧ (parseMethodDescriptor yX6_bringBack.desc).map (fun d => d.parameters.length) = some 1 := by decide +kernel
set_option maxHeartbeats 4000000 in
set_option maxRecDepth 100000 in
theorem tX6_bringBack (l : Launch) (D : va_G) (cI : ClassId) (cA : ClassId) (m0 m1 m2 m3 m4 m5 nD nT nC : Nat) (th : Int32) (f1 f3 f5 g1 g3 g5 : Nat → Int32) (ra b0 b1 b2 : Nat)  : CVr l yX6_bringBack wsX6_bringBack ({ frames := 1, cells := 0, slots := 0, locals := 60 } : Room) D cI cA ([.ref m0, .ref ra] : List Value) [(m0, .inr (6, [.int th, .int (nI nD), .int (nI nT), .int (nI nC), .ref m1, .ref m2, .ref m3, .ref m4, .ref m5])), (m1, .inl (cI, 40, .inl f1)), (m3, .inl (cI, 36, .inl f3)), (m5, .inl (cI, 8, .inl f5)), (ra, .inl (cA, 3, .inr (.inr (.inr (.inr (va_up (va_up (va_up (fun _ => none) 0 (some b0)) 1 (some b1)) 2 (some b2))))))), (b0, .inl (cI, 40, .inl g1)), (b1, .inl (cI, 36, .inl g3)), (b2, .inl (cI, 8, .inl g5))] [(m0, .inr (6, [.int th, .int (nI nD), .int (nI nT), .int (nI nC), .ref m1, .ref m2, .ref m3, .ref m4, .ref m5])), (m1, .inl (cI, 40, .inl g1)), (m3, .inl (cI, 36, .inl g3)), (m5, .inl (cI, 8, .inl g5)), (ra, .inl (cA, 3, .inr (.inr (.inr (.inr (va_up (va_up (va_up (fun _ => none) 0 (some b0)) 1 (some b1)) 2 (some b2))))))), (b0, .inl (cI, 40, .inl g1)), (b1, .inl (cI, 36, .inl g3)), (b2, .inl (cI, 8, .inl g5))] := by
  refine entVr (cc := cX6_bringBack) (maxL := 2) (ret := none) (by decide) rfl (Nat.le_of_ble_eq_true rfl) (fun p e s m below meth c A ls hkr fx hl => ?_)
  have fx0 := fx
  obtain ⟨hx, hb, hr, hml, hown, hts, hlocks, hk, hP, hD, hA⟩ := fx
  have hown : s.vm.findClass RX6 = some m.cls := hown
  have hS : va_S A s.heap s.heap [] := va_S.rf
  have hP : va_P D vwCl [(m0, .inr (6, [.int th, .int (nI nD), .int (nI nT), .int (nI nC), .ref m1, .ref m2, .ref m3, .ref m4, .ref m5])), (m1, .inl (cI, 40, .inl f1)), (m3, .inl (cI, 36, .inl f3)), (m5, .inl (cI, 8, .inl f5)), (ra, .inl (cA, 3, .inr (.inr (.inr (.inr (va_up (va_up (va_up (fun _ => none) 0 (some b0)) 1 (some b1)) 2 (some b2))))))), (b0, .inl (cI, 40, .inl g1)), (b1, .inl (cI, 36, .inl g3)), (b2, .inl (cI, 8, .inl g5))] s.heap := hP
  have hD : va_D A [(m0, .inr (6, [.int th, .int (nI nD), .int (nI nT), .int (nI nC), .ref m1, .ref m2, .ref m3, .ref m4, .ref m5])), (m1, .inl (cI, 40, .inl f1)), (m3, .inl (cI, 36, .inl f3)), (m5, .inl (cI, 8, .inl f5)), (ra, .inl (cA, 3, .inr (.inr (.inr (.inr (va_up (va_up (va_up (fun _ => none) 0 (some b0)) 1 (some b1)) 2 (some b2))))))), (b0, .inl (cI, 40, .inl g1)), (b1, .inl (cI, 36, .inl g3)), (b2, .inl (cI, 8, .inl g5))] := hD
  have hl : lv_has ls 2 [(0, .ref m0), (1, .ref ra)] := hl
  refine lv_aload_n hx hb dX6_bringBack_0 rfl (lv_at hl 1 rfl) ?_
  refine lv_iconst (v := 0) hx hb dX6_bringBack_1 (by decide) ?_
  refine aaldR hx hb (kR.arr hkr) hP 4 rfl (by unfold vp_in; decide) dX6_bringBack_2 ?_
  refine top_eq (show _ = Value.ref b0 from rfl) ?_
  refine lv_iconst (v := 0) hx hb dX6_bringBack_3 (by decide) ?_
  refine lv_aload_n hx hb dX6_bringBack_4 rfl (lv_at hl 0 rfl) ?_
  refine va_get (D := D) (ci := 6) (v := .ref m1) (C := RX6) (T := TX6) (N := 9) hx hb hts iX6_bringBack_X6 hown hk.1 hP 0 rfl rfl 4 (by decide) (hts _ mX6_bringBack_f9) (fun _ h9 => h9) rfl dX6_bringBack_5 ?_
  refine lv_iconst (v := 0) hx hb dX6_bringBack_8 (by decide) ?_
  refine lv_aload_n hx hb dX6_bringBack_9 rfl (lv_at hl 0 rfl) ?_
  refine va_get (D := D) (ci := 6) (v := .ref m1) (C := RX6) (T := TX6) (N := 9) hx hb hts iX6_bringBack_X6 hown hk.1 hP 0 rfl rfl 4 (by decide) (hts _ mX6_bringBack_f9) (fun _ h9 => h9) rfl dX6_bringBack_10 ?_
  refine va_alen (v := 40) hx hb hk.1 hP 1 0 rfl rfl rfl dX6_bringBack_13 ?_
  refine va_copyi hx hb (hml.trans hl.1.symm) hown (hts _ mX6_bringBack_lac) (hts _ mX6_bringBack_nac) (hts _ mX6_bringBack_sac) (hts _ mX6_bringBack_iSys) hk.1 hP hD hS 5 1 0 0 rfl rfl rfl rfl rfl (by decide) (by decide) (by decide) (by decide) (by decide) (fun _ _ => rfl) (Nat.le_of_ble_eq_true rfl) (Nat.le_of_ble_eq_true rfl) dX6_bringBack_14 (fun H locs hP hD hS => ?_)
  have hD := va_D.set (p := 1) (a := m1) (e := .inl (cI, 40, .inl g1)) hD rfl
  have hP := ext_P (f' := g1) hP 1 rfl (cpy_all (n := 40) (v := 40) rfl)
  have hP : va_P D vwCl [(m0, .inr (6, [.int th, .int (nI nD), .int (nI nT), .int (nI nC), .ref m1, .ref m2, .ref m3, .ref m4, .ref m5])), (m1, .inl (cI, 40, .inl g1)), (m3, .inl (cI, 36, .inl f3)), (m5, .inl (cI, 8, .inl f5)), (ra, .inl (cA, 3, .inr (.inr (.inr (.inr (va_up (va_up (va_up (fun _ => none) 0 (some b0)) 1 (some b1)) 2 (some b2))))))), (b0, .inl (cI, 40, .inl g1)), (b1, .inl (cI, 36, .inl g3)), (b2, .inl (cI, 8, .inl g5))] H := hP
  have hD : va_D A [(m0, .inr (6, [.int th, .int (nI nD), .int (nI nT), .int (nI nC), .ref m1, .ref m2, .ref m3, .ref m4, .ref m5])), (m1, .inl (cI, 40, .inl g1)), (m3, .inl (cI, 36, .inl f3)), (m5, .inl (cI, 8, .inl f5)), (ra, .inl (cA, 3, .inr (.inr (.inr (.inr (va_up (va_up (va_up (fun _ => none) 0 (some b0)) 1 (some b1)) 2 (some b2))))))), (b0, .inl (cI, 40, .inl g1)), (b1, .inl (cI, 36, .inl g3)), (b2, .inl (cI, 8, .inl g5))] := hD
  refine lv_aload_n hx hb dX6_bringBack_17 rfl (lv_at hl 1 rfl) ?_
  refine lv_iconst (v := 1) hx hb dX6_bringBack_18 (by decide) ?_
  refine aaldR hx hb (kR.arr hkr) hP 4 rfl (by unfold vp_in; decide) dX6_bringBack_19 ?_
  refine top_eq (show _ = Value.ref b1 from rfl) ?_
  refine lv_iconst (v := 0) hx hb dX6_bringBack_20 (by decide) ?_
  refine lv_aload_n hx hb dX6_bringBack_21 rfl (lv_at hl 0 rfl) ?_
  refine va_get (D := D) (ci := 6) (v := .ref m3) (C := RX6) (T := TX6) (N := 9) hx hb hts iX6_bringBack_X6 hown hk.1 hP 0 rfl rfl 6 (by decide) (hts _ mX6_bringBack_f16) (fun _ h9 => h9) rfl dX6_bringBack_22 ?_
  refine lv_iconst (v := 0) hx hb dX6_bringBack_25 (by decide) ?_
  refine lv_aload_n hx hb dX6_bringBack_26 rfl (lv_at hl 0 rfl) ?_
  refine va_get (D := D) (ci := 6) (v := .ref m3) (C := RX6) (T := TX6) (N := 9) hx hb hts iX6_bringBack_X6 hown hk.1 hP 0 rfl rfl 6 (by decide) (hts _ mX6_bringBack_f16) (fun _ h9 => h9) rfl dX6_bringBack_27 ?_
  refine va_alen (v := 36) hx hb hk.1 hP 2 0 rfl rfl rfl dX6_bringBack_30 ?_
  refine va_copyi hx hb (hml.trans hl.1.symm) hown (hts _ mX6_bringBack_lac) (hts _ mX6_bringBack_nac) (hts _ mX6_bringBack_sac) (hts _ mX6_bringBack_iSys) hk.1 hP hD hS 6 2 0 0 rfl rfl rfl rfl rfl (by decide) (by decide) (by decide) (by decide) (by decide) (fun _ _ => rfl) (Nat.le_of_ble_eq_true rfl) (Nat.le_of_ble_eq_true rfl) dX6_bringBack_31 (fun H locs hP hD hS => ?_)
  have hD := va_D.set (p := 2) (a := m3) (e := .inl (cI, 36, .inl g3)) hD rfl
  have hP := ext_P (f' := g3) hP 2 rfl (cpy_all (n := 36) (v := 36) rfl)
  have hP : va_P D vwCl [(m0, .inr (6, [.int th, .int (nI nD), .int (nI nT), .int (nI nC), .ref m1, .ref m2, .ref m3, .ref m4, .ref m5])), (m1, .inl (cI, 40, .inl g1)), (m3, .inl (cI, 36, .inl g3)), (m5, .inl (cI, 8, .inl f5)), (ra, .inl (cA, 3, .inr (.inr (.inr (.inr (va_up (va_up (va_up (fun _ => none) 0 (some b0)) 1 (some b1)) 2 (some b2))))))), (b0, .inl (cI, 40, .inl g1)), (b1, .inl (cI, 36, .inl g3)), (b2, .inl (cI, 8, .inl g5))] H := hP
  have hD : va_D A [(m0, .inr (6, [.int th, .int (nI nD), .int (nI nT), .int (nI nC), .ref m1, .ref m2, .ref m3, .ref m4, .ref m5])), (m1, .inl (cI, 40, .inl g1)), (m3, .inl (cI, 36, .inl g3)), (m5, .inl (cI, 8, .inl f5)), (ra, .inl (cA, 3, .inr (.inr (.inr (.inr (va_up (va_up (va_up (fun _ => none) 0 (some b0)) 1 (some b1)) 2 (some b2))))))), (b0, .inl (cI, 40, .inl g1)), (b1, .inl (cI, 36, .inl g3)), (b2, .inl (cI, 8, .inl g5))] := hD
  refine lv_aload_n hx hb dX6_bringBack_34 rfl (lv_at hl 1 rfl) ?_
  refine lv_iconst (v := 2) hx hb dX6_bringBack_35 (by decide) ?_
  refine aaldR hx hb (kR.arr hkr) hP 4 rfl (by unfold vp_in; decide) dX6_bringBack_36 ?_
  refine top_eq (show _ = Value.ref b2 from rfl) ?_
  refine lv_iconst (v := 0) hx hb dX6_bringBack_37 (by decide) ?_
  refine lv_aload_n hx hb dX6_bringBack_38 rfl (lv_at hl 0 rfl) ?_
  refine va_get (D := D) (ci := 6) (v := .ref m5) (C := RX6) (T := TX6) (N := 9) hx hb hts iX6_bringBack_X6 hown hk.1 hP 0 rfl rfl 8 (by decide) (hts _ mX6_bringBack_f22) (fun _ h9 => h9) rfl dX6_bringBack_39 ?_
  refine lv_iconst (v := 0) hx hb dX6_bringBack_42 (by decide) ?_
  refine lv_aload_n hx hb dX6_bringBack_43 rfl (lv_at hl 0 rfl) ?_
  refine va_get (D := D) (ci := 6) (v := .ref m5) (C := RX6) (T := TX6) (N := 9) hx hb hts iX6_bringBack_X6 hown hk.1 hP 0 rfl rfl 8 (by decide) (hts _ mX6_bringBack_f22) (fun _ h9 => h9) rfl dX6_bringBack_44 ?_
  refine va_alen (v := 8) hx hb hk.1 hP 3 0 rfl rfl rfl dX6_bringBack_47 ?_
  refine va_copyi hx hb (hml.trans hl.1.symm) hown (hts _ mX6_bringBack_lac) (hts _ mX6_bringBack_nac) (hts _ mX6_bringBack_sac) (hts _ mX6_bringBack_iSys) hk.1 hP hD hS 7 3 0 0 rfl rfl rfl rfl rfl (by decide) (by decide) (by decide) (by decide) (by decide) (fun _ _ => rfl) (Nat.le_of_ble_eq_true rfl) (Nat.le_of_ble_eq_true rfl) dX6_bringBack_48 (fun H locs hP hD hS => ?_)
  have hD := va_D.set (p := 3) (a := m5) (e := .inl (cI, 8, .inl g5)) hD rfl
  have hP := ext_P (f' := g5) hP 3 rfl (cpy_all (n := 8) (v := 8) rfl)
  have hP : va_P D vwCl [(m0, .inr (6, [.int th, .int (nI nD), .int (nI nT), .int (nI nC), .ref m1, .ref m2, .ref m3, .ref m4, .ref m5])), (m1, .inl (cI, 40, .inl g1)), (m3, .inl (cI, 36, .inl g3)), (m5, .inl (cI, 8, .inl g5)), (ra, .inl (cA, 3, .inr (.inr (.inr (.inr (va_up (va_up (va_up (fun _ => none) 0 (some b0)) 1 (some b1)) 2 (some b2))))))), (b0, .inl (cI, 40, .inl g1)), (b1, .inl (cI, 36, .inl g3)), (b2, .inl (cI, 8, .inl g5))] H := hP
  have hD : va_D A [(m0, .inr (6, [.int th, .int (nI nD), .int (nI nT), .int (nI nC), .ref m1, .ref m2, .ref m3, .ref m4, .ref m5])), (m1, .inl (cI, 40, .inl g1)), (m3, .inl (cI, 36, .inl g3)), (m5, .inl (cI, 8, .inl g5)), (ra, .inl (cA, 3, .inr (.inr (.inr (.inr (va_up (va_up (va_up (fun _ => none) 0 (some b0)) 1 (some b1)) 2 (some b2))))))), (b0, .inl (cI, 40, .inl g1)), (b1, .inl (cI, 36, .inl g3)), (b2, .inl (cI, 8, .inl g5))] := hD
  exact retV hx hb hr hlocks hS hP hD dX6_bringBack_51
