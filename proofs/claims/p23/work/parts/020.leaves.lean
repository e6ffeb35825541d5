theorem hJ9_floorMod_7cf53 : yJ9_floorMod_7cf53.cls = RJ9 ∧ yJ9_floorMod_7cf53.cls ≠ "java/lang/invoke/MethodHandle" ∧ yJ9_floorMod_7cf53.cls ≠ "java/lang/invoke/VarHandle" ∧ (parseMethodDescriptor yJ9_floorMod_7cf53.desc).map (fun d => d.parameters.length) = some 2 := by decide +kernel
set_option maxHeartbeats 4000000 in
set_option maxRecDepth 100000 in
theorem tJ9_floorMod_7cf53 (l : Launch) (D : va_G) (cI : ClassId) (x y : Int32) (hy : ¬ y = 0) : CI l yJ9_floorMod_7cf53 wsJ9_floorMod_7cf53 ({ frames := 0, cells := 0, slots := 0, locals := 0 } : Room) D cI ([.int x, .int y] : List Value) [] (fmod x y) [] := by
  refine entIF (cc := cJ9_floorMod_7cf53) (maxL := 3) (ret := (some .int)) (by decide +kernel) rfl (Nat.le_of_ble_eq_true rfl) (fun p e s m below meth c A ls fx hl => ?_)
  obtain ⟨hx, hb, hr, hml, hown, hts, hlocks, hk, hP, hD, hA⟩ := fx
  have hown : s.vm.findClass RJ9 = some m.cls := hown
  have hS : va_S A s.heap s.heap [] := va_S.rf
  have hP : va_P D vwCl [] s.heap := hP
  have hD : va_D A [] := hD
  have hl : lv_has ls 3 [(0, .int x), (1, .int y)] := hl
  refine lv_iload_n hx hb dJ9_floorMod_7cf53_0 rfl (lv_at hl 0 rfl) ?_
  refine lv_iload_n hx hb dJ9_floorMod_7cf53_1 rfl (lv_at hl 1 rfl) ?_
  refine lv_irem hx hb dJ9_floorMod_7cf53_2 hy ?_
  refine top_int (show _ = irm x y from rfl) ?_
  refine lv_istore_n (lv' := [(2, .int (irm x y)), (0, .int x), (1, .int y)]) hx hb dJ9_floorMod_7cf53_3 rfl hl (by decide) rfl (fun ls hl => ?_)
  refine lv_iload_n hx hb dJ9_floorMod_7cf53_4 rfl (lv_at hl 1 rfl) ?_
  refine lv_iload_n hx hb dJ9_floorMod_7cf53_5 rfl (lv_at hl 2 rfl) ?_
  refine lv_ixor hx hb dJ9_floorMod_7cf53_6 ?_
  refine lv_if_ge (tgt := 18) hx hb dJ9_floorMod_7cf53_7 (by decide) (fun c7 => ?_) (fun c7 => ?_)
  · refine lv_iload_n hx hb dJ9_floorMod_7cf53_18 rfl (lv_at hl 0 rfl) ?_
    exact retI hx hb hr hlocks hS hP hD dJ9_floorMod_7cf53_19 (by rw [fmod, if_pos c7]) rfl
  · refine lv_iload_n hx hb dJ9_floorMod_7cf53_10 rfl (lv_at hl 0 rfl) ?_
    refine lv_if_eq (tgt := 18) hx hb dJ9_floorMod_7cf53_11 (by decide) (fun c11 => ?_) (fun c11 => ?_)
    · refine lv_iload_n hx hb dJ9_floorMod_7cf53_18 rfl (lv_at hl 0 rfl) ?_
      exact retI hx hb hr hlocks hS hP hD dJ9_floorMod_7cf53_19 (by rw [fmod, if_neg c7, if_pos c11]) rfl
    · refine lv_iload_n hx hb dJ9_floorMod_7cf53_14 rfl (lv_at hl 0 rfl) ?_
      refine lv_iload_n hx hb dJ9_floorMod_7cf53_15 rfl (lv_at hl 2 rfl) ?_
      refine lv_iadd hx hb dJ9_floorMod_7cf53_16 ?_
      exact retI hx hb hr hlocks hS hP hD dJ9_floorMod_7cf53_17 (by rw [fmod, if_neg c7, if_neg c11]) rfl


theorem hX5_turned : yX5_turned.cls = RX5 ∧ yX5_turned.cls ≠ "java/lang/invoke/MethodHandle" ∧ yX5_turned.cls ≠ "java/lang/invoke/VarHandle" ∧ (parseMethodDescriptor yX5_turned.desc).map (fun d => d.parameters.length) = some 2 := by decide +kernel
set_option maxHeartbeats 4000000 in
set_option maxRecDepth 100000 in
theorem tX5_turned (l : Launch) (D : va_G) (cI : ClassId) (a b : Int32)  : CI l yX5_turned wsX5_turned ({ frames := 1, cells := 0, slots := 0, locals := 22 } : Room) D cI ([.int a, .int b] : List Value) [] (tnd a b) [] := by
  refine entI (cc := cX5_turned) (maxL := 2) (ret := (some .int)) (by decide) rfl (Nat.le_of_ble_eq_true rfl) (fun p e s m below meth c A ls fx hl => ?_)
  obtain ⟨hx, hb, hr, hml, hown, hts, hlocks, hk, hP, hD, hA⟩ := fx
  have hown : s.vm.findClass RX5 = some m.cls := hown
  have hS : va_S A s.heap s.heap [] := va_S.rf
  have hP : va_P D vwCl [] s.heap := hP
  have hD : va_D A [] := hD
  have hl : lv_has ls 2 [(0, .int a), (1, .int b)] := hl
  refine lv_iload_n hx hb dX5_turned_0 rfl (lv_at hl 0 rfl) ?_
  refine lv_iload_n hx hb dX5_turned_1 rfl (lv_at hl 1 rfl) ?_
  refine lv_iadd hx hb dX5_turned_2 ?_
  refine lv_sipush (v := 360) hx hb dX5_turned_3 (by decide) ?_
  refine frI (wc := []) (wc' := []) (w' := []) hP hD hS hA [] [] [] rfl rfl rfl rfl rfl (va_runS (As := [.int (a + b), .int 360]) (rest := []) ⟨hx, hb, hml, hown, hts⟩ (tJ9_floorMod_7cf53 l D cI (a + b) 360 (by decide) _) (va_cwS 2 hts gX5_turned_J9_floorMod_7cf53 rfl rfl rfl hJ9_floorMod_7cf53.2 ⟨Nat.le_of_ble_eq_true rfl, Nat.le_of_ble_eq_true rfl⟩) (preS_of hk hP hD [] rfl rfl) rfl rfl hl.1 rfl (lv_room (Nat.le_of_ble_eq_true rfl)) dX5_turned_6 ⟨Nat.le_of_ble_eq_true rfl, Nat.le_of_ble_eq_true rfl⟩) (fun H locs hP hD hS => ?_)
  exact retI hx hb hr hlocks hS hP hD dX5_turned_9 (rfl) rfl


theorem hX5_within : yX5_within.cls = RX5 ∧ yX5_within.cls ≠ "java/lang/invoke/MethodHandle" ∧ yX5_within.cls ≠ "java/lang/invoke/VarHandle" ∧ (parseMethodDescriptor yX5_within.desc).map (fun d => d.parameters.length) = some 3 := by decide +kernel
set_option maxHeartbeats 4000000 in
set_option maxRecDepth 100000 in
theorem tX5_within (l : Launch) (D : va_G) (cI : ClassId) (x lo hi : Int32)  : CI l yX5_within wsX5_within ({ frames := 0, cells := 0, slots := 0, locals := 0 } : Room) D cI ([.int x, .int lo, .int hi] : List Value) [] (wiI x lo hi) [] := by
  refine entI (cc := cX5_within) (maxL := 3) (ret := (some .boolean)) (by decide) rfl (Nat.le_of_ble_eq_true rfl) (fun p e s m below meth c A ls fx hl => ?_)
  obtain ⟨hx, hb, hr, hml, hown, hts, hlocks, hk, hP, hD, hA⟩ := fx
  have hown : s.vm.findClass RX5 = some m.cls := hown
  have hS : va_S A s.heap s.heap [] := va_S.rf
  have hP : va_P D vwCl [] s.heap := hP
  have hD : va_D A [] := hD
  have hl : lv_has ls 3 [(0, .int x), (1, .int lo), (2, .int hi)] := hl
  refine lv_iload_n hx hb dX5_within_0 rfl (lv_at hl 0 rfl) ?_
  refine lv_iload_n hx hb dX5_within_1 rfl (lv_at hl 1 rfl) ?_
  refine lv_icmp_lt (tgt := 14) hx hb dX5_within_2 (by decide) (fun c2 => ?_) (fun c2 => ?_)
  · refine lv_iconst (v := 0) hx hb dX5_within_14 (by decide) ?_
    exact retI hx hb hr hlocks hS hP hD dX5_within_15 (by rw [wiI, if_pos c2]) rfl
  · refine lv_iload_n hx hb dX5_within_5 rfl (lv_at hl 0 rfl) ?_
    refine lv_iload_n hx hb dX5_within_6 rfl (lv_at hl 2 rfl) ?_
    refine lv_icmp_gt (tgt := 14) hx hb dX5_within_7 (by decide) (fun c7 => ?_) (fun c7 => ?_)
    · refine lv_iconst (v := 0) hx hb dX5_within_14 (by decide) ?_
      exact retI hx hb hr hlocks hS hP hD dX5_within_15 (by rw [wiI, if_neg c2, if_pos c7]) rfl
    · refine lv_iconst (v := 1) hx hb dX5_within_10 (by decide) ?_
      refine lv_goto (tgt := 15) hx hb dX5_within_11 (by decide) ?_
      exact retI hx hb hr hlocks hS hP hD dX5_within_15 (by rw [wiI, if_neg c2, if_neg c7]) rfl

theorem mX0_has_f21 : (.fieldLink RX0 21 "StarConsole$Comets" "size" "I" : Cond) ∈ wsX0_has := by decide +kernel
theorem iX0_has_X0 : ∀ w ∈ wsX00, w ∈ wsX0_has := by decide +kernel
theorem hX0_has : yX0_has.cls = RX0 ∧ yX0_has.cls ≠ "java/lang/invoke/MethodHandle" ∧ yX0_has.cls ≠ "java/lang/invoke/VarHandle" ∧ (parseMethodDescriptor yX0_has.desc).map (fun d => d.parameters.length) = some 1 := by decide +kernel
set_option maxHeartbeats 4000000 in
set_option maxRecDepth 100000 in
theorem tX0_has (l : Launch) (D : va_G) (cI : ClassId) (k0 k1 k2 k3 n : Nat) (i : Int32) (hn : n ≤ 12) : CI l yX0_has wsX0_has ({ frames := 0, cells := 0, slots := 0, locals := 0 } : Room) D cI ([.ref k0, .int i] : List Value) [(k0, .inr (0, [.int (nI n), .ref k1, .ref k2, .ref k3]))] (hasI n i) [(k0, .inr (0, [.int (nI n), .ref k1, .ref k2, .ref k3]))] := by
  refine entI (cc := cX0_has) (maxL := 2) (ret := (some .boolean)) (by decide) rfl (Nat.le_of_ble_eq_true rfl) (fun p e s m below meth c A ls fx hl => ?_)
  obtain ⟨hx, hb, hr, hml, hown, hts, hlocks, hk, hP, hD, hA⟩ := fx
  have hown : s.vm.findClass RX0 = some m.cls := hown
  have hS : va_S A s.heap s.heap [] := va_S.rf
  have hP : va_P D vwCl [(k0, .inr (0, [.int (nI n), .ref k1, .ref k2, .ref k3]))] s.heap := hP
  have hD : va_D A [(k0, .inr (0, [.int (nI n), .ref k1, .ref k2, .ref k3]))] := hD
  have hl : lv_has ls 2 [(0, .ref k0), (1, .int i)] := hl
  refine lv_iload_n hx hb dX0_has_0 rfl (lv_at hl 1 rfl) ?_
  refine lv_if_lt (tgt := 16) hx hb dX0_has_1 (by decide) (fun c1 => ?_) (fun c1 => ?_)
  · refine lv_iconst (v := 0) hx hb dX0_has_16 (by decide) ?_
    exact retI hx hb hr hlocks hS hP hD dX0_has_17 (by rw [hasI, if_pos c1]) rfl
  · refine lv_iload_n hx hb dX0_has_4 rfl (lv_at hl 1 rfl) ?_
    refine lv_aload_n hx hb dX0_has_5 rfl (lv_at hl 0 rfl) ?_
    refine va_get (D := D) (ci := 0) (v := .int (nI n)) (C := RX0) (T := TX0) (N := 4) hx hb hts iX0_has_X0 hown hk.1 hP 0 rfl rfl 0 (by decide) (hts _ mX0_has_f21) (fun _ h9 => h9) rfl dX0_has_6 ?_
    refine lv_icmp_ge (tgt := 16) hx hb dX0_has_9 (by decide) (fun c9 => ?_) (fun c9 => ?_)
    · refine lv_iconst (v := 0) hx hb dX0_has_16 (by decide) ?_
      exact retI hx hb hr hlocks hS hP hD dX0_has_17 (by rw [hasI, if_neg c1, if_pos c9]) rfl
    · refine lv_iconst (v := 1) hx hb dX0_has_12 (by decide) ?_
      refine lv_goto (tgt := 17) hx hb dX0_has_13 (by decide) ?_
      exact retI hx hb hr hlocks hS hP hD dX0_has_17 (by rw [hasI, if_neg c1, if_neg c9]) rfl

theorem mX1_has_f24 : (.fieldLink RX1 24 "StarConsole$Cues" "size" "I" : Cond) ∈ wsX1_has := by decide +kernel
theorem iX1_has_X1 : ∀ w ∈ wsX10, w ∈ wsX1_has := by decide +kernel
theorem hX1_has : yX1_has.cls = RX1 ∧ yX1_has.cls ≠ "java/lang/invoke/MethodHandle" ∧ yX1_has.cls ≠ "java/lang/invoke/VarHandle" ∧ (parseMethodDescriptor yX1_has.desc).map (fun d => d.parameters.length) = some 1 := by decide +kernel
set_option maxHeartbeats 4000000 in
set_option maxRecDepth 100000 in
theorem tX1_has (l : Launch) (D : va_G) (cI : ClassId) (u0 u1 u2 u3 u4 n : Nat) (i : Int32) (hn : n ≤ 24) : CI l yX1_has wsX1_has ({ frames := 0, cells := 0, slots := 0, locals := 0 } : Room) D cI ([.ref u0, .int i] : List Value) [(u0, .inr (1, [.int (nI n), .ref u1, .ref u2, .ref u3, .ref u4]))] (hasI n i) [(u0, .inr (1, [.int (nI n), .ref u1, .ref u2, .ref u3, .ref u4]))] := by
  refine entI (cc := cX1_has) (maxL := 2) (ret := (some .boolean)) (by decide) rfl (Nat.le_of_ble_eq_true rfl) (fun p e s m below meth c A ls fx hl => ?_)
  obtain ⟨hx, hb, hr, hml, hown, hts, hlocks, hk, hP, hD, hA⟩ := fx
  have hown : s.vm.findClass RX1 = some m.cls := hown
  have hS : va_S A s.heap s.heap [] := va_S.rf
  have hP : va_P D vwCl [(u0, .inr (1, [.int (nI n), .ref u1, .ref u2, .ref u3, .ref u4]))] s.heap := hP
  have hD : va_D A [(u0, .inr (1, [.int (nI n), .ref u1, .ref u2, .ref u3, .ref u4]))] := hD
  have hl : lv_has ls 2 [(0, .ref u0), (1, .int i)] := hl
  refine lv_iload_n hx hb dX1_has_0 rfl (lv_at hl 1 rfl) ?_
  refine lv_if_lt (tgt := 16) hx hb dX1_has_1 (by decide) (fun c1 => ?_) (fun c1 => ?_)
  · refine lv_iconst (v := 0) hx hb dX1_has_16 (by decide) ?_
    exact retI hx hb hr hlocks hS hP hD dX1_has_17 (by rw [hasI, if_pos c1]) rfl
  · refine lv_iload_n hx hb dX1_has_4 rfl (lv_at hl 1 rfl) ?_
    refine lv_aload_n hx hb dX1_has_5 rfl (lv_at hl 0 rfl) ?_
    refine va_get (D := D) (ci := 1) (v := .int (nI n)) (C := RX1) (T := TX1) (N := 5) hx hb hts iX1_has_X1 hown hk.1 hP 0 rfl rfl 0 (by decide) (hts _ mX1_has_f24) (fun _ h9 => h9) rfl dX1_has_6 ?_
    refine lv_icmp_ge (tgt := 16) hx hb dX1_has_9 (by decide) (fun c9 => ?_) (fun c9 => ?_)
    · refine lv_iconst (v := 0) hx hb dX1_has_16 (by decide) ?_
      exact retI hx hb hr hlocks hS hP hD dX1_has_17 (by rw [hasI, if_neg c1, if_pos c9]) rfl
    · refine lv_iconst (v := 1) hx hb dX1_has_12 (by decide) ?_
      refine lv_goto (tgt := 17) hx hb dX1_has_13 (by decide) ?_
      exact retI hx hb hr hlocks hS hP hD dX1_has_17 (by rw [hasI, if_neg c1, if_neg c9]) rfl

theorem mX2_has_f27 : (.fieldLink RX2 27 "StarConsole$Dimmers" "size" "I" : Cond) ∈ wsX2_has := by decide +kernel
theorem iX2_has_X2 : ∀ w ∈ wsX20, w ∈ wsX2_has := by decide +kernel
theorem hX2_has : yX2_has.cls = RX2 ∧ yX2_has.cls ≠ "java/lang/invoke/MethodHandle" ∧ yX2_has.cls ≠ "java/lang/invoke/VarHandle" ∧ (parseMethodDescriptor yX2_has.desc).map (fun d => d.parameters.length) = some 1 := by decide +kernel
set_option maxHeartbeats 4000000 in
set_option maxRecDepth 100000 in
theorem tX2_has (l : Launch) (D : va_G) (cI : ClassId) (d0 d1 d2 d3 d4 d5 n : Nat) (i : Int32) (hn : n ≤ 8) : CI l yX2_has wsX2_has ({ frames := 0, cells := 0, slots := 0, locals := 0 } : Room) D cI ([.ref d0, .int i] : List Value) [(d0, .inr (2, [.int (nI n), .ref d1, .ref d2, .ref d3, .ref d4, .ref d5]))] (hasI n i) [(d0, .inr (2, [.int (nI n), .ref d1, .ref d2, .ref d3, .ref d4, .ref d5]))] := by
  refine entI (cc := cX2_has) (maxL := 2) (ret := (some .boolean)) (by decide) rfl (Nat.le_of_ble_eq_true rfl) (fun p e s m below meth c A ls fx hl => ?_)
  obtain ⟨hx, hb, hr, hml, hown, hts, hlocks, hk, hP, hD, hA⟩ := fx
  have hown : s.vm.findClass RX2 = some m.cls := hown
  have hS : va_S A s.heap s.heap [] := va_S.rf
  have hP : va_P D vwCl [(d0, .inr (2, [.int (nI n), .ref d1, .ref d2, .ref d3, .ref d4, .ref d5]))] s.heap := hP
  have hD : va_D A [(d0, .inr (2, [.int (nI n), .ref d1, .ref d2, .ref d3, .ref d4, .ref d5]))] := hD
  have hl : lv_has ls 2 [(0, .ref d0), (1, .int i)] := hl
  refine lv_iload_n hx hb dX2_has_0 rfl (lv_at hl 1 rfl) ?_
  refine lv_if_lt (tgt := 16) hx hb dX2_has_1 (by decide) (fun c1 => ?_) (fun c1 => ?_)
  · refine lv_iconst (v := 0) hx hb dX2_has_16 (by decide) ?_
    exact retI hx hb hr hlocks hS hP hD dX2_has_17 (by rw [hasI, if_pos c1]) rfl
  · refine lv_iload_n hx hb dX2_has_4 rfl (lv_at hl 1 rfl) ?_
    refine lv_aload_n hx hb dX2_has_5 rfl (lv_at hl 0 rfl) ?_
    refine va_get (D := D) (ci := 2) (v := .int (nI n)) (C := RX2) (T := TX2) (N := 6) hx hb hts iX2_has_X2 hown hk.1 hP 0 rfl rfl 0 (by decide) (hts _ mX2_has_f27) (fun _ h9 => h9) rfl dX2_has_6 ?_
    refine lv_icmp_ge (tgt := 16) hx hb dX2_has_9 (by decide) (fun c9 => ?_) (fun c9 => ?_)
    · refine lv_iconst (v := 0) hx hb dX2_has_16 (by decide) ?_
      exact retI hx hb hr hlocks hS hP hD dX2_has_17 (by rw [hasI, if_neg c1, if_pos c9]) rfl
    · refine lv_iconst (v := 1) hx hb dX2_has_12 (by decide) ?_
      refine lv_goto (tgt := 17) hx hb dX2_has_13 (by decide) ?_
      exact retI hx hb hr hlocks hS hP hD dX2_has_17 (by rw [hasI, if_neg c1, if_neg c9]) rfl

theorem mX4_has_f18 : (.fieldLink RX4 18 "StarConsole$Stars" "size" "I" : Cond) ∈ wsX4_has := by decide +kernel
theorem iX4_has_X4 : ∀ w ∈ wsX40, w ∈ wsX4_has := by decide +kernel
theorem hX4_has : yX4_has.cls = RX4 ∧ yX4_has.cls ≠ "java/lang/invoke/MethodHandle" ∧ yX4_has.cls ≠ "java/lang/invoke/VarHandle" ∧ (parseMethodDescriptor yX4_has.desc).map (fun d => d.parameters.length) = some 1 := by decide +kernel
set_option maxHeartbeats 4000000 in
set_option maxRecDepth 100000 in
theorem tX4_has (l : Launch) (D : va_G) (cI : ClassId) (t0 t1 t2 n : Nat) (i : Int32) (hn : n ≤ 20) : CI l yX4_has wsX4_has ({ frames := 0, cells := 0, slots := 0, locals := 0 } : Room) D cI ([.ref t0, .int i] : List Value) [(t0, .inr (4, [.int (nI n), .ref t1, .ref t2]))] (hasI n i) [(t0, .inr (4, [.int (nI n), .ref t1, .ref t2]))] := by
  refine entI (cc := cX4_has) (maxL := 2) (ret := (some .boolean)) (by decide) rfl (Nat.le_of_ble_eq_true rfl) (fun p e s m below meth c A ls fx hl => ?_)
  obtain ⟨hx, hb, hr, hml, hown, hts, hlocks, hk, hP, hD, hA⟩ := fx
  have hown : s.vm.findClass RX4 = some m.cls := hown
  have hS : va_S A s.heap s.heap [] := va_S.rf
  have hP : va_P D vwCl [(t0, .inr (4, [.int (nI n), .ref t1, .ref t2]))] s.heap := hP
  have hD : va_D A [(t0, .inr (4, [.int (nI n), .ref t1, .ref t2]))] := hD
  have hl : lv_has ls 2 [(0, .ref t0), (1, .int i)] := hl
  refine lv_iload_n hx hb dX4_has_0 rfl (lv_at hl 1 rfl) ?_
  refine lv_if_lt (tgt := 16) hx hb dX4_has_1 (by decide) (fun c1 => ?_) (fun c1 => ?_)
  · refine lv_iconst (v := 0) hx hb dX4_has_16 (by decide) ?_
    exact retI hx hb hr hlocks hS hP hD dX4_has_17 (by rw [hasI, if_pos c1]) rfl
  · refine lv_iload_n hx hb dX4_has_4 rfl (lv_at hl 1 rfl) ?_
    refine lv_aload_n hx hb dX4_has_5 rfl (lv_at hl 0 rfl) ?_
    refine va_get (D := D) (ci := 4) (v := .int (nI n)) (C := RX4) (T := TX4) (N := 3) hx hb hts iX4_has_X4 hown hk.1 hP 0 rfl rfl 0 (by decide) (hts _ mX4_has_f18) (fun _ h9 => h9) rfl dX4_has_6 ?_
    refine lv_icmp_ge (tgt := 16) hx hb dX4_has_9 (by decide) (fun c9 => ?_) (fun c9 => ?_)
    · refine lv_iconst (v := 0) hx hb dX4_has_16 (by decide) ?_
      exact retI hx hb hr hlocks hS hP hD dX4_has_17 (by rw [hasI, if_neg c1, if_pos c9]) rfl
    · refine lv_iconst (v := 1) hx hb dX4_has_12 (by decide) ?_
      refine lv_goto (tgt := 17) hx hb dX4_has_13 (by decide) ?_
      exact retI hx hb hr hlocks hS hP hD dX4_has_17 (by rw [hasI, if_neg c1, if_neg c9]) rfl

theorem mX0_addIfRoom_f21 : (.fieldLink RX0 21 "StarConsole$Comets" "size" "I" : Cond) ∈ wsX0_addIfRoom := by decide +kernel
theorem iX0_addIfRoom_X0 : ∀ w ∈ wsX00, w ∈ wsX0_addIfRoom := by decide +kernel
theorem mX0_addIfRoom_f9 : (.fieldLink RX0 9 "StarConsole$Comets" "angle" "[I" : Cond) ∈ wsX0_addIfRoom := by decide +kernel
theorem mX0_addIfRoom_f15 : (.fieldLink RX0 15 "StarConsole$Comets" "speed" "[I" : Cond) ∈ wsX0_addIfRoom := by decide +kernel
theorem mX0_addIfRoom_f18 : (.fieldLink RX0 18 "StarConsole$Comets" "left" "[I" : Cond) ∈ wsX0_addIfRoom := by decide +kernel
theorem hX0_addIfRoom : yX0_addIfRoom.cls = RX0 ∧ yX0_addIfRoom.cls ≠ "java/lang/invoke/MethodHandle" ∧ yX0_addIfRoom.cls ≠ "java/lang/invoke/VarHandle" ∧ (parseMethodDescriptor yX0_addIfRoom.desc).map (fun d => d.parameters.length) = some 2 := by decide +kernel
set_option maxHeartbeats 4000000 in
set_option maxRecDepth 100000 in
theorem tX0_addIfRoom (l : Launch) (D : va_G) (cI : ClassId) (k0 k1 k2 k3 n : Nat) (f : Mx) (a b : Int32) (hn : n ≤ 12) : CV l yX0_addIfRoom wsX0_addIfRoom ({ frames := 0, cells := 0, slots := 0, locals := 0 } : Room) D cI ([.ref k0, .int a, .int b] : List Value) [(k0, .inr (0, [.int (nI n), .ref k1, .ref k2, .ref k3])), (k1, .inl (cI, 12, .inl (f 0))), (k2, .inl (cI, 12, .inl (f 1))), (k3, .inl (cI, 12, .inl (f 2)))] [(k0, .inr (0, [.int (nI (cN n)), .ref k1, .ref k2, .ref k3])), (k1, .inl (cI, 12, .inl ((cAdd n f a b) 0))), (k2, .inl (cI, 12, .inl ((cAdd n f a b) 1))), (k3, .inl (cI, 12, .inl ((cAdd n f a b) 2)))] := by
  refine entV (cc := cX0_addIfRoom) (maxL := 4) (ret := none) (by decide) rfl (Nat.le_of_ble_eq_true rfl) (fun p e s m below meth c A ls fx hl => ?_)
  obtain ⟨hx, hb, hr, hml, hown, hts, hlocks, hk, hP, hD, hA⟩ := fx
  have hown : s.vm.findClass RX0 = some m.cls := hown
  have hS : va_S A s.heap s.heap [] := va_S.rf
  have hP : va_P D vwCl [(k0, .inr (0, [.int (nI n), .ref k1, .ref k2, .ref k3])), (k1, .inl (cI, 12, .inl (f 0))), (k2, .inl (cI, 12, .inl (f 1))), (k3, .inl (cI, 12, .inl (f 2)))] s.heap := hP
  have hD : va_D A [(k0, .inr (0, [.int (nI n), .ref k1, .ref k2, .ref k3])), (k1, .inl (cI, 12, .inl (f 0))), (k2, .inl (cI, 12, .inl (f 1))), (k3, .inl (cI, 12, .inl (f 2)))] := hD
  have hl : lv_has ls 4 [(0, .ref k0), (1, .int a), (2, .int b)] := hl
  refine lv_aload_n hx hb dX0_addIfRoom_0 rfl (lv_at hl 0 rfl) ?_
  refine va_get (D := D) (ci := 0) (v := .int (nI n)) (C := RX0) (T := TX0) (N := 4) hx hb hts iX0_addIfRoom_X0 hown hk.1 hP 0 rfl rfl 0 (by decide) (hts _ mX0_addIfRoom_f21) (fun _ h9 => h9) rfl dX0_addIfRoom_1 ?_
  refine lv_bipush (v := 12) hx hb dX0_addIfRoom_4 (by decide) ?_
  refine icltN (i := n) (n := 12) (tgt := 10) hx hb (by omega) (by omega) dX0_addIfRoom_6 (by decide) (fun c6 => ?_) (fun c6 => ?_)
  · refine lv_aload_n hx hb dX0_addIfRoom_10 rfl (lv_at hl 0 rfl) ?_
    refine va_get (D := D) (ci := 0) (v := .int (nI n)) (C := RX0) (T := TX0) (N := 4) hx hb hts iX0_addIfRoom_X0 hown hk.1 hP 0 rfl rfl 0 (by decide) (hts _ mX0_addIfRoom_f21) (fun _ h9 => h9) rfl dX0_addIfRoom_11 ?_
    refine lv_istore_n (lv' := [(3, .int (nI n)), (0, .ref k0), (1, .int a), (2, .int b)]) hx hb dX0_addIfRoom_14 rfl hl (by decide) rfl (fun ls hl => ?_)
    refine lv_aload_n hx hb dX0_addIfRoom_15 rfl (lv_at hl 1 rfl) ?_
    refine va_get (D := D) (ci := 0) (v := .ref k1) (C := RX0) (T := TX0) (N := 4) hx hb hts iX0_addIfRoom_X0 hown hk.1 hP 0 rfl rfl 1 (by decide) (hts _ mX0_addIfRoom_f9) (fun _ h9 => h9) rfl dX0_addIfRoom_16 ?_
    refine lv_iload_n hx hb dX0_addIfRoom_19 rfl (lv_at hl 0 rfl) ?_
    refine lv_iload_n hx hb dX0_addIfRoom_20 rfl (lv_at hl 2 rfl) ?_
    refine astN hx hb hk hP hD hS 1 rfl n rfl (by omega) (Nat.le_of_ble_eq_true rfl) dX0_addIfRoom_21 (fun H locs hP hD hS => ?_)
    have hP : va_P D vwCl [(k0, .inr (0, [.int (nI n), .ref k1, .ref k2, .ref k3])), (k1, .inl (cI, 12, .inl (upd (f 0) n a))), (k2, .inl (cI, 12, .inl (f 1))), (k3, .inl (cI, 12, .inl (f 2)))] H := hP
    have hD : va_D A [(k0, .inr (0, [.int (nI n), .ref k1, .ref k2, .ref k3])), (k1, .inl (cI, 12, .inl (upd (f 0) n a))), (k2, .inl (cI, 12, .inl (f 1))), (k3, .inl (cI, 12, .inl (f 2)))] := hD
    refine lv_aload_n hx hb dX0_addIfRoom_22 rfl (lv_at hl 1 rfl) ?_
    refine va_get (D := D) (ci := 0) (v := .ref k2) (C := RX0) (T := TX0) (N := 4) hx hb hts iX0_addIfRoom_X0 hown hk.1 hP 0 rfl rfl 2 (by decide) (hts _ mX0_addIfRoom_f15) (fun _ h9 => h9) rfl dX0_addIfRoom_23 ?_
    refine lv_iload_n hx hb dX0_addIfRoom_26 rfl (lv_at hl 0 rfl) ?_
    refine lv_iload_n hx hb dX0_addIfRoom_27 rfl (lv_at hl 3 rfl) ?_
    refine astN hx hb hk hP hD hS 2 rfl n rfl (by omega) (Nat.le_of_ble_eq_true rfl) dX0_addIfRoom_28 (fun H locs hP hD hS => ?_)
    have hP : va_P D vwCl [(k0, .inr (0, [.int (nI n), .ref k1, .ref k2, .ref k3])), (k1, .inl (cI, 12, .inl (upd (f 0) n a))), (k2, .inl (cI, 12, .inl (upd (f 1) n b))), (k3, .inl (cI, 12, .inl (f 2)))] H := hP
    have hD : va_D A [(k0, .inr (0, [.int (nI n), .ref k1, .ref k2, .ref k3])), (k1, .inl (cI, 12, .inl (upd (f 0) n a))), (k2, .inl (cI, 12, .inl (upd (f 1) n b))), (k3, .inl (cI, 12, .inl (f 2)))] := hD
    refine lv_aload_n hx hb dX0_addIfRoom_29 rfl (lv_at hl 1 rfl) ?_
    refine va_get (D := D) (ci := 0) (v := .ref k3) (C := RX0) (T := TX0) (N := 4) hx hb hts iX0_addIfRoom_X0 hown hk.1 hP 0 rfl rfl 3 (by decide) (hts _ mX0_addIfRoom_f18) (fun _ h9 => h9) rfl dX0_addIfRoom_30 ?_
    refine lv_iload_n hx hb dX0_addIfRoom_33 rfl (lv_at hl 0 rfl) ?_
    refine lv_bipush (v := 20) hx hb dX0_addIfRoom_34 (by decide) ?_
    refine astN hx hb hk hP hD hS 3 rfl n rfl (by omega) (Nat.le_of_ble_eq_true rfl) dX0_addIfRoom_36 (fun H locs hP hD hS => ?_)
    have hP : va_P D vwCl [(k0, .inr (0, [.int (nI n), .ref k1, .ref k2, .ref k3])), (k1, .inl (cI, 12, .inl (upd (f 0) n a))), (k2, .inl (cI, 12, .inl (upd (f 1) n b))), (k3, .inl (cI, 12, .inl (upd (f 2) n 20)))] H := hP
    have hD : va_D A [(k0, .inr (0, [.int (nI n), .ref k1, .ref k2, .ref k3])), (k1, .inl (cI, 12, .inl (upd (f 0) n a))), (k2, .inl (cI, 12, .inl (upd (f 1) n b))), (k3, .inl (cI, 12, .inl (upd (f 2) n 20)))] := hD
    refine lv_aload_n hx hb dX0_addIfRoom_37 rfl (lv_at hl 1 rfl) ?_
    refine lv_iload_n hx hb dX0_addIfRoom_38 rfl (lv_at hl 0 rfl) ?_
    refine lv_iconst (v := 1) hx hb dX0_addIfRoom_39 (by decide) ?_
    refine lv_iadd hx hb dX0_addIfRoom_40 ?_
    refine top_int (naddE (a := n) (b := 1) rfl rfl) ?_
    refine va_put (D := D) (ci := 0) (v := .int (nI (n + 1))) (ty := .int) (C := RX0) (T := TX0) (N := 4) hx hb hts iX0_addIfRoom_X0 tyX0 tyX0_ok nmX0 hown hk.1 hP hD hS 0 rfl rfl 0 (by decide) (hts _ mX0_addIfRoom_f21) (fun _ h9 => h9) rfl (by decide +kernel) rfl rfl (Nat.le_of_ble_eq_true rfl) dX0_addIfRoom_41 (fun H locs hP hD hS => ?_)
    have hP : va_P D vwCl [(k0, .inr (0, [.int (nI (n + 1)), .ref k1, .ref k2, .ref k3])), (k1, .inl (cI, 12, .inl (upd (f 0) n a))), (k2, .inl (cI, 12, .inl (upd (f 1) n b))), (k3, .inl (cI, 12, .inl (upd (f 2) n 20)))] H := hP
    have hD : va_D A [(k0, .inr (0, [.int (nI (n + 1)), .ref k1, .ref k2, .ref k3])), (k1, .inl (cI, 12, .inl (upd (f 0) n a))), (k2, .inl (cI, 12, .inl (upd (f 1) n b))), (k3, .inl (cI, 12, .inl (upd (f 2) n 20)))] := hD
    rw [show cN n = n + 1 from if_neg (Nat.not_le.mpr c6), show cAdd n f a b = um (um (um f 0 n a) 1 n b) 2 n 20 from if_neg (Nat.not_le.mpr c6)]
    exact retV hx hb hr hlocks hS hP hD dX0_addIfRoom_44
  · rw [show cN n = n from if_pos c6, show cAdd n f a b = f from if_pos c6]
    exact retV hx hb hr hlocks hS hP hD dX0_addIfRoom_9

theorem mX0_goOn_f21 : (.fieldLink RX0 21 "StarConsole$Comets" "size" "I" : Cond) ∈ wsX0_goOn := by decide +kernel
theorem iX0_goOn_X0 : ∀ w ∈ wsX00, w ∈ wsX0_goOn := by decide +kernel
theorem mX0_goOn_f18 : (.fieldLink RX0 18 "StarConsole$Comets" "left" "[I" : Cond) ∈ wsX0_goOn := by decide +kernel
theorem mX0_goOn_f9 : (.fieldLink RX0 9 "StarConsole$Comets" "angle" "[I" : Cond) ∈ wsX0_goOn := by decide +kernel
theorem mX0_goOn_f15 : (.fieldLink RX0 15 "StarConsole$Comets" "speed" "[I" : Cond) ∈ wsX0_goOn := by decide +kernel
theorem mX0_goOn_iX5 : (.initialized RX5 : Cond) ∈ wsX0_goOn := by decide +kernel
theorem mX0_goOn_stX5_turned : (.static yX5_turned : Cond) ∈ wsX0_goOn := by decide +kernel
theorem hX0_goOn : yX0_goOn.cls = RX0 ∧ yX0_goOn.cls ≠ "java/lang/invoke/MethodHandle" ∧ yX0_goOn.cls ≠ "java/lang/invoke/VarHandle" ∧ (parseMethodDescriptor yX0_goOn.desc).map (fun d => d.parameters.length) = some 0 := by decide +kernel
set_option maxHeartbeats 4000000 in
set_option maxRecDepth 100000 in
theorem tX0_goOn (l : Launch) (D : va_G) (cI : ClassId) (k0 k1 k2 k3 n : Nat) (f : Mx) (hn : n ≤ 12) : CV l yX0_goOn wsX0_goOn ({ frames := 2, cells := 0, slots := 0, locals := 43 } : Room) D cI ([.ref k0] : List Value) [(k0, .inr (0, [.int (nI n), .ref k1, .ref k2, .ref k3])), (k1, .inl (cI, 12, .inl (f 0))), (k2, .inl (cI, 12, .inl (f 1))), (k3, .inl (cI, 12, .inl (f 2)))] [(k0, .inr (0, [.int (nI n), .ref k1, .ref k2, .ref k3])), (k1, .inl (cI, 12, .inl ((cGo f n) 0))), (k2, .inl (cI, 12, .inl ((cGo f n) 1))), (k3, .inl (cI, 12, .inl ((cGo f n) 2)))] := by
  refine entV (cc := cX0_goOn) (maxL := 2) (ret := none) (by decide) rfl (Nat.le_of_ble_eq_true rfl) (fun p e s m below meth c A ls fx hl => ?_)
  obtain ⟨hx, hb, hr, hml, hown, hts, hlocks, hk, hP, hD, hA⟩ := fx
  have hown : s.vm.findClass RX0 = some m.cls := hown
  have hS : va_S A s.heap s.heap [] := va_S.rf
  have hP : va_P D vwCl [(k0, .inr (0, [.int (nI n), .ref k1, .ref k2, .ref k3])), (k1, .inl (cI, 12, .inl (f 0))), (k2, .inl (cI, 12, .inl (f 1))), (k3, .inl (cI, 12, .inl (f 2)))] s.heap := hP
  have hD : va_D A [(k0, .inr (0, [.int (nI n), .ref k1, .ref k2, .ref k3])), (k1, .inl (cI, 12, .inl (f 0))), (k2, .inl (cI, 12, .inl (f 1))), (k3, .inl (cI, 12, .inl (f 2)))] := hD
  have hl : lv_has ls 2 [(0, .ref k0)] := hl
  refine lv_iconst (v := 0) hx hb dX0_goOn_0 (by decide) ?_
  refine lv_istore_n (lv' := [(1, .int 0), (0, .ref k0)]) hx hb dX0_goOn_1 rfl hl (by decide) rfl (fun ls hl => ?_)
  have key2 : ∀ (ku2 : Nat) (i : Nat), i ≤ n → n - i < ku2 → ∀ (H : Heap) (locs : List Loc), va_P D vwCl [(k0, .inr (0, [.int (nI n), .ref k1, .ref k2, .ref k3])), (k1, .inl (cI, 12, .inl ((cGo f i) 0))), (k2, .inl (cI, 12, .inl ((cGo f i) 1))), (k3, .inl (cI, 12, .inl ((cGo f i) 2)))] H → va_D A [(k0, .inr (0, [.int (nI n), .ref k1, .ref k2, .ref k3])), (k1, .inl (cI, 12, .inl ((cGo f i) 0))), (k2, .inl (cI, 12, .inl ((cGo f i) 1))), (k3, .inl (cI, 12, .inl ((cGo f i) 2)))] → va_S A s.heap H locs → ∀ ls : Array Slot, lv_has ls 2 [(1, .int (nI i)), (0, .ref k0)] → W p l e ({ frames := 2, cells := 0, slots := 0, locals := 43 } : Room) s m ([.ref k0] : List Value).toArray below meth c H locs 0 0 (MQ below (poV D A [(k0, .inr (0, [.int (nI n), .ref k1, .ref k2, .ref k3])), (k1, .inl (cI, 12, .inl ((cGo f n) 0))), (k2, .inl (cI, 12, .inl ((cGo f n) 1))), (k3, .inl (cI, 12, .inl ((cGo f n) 2)))]) ([.ref k0] : List Value).toArray s 0 0 A) (F0 m 2 ls []) := by
    intro ku2
    induction ku2 with
    | zero => intro i; intros; omega
    | succ ku2 ih2 =>
      intro i  hi2 hm2  H locs hP hD hS ls hl
      refine lv_iload_n hx hb dX0_goOn_2 rfl (lv_at hl 0 rfl) ?_
      refine lv_aload_n hx hb dX0_goOn_3 rfl (lv_at hl 1 rfl) ?_
      refine va_get (D := D) (ci := 0) (v := .int (nI n)) (C := RX0) (T := TX0) (N := 4) hx hb hts iX0_goOn_X0 hown hk.1 hP 0 rfl rfl 0 (by decide) (hts _ mX0_goOn_f21) (fun _ h9 => h9) rfl dX0_goOn_4 ?_
      refine icgeN (i := i) (n := n) (tgt := 56) hx hb (by omega) (by omega) dX0_goOn_7 (by decide) (fun c7 => ?_) (fun c7 => ?_)
      · obtain rfl : n = i := by omega
        exact retV hx hb hr hlocks hS hP hD dX0_goOn_56
      · refine lv_aload_n hx hb dX0_goOn_10 rfl (lv_at hl 1 rfl) ?_
        refine va_get (D := D) (ci := 0) (v := .ref k3) (C := RX0) (T := TX0) (N := 4) hx hb hts iX0_goOn_X0 hown hk.1 hP 0 rfl rfl 3 (by decide) (hts _ mX0_goOn_f18) (fun _ h9 => h9) rfl dX0_goOn_11 ?_
        refine lv_iload_n hx hb dX0_goOn_14 rfl (lv_at hl 0 rfl) ?_
        refine aldN hx hb hk hP 3 rfl i rfl (by omega) (Nat.le_of_ble_eq_true rfl) dX0_goOn_15 ?_
        refine lv_if_le (tgt := 50) hx hb dX0_goOn_16 (by decide) (fun c16 => ?_) (fun c16 => ?_)
        · refine lv_iinc (v := nI (i + 1)) (lv' := [(1, .int (nI (i + 1))), (0, .ref k0)]) hx hb dX0_goOn_50 hl (k := 0) rfl (nI_inc i) (by decide) rfl (fun ls hl => ?_)
          refine lv_goto (tgt := 2) hx hb dX0_goOn_53 (by decide) ?_
          have ihx := ih2 (i + 1)  (by omega) (by omega)
          rw [show cGo f (i + 1) = cGo f i from if_pos c16] at ihx
          exact ihx _ _ hP hD hS _ (lv_sub hl [0, 1] rfl)
        · refine lv_aload_n hx hb dX0_goOn_19 rfl (lv_at hl 1 rfl) ?_
          refine va_get (D := D) (ci := 0) (v := .ref k1) (C := RX0) (T := TX0) (N := 4) hx hb hts iX0_goOn_X0 hown hk.1 hP 0 rfl rfl 1 (by decide) (hts _ mX0_goOn_f9) (fun _ h9 => h9) rfl dX0_goOn_20 ?_
          refine lv_iload_n hx hb dX0_goOn_23 rfl (lv_at hl 0 rfl) ?_
          refine lv_aload_n hx hb dX0_goOn_24 rfl (lv_at hl 1 rfl) ?_
          refine va_get (D := D) (ci := 0) (v := .ref k1) (C := RX0) (T := TX0) (N := 4) hx hb hts iX0_goOn_X0 hown hk.1 hP 0 rfl rfl 1 (by decide) (hts _ mX0_goOn_f9) (fun _ h9 => h9) rfl dX0_goOn_25 ?_
          refine lv_iload_n hx hb dX0_goOn_28 rfl (lv_at hl 0 rfl) ?_
          refine aldN hx hb hk hP 1 rfl i rfl (by omega) (Nat.le_of_ble_eq_true rfl) dX0_goOn_29 ?_
          refine lv_aload_n hx hb dX0_goOn_30 rfl (lv_at hl 1 rfl) ?_
          refine va_get (D := D) (ci := 0) (v := .ref k2) (C := RX0) (T := TX0) (N := 4) hx hb hts iX0_goOn_X0 hown hk.1 hP 0 rfl rfl 2 (by decide) (hts _ mX0_goOn_f15) (fun _ h9 => h9) rfl dX0_goOn_31 ?_
          refine lv_iload_n hx hb dX0_goOn_34 rfl (lv_at hl 0 rfl) ?_
          refine aldN hx hb hk hP 2 rfl i rfl (by omega) (Nat.le_of_ble_eq_true rfl) dX0_goOn_35 ?_
          refine frI (wc := []) (wc' := []) (w' := [(k0, .inr (0, [.int (nI n), .ref k1, .ref k2, .ref k3])), (k1, .inl (cI, 12, .inl ((cGo f i) 0))), (k2, .inl (cI, 12, .inl ((cGo f i) 1))), (k3, .inl (cI, 12, .inl ((cGo f i) 2)))]) hP hD hS hA [] [0, 1, 2, 3] [0, 1, 2, 3] rfl rfl rfl rfl rfl (va_runSN (As := [.int (((cGo f i) 0) i), .int (((cGo f i) 1) i)]) (rest := [.int (nI i), .ref k1]) ⟨hx, hb, hml, hown, hts⟩ (tX5_turned l D cI (cGo f i 0 i) (cGo f i 1 i)  _) ⟨va_cnB 2 hts gX0_goOn_X5_turned_n25 rfl rfl rfl (show va_Nw (.methodLinkNest RX0 25 yX5_turned "StarConsole") s from hk.2 _ (List.mem_of_getElem? (i := 0) rfl)) (hts _ mX0_goOn_iX5) ⟨hX5_turned.2.1, hX5_turned.2.2.1, hX5_turned.2.2.2⟩ ⟨Nat.le_of_ble_eq_true rfl, Nat.le_of_ble_eq_true rfl⟩, (hts _ mX0_goOn_stX5_turned), trivial⟩ (preS_of hk hP hD [] rfl rfl) rfl rfl hl.1 rfl (lv_room (Nat.le_of_ble_eq_true rfl)) dX0_goOn_36 ⟨Nat.le_of_ble_eq_true rfl, Nat.le_of_ble_eq_true rfl⟩) (fun H locs hP hD hS => ?_)
          refine astN hx hb hk hP hD hS 1 rfl i rfl (by omega) (Nat.le_of_ble_eq_true rfl) dX0_goOn_39 (fun H locs hP hD hS => ?_)
          have hP : va_P D vwCl [(k0, .inr (0, [.int (nI n), .ref k1, .ref k2, .ref k3])), (k1, .inl (cI, 12, .inl (upd ((cGo f i) 0) i (tnd (cGo f i 0 i) (cGo f i 1 i))))), (k2, .inl (cI, 12, .inl ((cGo f i) 1))), (k3, .inl (cI, 12, .inl ((cGo f i) 2)))] H := hP
          have hD : va_D A [(k0, .inr (0, [.int (nI n), .ref k1, .ref k2, .ref k3])), (k1, .inl (cI, 12, .inl (upd ((cGo f i) 0) i (tnd (cGo f i 0 i) (cGo f i 1 i))))), (k2, .inl (cI, 12, .inl ((cGo f i) 1))), (k3, .inl (cI, 12, .inl ((cGo f i) 2)))] := hD
          refine lv_aload_n hx hb dX0_goOn_40 rfl (lv_at hl 1 rfl) ?_
          refine va_get (D := D) (ci := 0) (v := .ref k3) (C := RX0) (T := TX0) (N := 4) hx hb hts iX0_goOn_X0 hown hk.1 hP 0 rfl rfl 3 (by decide) (hts _ mX0_goOn_f18) (fun _ h9 => h9) rfl dX0_goOn_41 ?_
          refine lv_iload_n hx hb dX0_goOn_44 rfl (lv_at hl 0 rfl) ?_
          refine lv_dup2_11 hx hb dX0_goOn_45 rfl rfl ?_
          refine aldN hx hb hk hP 3 rfl i rfl (by omega) (Nat.le_of_ble_eq_true rfl) dX0_goOn_46 ?_
          refine lv_iconst (v := 1) hx hb dX0_goOn_47 (by decide) ?_
          refine lv_isub hx hb dX0_goOn_48 ?_
          refine astN hx hb hk hP hD hS 3 rfl i rfl (by omega) (Nat.le_of_ble_eq_true rfl) dX0_goOn_49 (fun H locs hP hD hS => ?_)
          have hP : va_P D vwCl [(k0, .inr (0, [.int (nI n), .ref k1, .ref k2, .ref k3])), (k1, .inl (cI, 12, .inl (upd ((cGo f i) 0) i (tnd (cGo f i 0 i) (cGo f i 1 i))))), (k2, .inl (cI, 12, .inl ((cGo f i) 1))), (k3, .inl (cI, 12, .inl (upd ((cGo f i) 2) i (((((cGo f i) 2) i) - 1)))))] H := hP
          have hD : va_D A [(k0, .inr (0, [.int (nI n), .ref k1, .ref k2, .ref k3])), (k1, .inl (cI, 12, .inl (upd ((cGo f i) 0) i (tnd (cGo f i 0 i) (cGo f i 1 i))))), (k2, .inl (cI, 12, .inl ((cGo f i) 1))), (k3, .inl (cI, 12, .inl (upd ((cGo f i) 2) i (((((cGo f i) 2) i) - 1)))))] := hD
          refine lv_iinc (v := nI (i + 1)) (lv' := [(1, .int (nI (i + 1))), (0, .ref k0)]) hx hb dX0_goOn_50 hl (k := 0) rfl (nI_inc i) (by decide) rfl (fun ls hl => ?_)
          refine lv_goto (tgt := 2) hx hb dX0_goOn_53 (by decide) ?_
          have ihx := ih2 (i + 1)  (by omega) (by omega)
          rw [show cGo f (i + 1) = um (um (cGo f i) 0 i (tnd (cGo f i 0 i) (cGo f i 1 i))) 2 i (cGo f i 2 i - 1) from if_neg c16] at ihx
          exact ihx _ _ hP hD hS _ (lv_sub hl [0, 1] rfl)
  exact key2 (n + 1) 0  (by omega) (by omega) _ _ hP hD hS _ (lv_sub hl [0, 1] rfl)

theorem mX2_approached_l43 : (.methodLink RX2 43 Lib.Math.max.name : Cond) ∈ wsX2_approached := by decide +kernel
theorem mX2_approached_smax : (.static Lib.Math.max.name : Cond) ∈ wsX2_approached := by decide +kernel
theorem mX2_approached_iM : (.initialized "java/lang/Math" : Cond) ∈ wsX2_approached := by decide +kernel
theorem mX2_approached_cmax : (.code Lib.Math.max.name Lib.Math.max.code 2 (some .int) : Cond) ∈ wsX2_approached := by decide +kernel
theorem mX2_approached_l49 : (.methodLink RX2 49 Lib.Math.min.name : Cond) ∈ wsX2_approached := by decide +kernel
theorem mX2_approached_smin : (.static Lib.Math.min.name : Cond) ∈ wsX2_approached := by decide +kernel
theorem mX2_approached_cmin : (.code Lib.Math.min.name Lib.Math.min.code 2 (some .int) : Cond) ∈ wsX2_approached := by decide +kernel
theorem hX2_approached : yX2_approached.cls = RX2 ∧ yX2_approached.cls ≠ "java/lang/invoke/MethodHandle" ∧ yX2_approached.cls ≠ "java/lang/invoke/VarHandle" ∧ (parseMethodDescriptor yX2_approached.desc).map (fun d => d.parameters.length) = some 3 := by decide +kernel
set_option maxHeartbeats 4000000 in
set_option maxRecDepth 100000 in
theorem tX2_approached (l : Launch) (D : va_G) (cI : ClassId) (f t st : Int32)  : CI l yX2_approached wsX2_approached ({ frames := 1, cells := 0, slots := 0, locals := 21 } : Room) D cI ([.int f, .int t, .int st] : List Value) [] (ap f t st) [] := by
  refine entI (cc := cX2_approached) (maxL := 3) (ret := (some .int)) (by decide) rfl (Nat.le_of_ble_eq_true rfl) (fun p e s m below meth c A ls fx hl => ?_)
  obtain ⟨hx, hb, hr, hml, hown, hts, hlocks, hk, hP, hD, hA⟩ := fx
  have hown : s.vm.findClass RX2 = some m.cls := hown
  have hS : va_S A s.heap s.heap [] := va_S.rf
  have hP : va_P D vwCl [] s.heap := hP
  have hD : va_D A [] := hD
  have hl : lv_has ls 3 [(0, .int f), (1, .int t), (2, .int st)] := hl
  refine lv_iload_n hx hb dX2_approached_0 rfl (lv_at hl 0 rfl) ?_
  refine lv_iload_n hx hb dX2_approached_1 rfl (lv_at hl 1 rfl) ?_
  refine lv_icmp_ge (tgt := 15) hx hb dX2_approached_2 (by decide) (fun c2 => ?_) (fun c2 => ?_)
  · refine lv_iload_n hx hb dX2_approached_15 rfl (lv_at hl 0 rfl) ?_
    refine lv_iload_n hx hb dX2_approached_16 rfl (lv_at hl 2 rfl) ?_
    refine lv_isub hx hb dX2_approached_17 ?_
    refine lv_iload_n hx hb dX2_approached_18 rfl (lv_at hl 1 rfl) ?_
    refine va_mmax hx hb (hml.trans hl.1.symm) hown (hts _ mX2_approached_l43) (hts _ mX2_approached_smax) (hts _ mX2_approached_iM) (hts _ mX2_approached_cmax) (Nat.le_of_ble_eq_true rfl) (Nat.le_of_ble_eq_true rfl) (Nat.le_of_ble_eq_true rfl) (Nat.le_of_ble_eq_true rfl) dX2_approached_19 ?_
    refine top_int (show _ = imax ((f - st)) t from rfl) ?_
    exact retI hx hb hr hlocks hS hP hD dX2_approached_22 (by rw [ap, if_pos c2]) rfl
  · refine lv_iload_n hx hb dX2_approached_5 rfl (lv_at hl 0 rfl) ?_
    refine lv_iload_n hx hb dX2_approached_6 rfl (lv_at hl 2 rfl) ?_
    refine lv_iadd hx hb dX2_approached_7 ?_
    refine lv_iload_n hx hb dX2_approached_8 rfl (lv_at hl 1 rfl) ?_
    refine va_mmin hx hb (hml.trans hl.1.symm) hown (hts _ mX2_approached_l49) (hts _ mX2_approached_smin) (hts _ mX2_approached_iM) (hts _ mX2_approached_cmin) (Nat.le_of_ble_eq_true rfl) (Nat.le_of_ble_eq_true rfl) (Nat.le_of_ble_eq_true rfl) (Nat.le_of_ble_eq_true rfl) dX2_approached_9 ?_
    refine top_int (show _ = imin ((f + st)) t from rfl) ?_
    refine lv_goto (tgt := 22) hx hb dX2_approached_12 (by decide) ?_
    exact retI hx hb hr hlocks hS hP hD dX2_approached_22 (by rw [ap, if_neg c2]) rfl

theorem mX2_darkenWithoutLife_f24 : (.fieldLink RX2 24 "StarConsole$Dimmers" "life" "[I" : Cond) ∈ wsX2_darkenWithoutLife := by decide +kernel
theorem iX2_darkenWithoutLife_X2 : ∀ w ∈ wsX20, w ∈ wsX2_darkenWithoutLife := by decide +kernel
theorem mX2_darkenWithoutLife_f15 : (.fieldLink RX2 15 "StarConsole$Dimmers" "level" "[I" : Cond) ∈ wsX2_darkenWithoutLife := by decide +kernel
theorem hX2_darkenWithoutLife : yX2_darkenWithoutLife.cls = RX2 ∧ yX2_darkenWithoutLife.cls ≠ "java/lang/invoke/MethodHandle" ∧ yX2_darkenWithoutLife.cls ≠ "java/lang/invoke/VarHandle" ∧ (parseMethodDescriptor yX2_darkenWithoutLife.desc).map (fun d => d.parameters.length) = some 1 := by decide +kernel
set_option maxHeartbeats 4000000 in
set_option maxRecDepth 100000 in
theorem tX2_darkenWithoutLife (l : Launch) (D : va_G) (cI : ClassId) (d0 d1 d2 d3 d4 d5 n : Nat) (lv lf : Nat → Int32) (i : Nat) (hn : n ≤ 8) (hi : i < n) : CV l yX2_darkenWithoutLife wsX2_darkenWithoutLife ({ frames := 1, cells := 0, slots := 0, locals := 21 } : Room) D cI ([.ref d0, .int (nI i)] : List Value) [(d0, .inr (2, [.int (nI n), .ref d1, .ref d2, .ref d3, .ref d4, .ref d5])), (d2, .inl (cI, 8, .inl lv)), (d5, .inl (cI, 8, .inl lf))] [(d0, .inr (2, [.int (nI n), .ref d1, .ref d2, .ref d3, .ref d4, .ref d5])), (d2, .inl (cI, 8, .inl (dkL lv lf i))), (d5, .inl (cI, 8, .inl lf))] := by
  refine entV (cc := cX2_darkenWithoutLife) (maxL := 2) (ret := none) (by decide) rfl (Nat.le_of_ble_eq_true rfl) (fun p e s m below meth c A ls fx hl => ?_)
  obtain ⟨hx, hb, hr, hml, hown, hts, hlocks, hk, hP, hD, hA⟩ := fx
  have hown : s.vm.findClass RX2 = some m.cls := hown
  have hS : va_S A s.heap s.heap [] := va_S.rf
  have hP : va_P D vwCl [(d0, .inr (2, [.int (nI n), .ref d1, .ref d2, .ref d3, .ref d4, .ref d5])), (d2, .inl (cI, 8, .inl lv)), (d5, .inl (cI, 8, .inl lf))] s.heap := hP
  have hD : va_D A [(d0, .inr (2, [.int (nI n), .ref d1, .ref d2, .ref d3, .ref d4, .ref d5])), (d2, .inl (cI, 8, .inl lv)), (d5, .inl (cI, 8, .inl lf))] := hD
  have hl : lv_has ls 2 [(0, .ref d0), (1, .int (nI i))] := hl
  refine lv_aload_n hx hb dX2_darkenWithoutLife_0 rfl (lv_at hl 0 rfl) ?_
  refine lv_iload_n hx hb dX2_darkenWithoutLife_1 rfl (lv_at hl 1 rfl) ?_
  refine frI (wc := [(d0, .inr (2, [.int (nI n), .ref d1, .ref d2, .ref d3, .ref d4, .ref d5]))]) (wc' := [(d0, .inr (2, [.int (nI n), .ref d1, .ref d2, .ref d3, .ref d4, .ref d5]))]) (w' := [(d0, .inr (2, [.int (nI n), .ref d1, .ref d2, .ref d3, .ref d4, .ref d5])), (d2, .inl (cI, 8, .inl lv)), (d5, .inl (cI, 8, .inl lf))]) hP hD hS hA [0] [1, 2] [2, 0, 1] rfl rfl rfl rfl rfl (va_runV (As := [.int (nI i)]) (rest := []) ⟨hx, hb, hml, hown, hts⟩ (tX2_has l D cI d0 d1 d2 d3 d4 d5 n (nI i) (by omega) _) (cwV 1 hts gX2_darkenWithoutLife_X2_has rfl rfl rfl hX2_has ⟨Nat.le_of_ble_eq_true rfl, Nat.le_of_ble_eq_true rfl⟩) (preV_of hk hP hD [0] rfl rfl (recvO hk hP (ci := 2) (q0 := 0) rfl rfl)) rfl rfl hl.1 rfl (lv_room (Nat.le_of_ble_eq_true rfl)) dX2_darkenWithoutLife_2 ⟨Nat.le_of_ble_eq_true rfl, Nat.le_of_ble_eq_true rfl⟩) (fun H locs hP hD hS => ?_)
  refine top_int (hasI_1 (by omega) (by omega)) ?_
  refine lv_if_eq (tgt := 24) hx hb dX2_darkenWithoutLife_5 (by decide) (fun h => absurd h (by decide)) (fun _ => ?_)
  refine lv_aload_n hx hb dX2_darkenWithoutLife_8 rfl (lv_at hl 0 rfl) ?_
  refine va_get (D := D) (ci := 2) (v := .ref d5) (C := RX2) (T := TX2) (N := 6) hx hb hts iX2_darkenWithoutLife_X2 hown hk.1 hP 0 rfl rfl 5 (by decide) (hts _ mX2_darkenWithoutLife_f24) (fun _ h9 => h9) rfl dX2_darkenWithoutLife_9 ?_
  refine lv_iload_n hx hb dX2_darkenWithoutLife_12 rfl (lv_at hl 1 rfl) ?_
  refine aldN hx hb hk hP 2 rfl i rfl (by omega) (Nat.le_of_ble_eq_true rfl) dX2_darkenWithoutLife_13 ?_
  refine lv_if_ne (tgt := 24) hx hb dX2_darkenWithoutLife_14 (by decide) (fun c14 => ?_) (fun c14 => ?_)
  · rw [show dkL lv lf i = lv from if_neg c14]
    exact retV hx hb hr hlocks hS hP hD dX2_darkenWithoutLife_24
  · refine lv_aload_n hx hb dX2_darkenWithoutLife_17 rfl (lv_at hl 0 rfl) ?_
    refine va_get (D := D) (ci := 2) (v := .ref d2) (C := RX2) (T := TX2) (N := 6) hx hb hts iX2_darkenWithoutLife_X2 hown hk.1 hP 0 rfl rfl 2 (by decide) (hts _ mX2_darkenWithoutLife_f15) (fun _ h9 => h9) rfl dX2_darkenWithoutLife_18 ?_
    refine lv_iload_n hx hb dX2_darkenWithoutLife_21 rfl (lv_at hl 1 rfl) ?_
    refine lv_iconst (v := 0) hx hb dX2_darkenWithoutLife_22 (by decide) ?_
    refine astN hx hb hk hP hD hS 1 rfl i rfl (by omega) (Nat.le_of_ble_eq_true rfl) dX2_darkenWithoutLife_23 (fun H locs hP hD hS => ?_)
    have hP : va_P D vwCl [(d0, .inr (2, [.int (nI n), .ref d1, .ref d2, .ref d3, .ref d4, .ref d5])), (d2, .inl (cI, 8, .inl (upd lv i 0))), (d5, .inl (cI, 8, .inl lf))] H := hP
    have hD : va_D A [(d0, .inr (2, [.int (nI n), .ref d1, .ref d2, .ref d3, .ref d4, .ref d5])), (d2, .inl (cI, 8, .inl (upd lv i 0))), (d5, .inl (cI, 8, .inl lf))] := hD
    rw [show dkL lv lf i = upd lv i 0 from if_pos c14]
    exact retV hx hb hr hlocks hS hP hD dX2_darkenWithoutLife_24

theorem mX2_goOn_f27 : (.fieldLink RX2 27 "StarConsole$Dimmers" "size" "I" : Cond) ∈ wsX2_goOn := by decide +kernel
theorem iX2_goOn_X2 : ∀ w ∈ wsX20, w ∈ wsX2_goOn := by decide +kernel
theorem mX2_goOn_f15 : (.fieldLink RX2 15 "StarConsole$Dimmers" "level" "[I" : Cond) ∈ wsX2_goOn := by decide +kernel
theorem mX2_goOn_f18 : (.fieldLink RX2 18 "StarConsole$Dimmers" "aim" "[I" : Cond) ∈ wsX2_goOn := by decide +kernel
theorem mX2_goOn_f21 : (.fieldLink RX2 21 "StarConsole$Dimmers" "pace" "[I" : Cond) ∈ wsX2_goOn := by decide +kernel
theorem mX2_goOn_f24 : (.fieldLink RX2 24 "StarConsole$Dimmers" "life" "[I" : Cond) ∈ wsX2_goOn := by decide +kernel
theorem mX2_goOn_l43 : (.methodLink RX2 43 Lib.Math.max.name : Cond) ∈ wsX2_goOn := by decide +kernel
theorem mX2_goOn_smax : (.static Lib.Math.max.name : Cond) ∈ wsX2_goOn := by decide +kernel
theorem mX2_goOn_iM : (.initialized "java/lang/Math" : Cond) ∈ wsX2_goOn := by decide +kernel
theorem mX2_goOn_cmax : (.code Lib.Math.max.name Lib.Math.max.code 2 (some .int) : Cond) ∈ wsX2_goOn := by decide +kernel
theorem hX2_goOn : yX2_goOn.cls = RX2 ∧ yX2_goOn.cls ≠ "java/lang/invoke/MethodHandle" ∧ yX2_goOn.cls ≠ "java/lang/invoke/VarHandle" ∧ (parseMethodDescriptor yX2_goOn.desc).map (fun d => d.parameters.length) = some 0 := by decide +kernel
set_option maxHeartbeats 4000000 in
set_option maxRecDepth 100000 in
theorem tX2_goOn (l : Launch) (D : va_G) (cI : ClassId) (d0 d1 d2 d3 d4 d5 n : Nat) (g : Mx) (hn : n ≤ 8) : CV l yX2_goOn wsX2_goOn ({ frames := 2, cells := 0, slots := 0, locals := 43 } : Room) D cI ([.ref d0] : List Value) [(d0, .inr (2, [.int (nI n), .ref d1, .ref d2, .ref d3, .ref d4, .ref d5])), (d1, .inl (cI, 8, .inl (g 0))), (d2, .inl (cI, 8, .inl (g 1))), (d3, .inl (cI, 8, .inl (g 2))), (d4, .inl (cI, 8, .inl (g 3))), (d5, .inl (cI, 8, .inl (g 4)))] [(d0, .inr (2, [.int (nI n), .ref d1, .ref d2, .ref d3, .ref d4, .ref d5])), (d1, .inl (cI, 8, .inl ((dGo g n) 0))), (d2, .inl (cI, 8, .inl ((dGo g n) 1))), (d3, .inl (cI, 8, .inl ((dGo g n) 2))), (d4, .inl (cI, 8, .inl ((dGo g n) 3))), (d5, .inl (cI, 8, .inl ((dGo g n) 4)))] := by
  refine entV (cc := cX2_goOn) (maxL := 2) (ret := none) (by decide) rfl (Nat.le_of_ble_eq_true rfl) (fun p e s m below meth c A ls fx hl => ?_)
  obtain ⟨hx, hb, hr, hml, hown, hts, hlocks, hk, hP, hD, hA⟩ := fx
  have hown : s.vm.findClass RX2 = some m.cls := hown
  have hS : va_S A s.heap s.heap [] := va_S.rf
  have hP : va_P D vwCl [(d0, .inr (2, [.int (nI n), .ref d1, .ref d2, .ref d3, .ref d4, .ref d5])), (d1, .inl (cI, 8, .inl (g 0))), (d2, .inl (cI, 8, .inl (g 1))), (d3, .inl (cI, 8, .inl (g 2))), (d4, .inl (cI, 8, .inl (g 3))), (d5, .inl (cI, 8, .inl (g 4)))] s.heap := hP
  have hD : va_D A [(d0, .inr (2, [.int (nI n), .ref d1, .ref d2, .ref d3, .ref d4, .ref d5])), (d1, .inl (cI, 8, .inl (g 0))), (d2, .inl (cI, 8, .inl (g 1))), (d3, .inl (cI, 8, .inl (g 2))), (d4, .inl (cI, 8, .inl (g 3))), (d5, .inl (cI, 8, .inl (g 4)))] := hD
  have hl : lv_has ls 2 [(0, .ref d0)] := hl
  refine lv_iconst (v := 0) hx hb dX2_goOn_0 (by decide) ?_
  refine lv_istore_n (lv' := [(1, .int 0), (0, .ref d0)]) hx hb dX2_goOn_1 rfl hl (by decide) rfl (fun ls hl => ?_)
  have key2 : ∀ (ku2 : Nat) (i : Nat), i ≤ n → n - i < ku2 → ∀ (H : Heap) (locs : List Loc), va_P D vwCl [(d0, .inr (2, [.int (nI n), .ref d1, .ref d2, .ref d3, .ref d4, .ref d5])), (d1, .inl (cI, 8, .inl ((dGo g i) 0))), (d2, .inl (cI, 8, .inl ((dGo g i) 1))), (d3, .inl (cI, 8, .inl ((dGo g i) 2))), (d4, .inl (cI, 8, .inl ((dGo g i) 3))), (d5, .inl (cI, 8, .inl ((dGo g i) 4)))] H → va_D A [(d0, .inr (2, [.int (nI n), .ref d1, .ref d2, .ref d3, .ref d4, .ref d5])), (d1, .inl (cI, 8, .inl ((dGo g i) 0))), (d2, .inl (cI, 8, .inl ((dGo g i) 1))), (d3, .inl (cI, 8, .inl ((dGo g i) 2))), (d4, .inl (cI, 8, .inl ((dGo g i) 3))), (d5, .inl (cI, 8, .inl ((dGo g i) 4)))] → va_S A s.heap H locs → ∀ ls : Array Slot, lv_has ls 2 [(1, .int (nI i)), (0, .ref d0)] → W p l e ({ frames := 2, cells := 0, slots := 0, locals := 43 } : Room) s m ([.ref d0] : List Value).toArray below meth c H locs 0 0 (MQ below (poV D A [(d0, .inr (2, [.int (nI n), .ref d1, .ref d2, .ref d3, .ref d4, .ref d5])), (d1, .inl (cI, 8, .inl ((dGo g n) 0))), (d2, .inl (cI, 8, .inl ((dGo g n) 1))), (d3, .inl (cI, 8, .inl ((dGo g n) 2))), (d4, .inl (cI, 8, .inl ((dGo g n) 3))), (d5, .inl (cI, 8, .inl ((dGo g n) 4)))]) ([.ref d0] : List Value).toArray s 0 0 A) (F0 m 2 ls []) := by
    intro ku2
    induction ku2 with
    | zero => intro i; intros; omega
    | succ ku2 ih2 =>
      intro i  hi2 hm2  H locs hP hD hS ls hl
      refine lv_iload_n hx hb dX2_goOn_2 rfl (lv_at hl 0 rfl) ?_
      refine lv_aload_n hx hb dX2_goOn_3 rfl (lv_at hl 1 rfl) ?_
      refine va_get (D := D) (ci := 2) (v := .int (nI n)) (C := RX2) (T := TX2) (N := 6) hx hb hts iX2_goOn_X2 hown hk.1 hP 0 rfl rfl 0 (by decide) (hts _ mX2_goOn_f27) (fun _ h9 => h9) rfl dX2_goOn_4 ?_
      refine icgeN (i := i) (n := n) (tgt := 74) hx hb (by omega) (by omega) dX2_goOn_7 (by decide) (fun c7 => ?_) (fun c7 => ?_)
      · obtain rfl : n = i := by omega
        exact retV hx hb hr hlocks hS hP hD dX2_goOn_74
      · refine lv_aload_n hx hb dX2_goOn_10 rfl (lv_at hl 1 rfl) ?_
        refine va_get (D := D) (ci := 2) (v := .ref d2) (C := RX2) (T := TX2) (N := 6) hx hb hts iX2_goOn_X2 hown hk.1 hP 0 rfl rfl 2 (by decide) (hts _ mX2_goOn_f15) (fun _ h9 => h9) rfl dX2_goOn_11 ?_
        refine lv_iload_n hx hb dX2_goOn_14 rfl (lv_at hl 0 rfl) ?_
        refine lv_aload_n hx hb dX2_goOn_15 rfl (lv_at hl 1 rfl) ?_
        refine va_get (D := D) (ci := 2) (v := .ref d2) (C := RX2) (T := TX2) (N := 6) hx hb hts iX2_goOn_X2 hown hk.1 hP 0 rfl rfl 2 (by decide) (hts _ mX2_goOn_f15) (fun _ h9 => h9) rfl dX2_goOn_16 ?_
        refine lv_iload_n hx hb dX2_goOn_19 rfl (lv_at hl 0 rfl) ?_
        refine aldN hx hb hk hP 2 rfl i rfl (by omega) (Nat.le_of_ble_eq_true rfl) dX2_goOn_20 ?_
        refine lv_aload_n hx hb dX2_goOn_21 rfl (lv_at hl 1 rfl) ?_
        refine va_get (D := D) (ci := 2) (v := .ref d3) (C := RX2) (T := TX2) (N := 6) hx hb hts iX2_goOn_X2 hown hk.1 hP 0 rfl rfl 3 (by decide) (hts _ mX2_goOn_f18) (fun _ h9 => h9) rfl dX2_goOn_22 ?_
        refine lv_iload_n hx hb dX2_goOn_25 rfl (lv_at hl 0 rfl) ?_
        refine aldN hx hb hk hP 3 rfl i rfl (by omega) (Nat.le_of_ble_eq_true rfl) dX2_goOn_26 ?_
        refine lv_aload_n hx hb dX2_goOn_27 rfl (lv_at hl 1 rfl) ?_
        refine va_get (D := D) (ci := 2) (v := .ref d4) (C := RX2) (T := TX2) (N := 6) hx hb hts iX2_goOn_X2 hown hk.1 hP 0 rfl rfl 4 (by decide) (hts _ mX2_goOn_f21) (fun _ h9 => h9) rfl dX2_goOn_28 ?_
        refine lv_iload_n hx hb dX2_goOn_31 rfl (lv_at hl 0 rfl) ?_
        refine aldN hx hb hk hP 4 rfl i rfl (by omega) (Nat.le_of_ble_eq_true rfl) dX2_goOn_32 ?_
        refine frI (wc := []) (wc' := []) (w' := [(d0, .inr (2, [.int (nI n), .ref d1, .ref d2, .ref d3, .ref d4, .ref d5])), (d1, .inl (cI, 8, .inl ((dGo g i) 0))), (d2, .inl (cI, 8, .inl ((dGo g i) 1))), (d3, .inl (cI, 8, .inl ((dGo g i) 2))), (d4, .inl (cI, 8, .inl ((dGo g i) 3))), (d5, .inl (cI, 8, .inl ((dGo g i) 4)))]) hP hD hS hA [] [0, 1, 2, 3, 4, 5] [0, 1, 2, 3, 4, 5] rfl rfl rfl rfl rfl (va_runS (As := [.int (((dGo g i) 1) i), .int (((dGo g i) 2) i), .int (((dGo g i) 3) i)]) (rest := [.int (nI i), .ref d2]) ⟨hx, hb, hml, hown, hts⟩ (tX2_approached l D cI (dGo g i 1 i) (dGo g i 2 i) (dGo g i 3 i)  _) (va_cwS 3 hts gX2_goOn_X2_approached rfl rfl rfl hX2_approached.2 ⟨Nat.le_of_ble_eq_true rfl, Nat.le_of_ble_eq_true rfl⟩) (preS_of hk hP hD [] rfl rfl) rfl rfl hl.1 rfl (lv_room (Nat.le_of_ble_eq_true rfl)) dX2_goOn_33 ⟨Nat.le_of_ble_eq_true rfl, Nat.le_of_ble_eq_true rfl⟩) (fun H locs hP hD hS => ?_)
        refine astN hx hb hk hP hD hS 2 rfl i rfl (by omega) (Nat.le_of_ble_eq_true rfl) dX2_goOn_36 (fun H locs hP hD hS => ?_)
        have hP : va_P D vwCl [(d0, .inr (2, [.int (nI n), .ref d1, .ref d2, .ref d3, .ref d4, .ref d5])), (d1, .inl (cI, 8, .inl ((dGo g i) 0))), (d2, .inl (cI, 8, .inl (upd ((dGo g i) 1) i (ap (dGo g i 1 i) (dGo g i 2 i) (dGo g i 3 i))))), (d3, .inl (cI, 8, .inl ((dGo g i) 2))), (d4, .inl (cI, 8, .inl ((dGo g i) 3))), (d5, .inl (cI, 8, .inl ((dGo g i) 4)))] H := hP
        have hD : va_D A [(d0, .inr (2, [.int (nI n), .ref d1, .ref d2, .ref d3, .ref d4, .ref d5])), (d1, .inl (cI, 8, .inl ((dGo g i) 0))), (d2, .inl (cI, 8, .inl (upd ((dGo g i) 1) i (ap (dGo g i 1 i) (dGo g i 2 i) (dGo g i 3 i))))), (d3, .inl (cI, 8, .inl ((dGo g i) 2))), (d4, .inl (cI, 8, .inl ((dGo g i) 3))), (d5, .inl (cI, 8, .inl ((dGo g i) 4)))] := hD
        refine lv_aload_n hx hb dX2_goOn_37 rfl (lv_at hl 1 rfl) ?_
        refine va_get (D := D) (ci := 2) (v := .ref d5) (C := RX2) (T := TX2) (N := 6) hx hb hts iX2_goOn_X2 hown hk.1 hP 0 rfl rfl 5 (by decide) (hts _ mX2_goOn_f24) (fun _ h9 => h9) rfl dX2_goOn_38 ?_
        refine lv_iload_n hx hb dX2_goOn_41 rfl (lv_at hl 0 rfl) ?_
        refine lv_iconst (v := 0) hx hb dX2_goOn_42 (by decide) ?_
        refine lv_aload_n hx hb dX2_goOn_43 rfl (lv_at hl 1 rfl) ?_
        refine va_get (D := D) (ci := 2) (v := .ref d5) (C := RX2) (T := TX2) (N := 6) hx hb hts iX2_goOn_X2 hown hk.1 hP 0 rfl rfl 5 (by decide) (hts _ mX2_goOn_f24) (fun _ h9 => h9) rfl dX2_goOn_44 ?_
        refine lv_iload_n hx hb dX2_goOn_47 rfl (lv_at hl 0 rfl) ?_
        refine aldN hx hb hk hP 5 rfl i rfl (by omega) (Nat.le_of_ble_eq_true rfl) dX2_goOn_48 ?_
        refine lv_aload_n hx hb dX2_goOn_49 rfl (lv_at hl 1 rfl) ?_
        refine va_get (D := D) (ci := 2) (v := .ref d2) (C := RX2) (T := TX2) (N := 6) hx hb hts iX2_goOn_X2 hown hk.1 hP 0 rfl rfl 2 (by decide) (hts _ mX2_goOn_f15) (fun _ h9 => h9) rfl dX2_goOn_50 ?_
        refine lv_iload_n hx hb dX2_goOn_53 rfl (lv_at hl 0 rfl) ?_
        refine aldN hx hb hk hP 2 rfl i rfl (by omega) (Nat.le_of_ble_eq_true rfl) dX2_goOn_54 ?_
        refine top_int pk_us ?_
        refine lv_bipush (v := 10) hx hb dX2_goOn_55 (by decide) ?_
        refine lv_idiv hx hb dX2_goOn_57 (by decide) ?_
        refine lv_isub hx hb dX2_goOn_58 ?_
        refine va_mmax hx hb (hml.trans hl.1.symm) hown (hts _ mX2_goOn_l43) (hts _ mX2_goOn_smax) (hts _ mX2_goOn_iM) (hts _ mX2_goOn_cmax) (Nat.le_of_ble_eq_true rfl) (Nat.le_of_ble_eq_true rfl) (Nat.le_of_ble_eq_true rfl) (Nat.le_of_ble_eq_true rfl) dX2_goOn_59 ?_
        refine top_int (show _ = imax 0 (((((dGo g i) 4) i) - ((((ap (dGo g i 1 i) (dGo g i 2 i) (dGo g i 3 i))) / 10)))) from rfl) ?_
        refine astN hx hb hk hP hD hS 5 rfl i rfl (by omega) (Nat.le_of_ble_eq_true rfl) dX2_goOn_62 (fun H locs hP hD hS => ?_)
        have hP : va_P D vwCl [(d0, .inr (2, [.int (nI n), .ref d1, .ref d2, .ref d3, .ref d4, .ref d5])), (d1, .inl (cI, 8, .inl ((dGo g i) 0))), (d2, .inl (cI, 8, .inl (upd ((dGo g i) 1) i (ap (dGo g i 1 i) (dGo g i 2 i) (dGo g i 3 i))))), (d3, .inl (cI, 8, .inl ((dGo g i) 2))), (d4, .inl (cI, 8, .inl ((dGo g i) 3))), (d5, .inl (cI, 8, .inl (upd ((dGo g i) 4) i ((imax 0 (((((dGo g i) 4) i) - ((((ap (dGo g i 1 i) (dGo g i 2 i) (dGo g i 3 i))) / 10)))))))))] H := hP
        have hD : va_D A [(d0, .inr (2, [.int (nI n), .ref d1, .ref d2, .ref d3, .ref d4, .ref d5])), (d1, .inl (cI, 8, .inl ((dGo g i) 0))), (d2, .inl (cI, 8, .inl (upd ((dGo g i) 1) i (ap (dGo g i 1 i) (dGo g i 2 i) (dGo g i 3 i))))), (d3, .inl (cI, 8, .inl ((dGo g i) 2))), (d4, .inl (cI, 8, .inl ((dGo g i) 3))), (d5, .inl (cI, 8, .inl (upd ((dGo g i) 4) i ((imax 0 (((((dGo g i) 4) i) - ((((ap (dGo g i 1 i) (dGo g i 2 i) (dGo g i 3 i))) / 10)))))))))] := hD
        refine lv_aload_n hx hb dX2_goOn_63 rfl (lv_at hl 1 rfl) ?_
        refine lv_iload_n hx hb dX2_goOn_64 rfl (lv_at hl 0 rfl) ?_
        refine frV (wc := [(d0, .inr (2, [.int (nI n), .ref d1, .ref d2, .ref d3, .ref d4, .ref d5])), (d2, .inl (cI, 8, .inl (upd (dGo g i 1) i (ap (dGo g i 1 i) (dGo g i 2 i) (dGo g i 3 i))))), (d5, .inl (cI, 8, .inl (upd ((dGo g i) 4) i ((imax 0 (((((dGo g i) 4) i) - ((((ap (dGo g i 1 i) (dGo g i 2 i) (dGo g i 3 i))) / 10)))))))))]) (wc' := [(d0, .inr (2, [.int (nI n), .ref d1, .ref d2, .ref d3, .ref d4, .ref d5])), (d2, .inl (cI, 8, .inl (dkL (upd (dGo g i 1) i (ap (dGo g i 1 i) (dGo g i 2 i) (dGo g i 3 i))) (upd ((dGo g i) 4) i ((imax 0 (((((dGo g i) 4) i) - ((((ap (dGo g i 1 i) (dGo g i 2 i) (dGo g i 3 i))) / 10))))))) i))), (d5, .inl (cI, 8, .inl (upd ((dGo g i) 4) i ((imax 0 (((((dGo g i) 4) i) - ((((ap (dGo g i 1 i) (dGo g i 2 i) (dGo g i 3 i))) / 10)))))))))]) (w' := [(d0, .inr (2, [.int (nI n), .ref d1, .ref d2, .ref d3, .ref d4, .ref d5])), (d1, .inl (cI, 8, .inl ((dGo g i) 0))), (d2, .inl (cI, 8, .inl (dkL (upd (dGo g i 1) i (ap (dGo g i 1 i) (dGo g i 2 i) (dGo g i 3 i))) (upd ((dGo g i) 4) i ((imax 0 (((((dGo g i) 4) i) - ((((ap (dGo g i 1 i) (dGo g i 2 i) (dGo g i 3 i))) / 10))))))) i))), (d3, .inl (cI, 8, .inl ((dGo g i) 2))), (d4, .inl (cI, 8, .inl ((dGo g i) 3))), (d5, .inl (cI, 8, .inl (upd ((dGo g i) 4) i ((imax 0 (((((dGo g i) 4) i) - ((((ap (dGo g i 1 i) (dGo g i 2 i) (dGo g i 3 i))) / 10)))))))))]) hP hD hS hA [0, 2, 5] [1, 3, 4] [3, 0, 4, 1, 2, 5] rfl rfl rfl rfl rfl (va_runV (As := [.int (nI i)]) (rest := []) ⟨hx, hb, hml, hown, hts⟩ (tX2_darkenWithoutLife l D cI d0 d1 d2 d3 d4 d5 n (upd (dGo g i 1) i (ap (dGo g i 1 i) (dGo g i 2 i) (dGo g i 3 i))) (upd ((dGo g i) 4) i ((imax 0 (((((dGo g i) 4) i) - ((((ap (dGo g i 1 i) (dGo g i 2 i) (dGo g i 3 i))) / 10))))))) i (by omega) (by omega) _) (cwV 1 hts gX2_goOn_X2_darkenWithoutLife rfl rfl rfl hX2_darkenWithoutLife ⟨Nat.le_of_ble_eq_true rfl, Nat.le_of_ble_eq_true rfl⟩) (preV_of hk hP hD [0, 2, 5] rfl rfl (recvO hk hP (ci := 2) (q0 := 0) rfl rfl)) rfl rfl hl.1 rfl (lv_room (Nat.le_of_ble_eq_true rfl)) dX2_goOn_65 ⟨Nat.le_of_ble_eq_true rfl, Nat.le_of_ble_eq_true rfl⟩) (fun H locs hP hD hS => ?_)
        rw [dk_eq] at hP hD
        refine lv_iinc (v := nI (i + 1)) (lv' := [(1, .int (nI (i + 1))), (0, .ref d0)]) hx hb dX2_goOn_68 hl (k := 0) rfl (nI_inc i) (by decide) rfl (fun ls hl => ?_)
        refine lv_goto (tgt := 2) hx hb dX2_goOn_71 (by decide) ?_
        have ihx := ih2 (i + 1)  (by omega) (by omega)
        rw [show dGo g (i + 1) = dSt (dGo g i) i from rfl] at ihx
        exact ihx _ _ hP hD hS _ (lv_sub hl [0, 1] rfl)
  exact key2 (n + 1) 0  (by omega) (by omega) _ _ hP hD hS _ (lv_sub hl [0, 1] rfl)

theorem mX2_glareOn_f27 : (.fieldLink RX2 27 "StarConsole$Dimmers" "size" "I" : Cond) ∈ wsX2_glareOn := by decide +kernel
theorem iX2_glareOn_X2 : ∀ w ∈ wsX20, w ∈ wsX2_glareOn := by decide +kernel
theorem mX2_glareOn_f9 : (.fieldLink RX2 9 "StarConsole$Dimmers" "part" "[I" : Cond) ∈ wsX2_glareOn := by decide +kernel
theorem mX2_glareOn_f15 : (.fieldLink RX2 15 "StarConsole$Dimmers" "level" "[I" : Cond) ∈ wsX2_glareOn := by decide +kernel
theorem hX2_glareOn : yX2_glareOn.cls = RX2 ∧ yX2_glareOn.cls ≠ "java/lang/invoke/MethodHandle" ∧ yX2_glareOn.cls ≠ "java/lang/invoke/VarHandle" ∧ (parseMethodDescriptor yX2_glareOn.desc).map (fun d => d.parameters.length) = some 1 := by decide +kernel
set_option maxHeartbeats 4000000 in
set_option maxRecDepth 100000 in
theorem tX2_glareOn (l : Launch) (D : va_G) (cI : ClassId) (d0 d1 d2 d3 d4 d5 n : Nat) (gp gl : Nat → Int32) (lit : Int32) (hn : n ≤ 8) : CI l yX2_glareOn wsX2_glareOn ({ frames := 1, cells := 0, slots := 0, locals := 22 } : Room) D cI ([.ref d0, .int lit] : List Value) [(d0, .inr (2, [.int (nI n), .ref d1, .ref d2, .ref d3, .ref d4, .ref d5])), (d1, .inl (cI, 8, .inl gp)), (d2, .inl (cI, 8, .inl gl))] (glS gp gl lit n) [(d0, .inr (2, [.int (nI n), .ref d1, .ref d2, .ref d3, .ref d4, .ref d5])), (d1, .inl (cI, 8, .inl gp)), (d2, .inl (cI, 8, .inl gl))] := by
  refine entI (cc := cX2_glareOn) (maxL := 5) (ret := (some .int)) (by decide) rfl (Nat.le_of_ble_eq_true rfl) (fun p e s m below meth c A ls fx hl => ?_)
  obtain ⟨hx, hb, hr, hml, hown, hts, hlocks, hk, hP, hD, hA⟩ := fx
  have hown : s.vm.findClass RX2 = some m.cls := hown
  have hS : va_S A s.heap s.heap [] := va_S.rf
  have hP : va_P D vwCl [(d0, .inr (2, [.int (nI n), .ref d1, .ref d2, .ref d3, .ref d4, .ref d5])), (d1, .inl (cI, 8, .inl gp)), (d2, .inl (cI, 8, .inl gl))] s.heap := hP
  have hD : va_D A [(d0, .inr (2, [.int (nI n), .ref d1, .ref d2, .ref d3, .ref d4, .ref d5])), (d1, .inl (cI, 8, .inl gp)), (d2, .inl (cI, 8, .inl gl))] := hD
  have hl : lv_has ls 5 [(0, .ref d0), (1, .int lit)] := hl
  refine lv_iconst (v := 0) hx hb dX2_glareOn_0 (by decide) ?_
  refine lv_istore_n (lv' := [(2, .int 0), (0, .ref d0), (1, .int lit)]) hx hb dX2_glareOn_1 rfl hl (by decide) rfl (fun ls hl => ?_)
  refine lv_iconst (v := 0) hx hb dX2_glareOn_2 (by decide) ?_
  refine lv_istore_n (lv' := [(3, .int 0), (2, .int 0), (0, .ref d0), (1, .int lit)]) hx hb dX2_glareOn_3 rfl hl (by decide) rfl (fun ls hl => ?_)
  have key4 : ∀ (ku4 : Nat) (i : Nat), i ≤ n → n - i < ku4 → ∀ (H : Heap) (locs : List Loc), va_P D vwCl [(d0, .inr (2, [.int (nI n), .ref d1, .ref d2, .ref d3, .ref d4, .ref d5])), (d1, .inl (cI, 8, .inl gp)), (d2, .inl (cI, 8, .inl gl))] H → va_D A [(d0, .inr (2, [.int (nI n), .ref d1, .ref d2, .ref d3, .ref d4, .ref d5])), (d1, .inl (cI, 8, .inl gp)), (d2, .inl (cI, 8, .inl gl))] → va_S A s.heap H locs → ∀ ls : Array Slot, lv_has ls 5 [(3, .int (nI i)), (2, .int (glS gp gl lit i)), (0, .ref d0), (1, .int lit)] → W p l e ({ frames := 1, cells := 0, slots := 0, locals := 22 } : Room) s m ([.ref d0, .int lit] : List Value).toArray below meth c H locs 0 0 (MQ below (poI D A [(d0, .inr (2, [.int (nI n), .ref d1, .ref d2, .ref d3, .ref d4, .ref d5])), (d1, .inl (cI, 8, .inl gp)), (d2, .inl (cI, 8, .inl gl))] (glS gp gl lit n)) ([.ref d0, .int lit] : List Value).toArray s 0 0 A) (F0 m 4 ls []) := by
    intro ku4
    induction ku4 with
    | zero => intro i; intros; omega
    | succ ku4 ih4 =>
      intro i  hi4 hm4  H locs hP hD hS ls hl
      refine lv_iload_n hx hb dX2_glareOn_4 rfl (lv_at hl 0 rfl) ?_
      refine lv_aload_n hx hb dX2_glareOn_5 rfl (lv_at hl 2 rfl) ?_
      refine va_get (D := D) (ci := 2) (v := .int (nI n)) (C := RX2) (T := TX2) (N := 6) hx hb hts iX2_glareOn_X2 hown hk.1 hP 0 rfl rfl 0 (by decide) (hts _ mX2_glareOn_f27) (fun _ h9 => h9) rfl dX2_glareOn_6 ?_
      refine icgeN (i := i) (n := n) (tgt := 74) hx hb (by omega) (by omega) dX2_glareOn_9 (by decide) (fun c9 => ?_) (fun c9 => ?_)
      · obtain rfl : n = i := by omega
        refine lv_iload_n hx hb dX2_glareOn_74 rfl (lv_at hl 1 rfl) ?_
        exact retI hx hb hr hlocks hS hP hD dX2_glareOn_75 (rfl) rfl
      · refine lv_aload_n hx hb dX2_glareOn_12 rfl (lv_at hl 2 rfl) ?_
        refine va_get (D := D) (ci := 2) (v := .ref d1) (C := RX2) (T := TX2) (N := 6) hx hb hts iX2_glareOn_X2 hown hk.1 hP 0 rfl rfl 1 (by decide) (hts _ mX2_glareOn_f9) (fun _ h9 => h9) rfl dX2_glareOn_13 ?_
        refine lv_iload_n hx hb dX2_glareOn_16 rfl (lv_at hl 0 rfl) ?_
        refine aldN hx hb hk hP 1 rfl i rfl (by omega) (Nat.le_of_ble_eq_true rfl) dX2_glareOn_17 ?_
        refine lv_iload_n hx hb dX2_glareOn_18 rfl (lv_at hl 3 rfl) ?_
        refine lv_isub hx hb dX2_glareOn_19 ?_
        refine lv_bipush (v := 12) hx hb dX2_glareOn_20 (by decide) ?_
        refine frI (wc := []) (wc' := []) (w' := [(d0, .inr (2, [.int (nI n), .ref d1, .ref d2, .ref d3, .ref d4, .ref d5])), (d1, .inl (cI, 8, .inl gp)), (d2, .inl (cI, 8, .inl gl))]) hP hD hS hA [] [0, 1, 2] [0, 1, 2] rfl rfl rfl rfl rfl (va_runS (As := [.int ((gp i) - lit), .int 12]) (rest := []) ⟨hx, hb, hml, hown, hts⟩ (tJ9_floorMod_7cf53 l D cI (gp i - lit) 12 (by decide) _) (va_cwS 2 hts gX2_glareOn_J9_floorMod_7cf53 rfl rfl rfl hJ9_floorMod_7cf53.2 ⟨Nat.le_of_ble_eq_true rfl, Nat.le_of_ble_eq_true rfl⟩) (preS_of hk hP hD [] rfl rfl) rfl rfl hl.1 rfl (lv_room (Nat.le_of_ble_eq_true rfl)) dX2_glareOn_22 ⟨Nat.le_of_ble_eq_true rfl, Nat.le_of_ble_eq_true rfl⟩) (fun H locs hP hD hS => ?_)
        refine lv_istore (lv' := [(4, .int (fmod (gp i - lit) 12)), (3, .int (nI i)), (2, .int (glS gp gl lit i)), (0, .ref d0), (1, .int lit)]) hx hb dX2_glareOn_25 hl (by decide) rfl (fun ls hl => ?_)
        refine lv_iload hx hb dX2_glareOn_27 (lv_at hl 0 rfl) ?_
        refine lv_if_ne (tgt := 44) hx hb dX2_glareOn_29 (by decide) (fun c29 => ?_) (fun c29 => ?_)
        · refine lv_iload hx hb dX2_glareOn_44 (lv_at hl 0 rfl) ?_
          refine lv_iconst (v := 1) hx hb dX2_glareOn_46 (by decide) ?_
          refine lv_icmp_eq (tgt := 57) hx hb dX2_glareOn_47 (by decide) (fun c47 => ?_) (fun c47 => ?_)
          · refine lv_iload_n hx hb dX2_glareOn_57 rfl (lv_at hl 2 rfl) ?_
            refine lv_aload_n hx hb dX2_glareOn_58 rfl (lv_at hl 3 rfl) ?_
            refine va_get (D := D) (ci := 2) (v := .ref d2) (C := RX2) (T := TX2) (N := 6) hx hb hts iX2_glareOn_X2 hown hk.1 hP 0 rfl rfl 2 (by decide) (hts _ mX2_glareOn_f15) (fun _ h9 => h9) rfl dX2_glareOn_59 ?_
            refine lv_iload_n hx hb dX2_glareOn_62 rfl (lv_at hl 1 rfl) ?_
            refine aldN hx hb hk hP 2 rfl i rfl (by omega) (Nat.le_of_ble_eq_true rfl) dX2_glareOn_63 ?_
            refine lv_iconst (v := 4) hx hb dX2_glareOn_64 (by decide) ?_
            refine lv_idiv hx hb dX2_glareOn_65 (by decide) ?_
            refine lv_iadd hx hb dX2_glareOn_66 ?_
            refine lv_istore_n (lv' := [(2, .int ((glS gp gl lit i) + (((gl i) / 4)))), (4, .int (fmod (gp i - lit) 12)), (3, .int (nI i)), (0, .ref d0), (1, .int lit)]) hx hb dX2_glareOn_67 rfl hl (by decide) rfl (fun ls hl => ?_)
            refine lv_iinc (v := nI (i + 1)) (lv' := [(3, .int (nI (i + 1))), (2, .int ((glS gp gl lit i) + (((gl i) / 4)))), (4, .int (fmod (gp i - lit) 12)), (0, .ref d0), (1, .int lit)]) hx hb dX2_glareOn_68 hl (k := 2) rfl (nI_inc i) (by decide) rfl (fun ls hl => ?_)
            refine lv_goto (tgt := 4) hx hb dX2_glareOn_71 (by decide) ?_
            have ihx := ih4 (i + 1)  (by omega) (by omega)
            rw [show glS gp gl lit (i + 1) = glC (gp i) (gl i) lit (glS gp gl lit i) from rfl, show glC (gp i) (gl i) lit (glS gp gl lit i) = _ from by rw [glC, if_neg c29, if_pos c47]] at ihx
            exact ihx _ _ hP hD hS _ (lv_sub hl [0, 1, 3, 4] rfl)
          · refine lv_iload hx hb dX2_glareOn_50 (lv_at hl 0 rfl) ?_
            refine lv_bipush (v := 11) hx hb dX2_glareOn_52 (by decide) ?_
            refine lv_icmp_ne (tgt := 68) hx hb dX2_glareOn_54 (by decide) (fun c54 => ?_) (fun c54 => ?_)
            · refine lv_iinc (v := nI (i + 1)) (lv' := [(3, .int (nI (i + 1))), (4, .int (fmod (gp i - lit) 12)), (2, .int (glS gp gl lit i)), (0, .ref d0), (1, .int lit)]) hx hb dX2_glareOn_68 hl (k := 1) rfl (nI_inc i) (by decide) rfl (fun ls hl => ?_)
              refine lv_goto (tgt := 4) hx hb dX2_glareOn_71 (by decide) ?_
              have ihx := ih4 (i + 1)  (by omega) (by omega)
              rw [show glS gp gl lit (i + 1) = glC (gp i) (gl i) lit (glS gp gl lit i) from rfl, show glC (gp i) (gl i) lit (glS gp gl lit i) = _ from by rw [glC, if_neg c29, if_neg c47, if_neg c54]] at ihx
              exact ihx _ _ hP hD hS _ (lv_sub hl [0, 2, 3, 4] rfl)
            · refine lv_iload_n hx hb dX2_glareOn_57 rfl (lv_at hl 2 rfl) ?_
              refine lv_aload_n hx hb dX2_glareOn_58 rfl (lv_at hl 3 rfl) ?_
              refine va_get (D := D) (ci := 2) (v := .ref d2) (C := RX2) (T := TX2) (N := 6) hx hb hts iX2_glareOn_X2 hown hk.1 hP 0 rfl rfl 2 (by decide) (hts _ mX2_glareOn_f15) (fun _ h9 => h9) rfl dX2_glareOn_59 ?_
              refine lv_iload_n hx hb dX2_glareOn_62 rfl (lv_at hl 1 rfl) ?_
              refine aldN hx hb hk hP 2 rfl i rfl (by omega) (Nat.le_of_ble_eq_true rfl) dX2_glareOn_63 ?_
              refine lv_iconst (v := 4) hx hb dX2_glareOn_64 (by decide) ?_
              refine lv_idiv hx hb dX2_glareOn_65 (by decide) ?_
              refine lv_iadd hx hb dX2_glareOn_66 ?_
              refine lv_istore_n (lv' := [(2, .int ((glS gp gl lit i) + (((gl i) / 4)))), (4, .int (fmod (gp i - lit) 12)), (3, .int (nI i)), (0, .ref d0), (1, .int lit)]) hx hb dX2_glareOn_67 rfl hl (by decide) rfl (fun ls hl => ?_)
              refine lv_iinc (v := nI (i + 1)) (lv' := [(3, .int (nI (i + 1))), (2, .int ((glS gp gl lit i) + (((gl i) / 4)))), (4, .int (fmod (gp i - lit) 12)), (0, .ref d0), (1, .int lit)]) hx hb dX2_glareOn_68 hl (k := 2) rfl (nI_inc i) (by decide) rfl (fun ls hl => ?_)
              refine lv_goto (tgt := 4) hx hb dX2_glareOn_71 (by decide) ?_
              have ihx := ih4 (i + 1)  (by omega) (by omega)
              rw [show glS gp gl lit (i + 1) = glC (gp i) (gl i) lit (glS gp gl lit i) from rfl, show glC (gp i) (gl i) lit (glS gp gl lit i) = _ from by rw [glC, if_neg c29, if_neg c47, if_pos c54]] at ihx
              exact ihx _ _ hP hD hS _ (lv_sub hl [0, 1, 3, 4] rfl)
        · refine lv_iload_n hx hb dX2_glareOn_32 rfl (lv_at hl 2 rfl) ?_
          refine lv_aload_n hx hb dX2_glareOn_33 rfl (lv_at hl 3 rfl) ?_
          refine va_get (D := D) (ci := 2) (v := .ref d2) (C := RX2) (T := TX2) (N := 6) hx hb hts iX2_glareOn_X2 hown hk.1 hP 0 rfl rfl 2 (by decide) (hts _ mX2_glareOn_f15) (fun _ h9 => h9) rfl dX2_glareOn_34 ?_
          refine lv_iload_n hx hb dX2_glareOn_37 rfl (lv_at hl 1 rfl) ?_
          refine aldN hx hb hk hP 2 rfl i rfl (by omega) (Nat.le_of_ble_eq_true rfl) dX2_glareOn_38 ?_
          refine lv_iadd hx hb dX2_glareOn_39 ?_
          refine lv_istore_n (lv' := [(2, .int ((glS gp gl lit i) + (gl i))), (4, .int (fmod (gp i - lit) 12)), (3, .int (nI i)), (0, .ref d0), (1, .int lit)]) hx hb dX2_glareOn_40 rfl hl (by decide) rfl (fun ls hl => ?_)
          refine lv_goto (tgt := 68) hx hb dX2_glareOn_41 (by decide) ?_
          refine lv_iinc (v := nI (i + 1)) (lv' := [(3, .int (nI (i + 1))), (2, .int ((glS gp gl lit i) + (gl i))), (4, .int (fmod (gp i - lit) 12)), (0, .ref d0), (1, .int lit)]) hx hb dX2_glareOn_68 hl (k := 2) rfl (nI_inc i) (by decide) rfl (fun ls hl => ?_)
          refine lv_goto (tgt := 4) hx hb dX2_glareOn_71 (by decide) ?_
          have ihx := ih4 (i + 1)  (by omega) (by omega)
          rw [show glS gp gl lit (i + 1) = glC (gp i) (gl i) lit (glS gp gl lit i) from rfl, show glC (gp i) (gl i) lit (glS gp gl lit i) = _ from by rw [glC, if_pos c29]] at ihx
          exact ihx _ _ hP hD hS _ (lv_sub hl [0, 1, 3, 4] rfl)
  exact key4 (n + 1) 0  (by omega) (by omega) _ _ hP hD hS _ (lv_sub hl [0, 1, 2, 3] rfl)

theorem mX2_fact_f9 : (.fieldLink RX2 9 "StarConsole$Dimmers" "part" "[I" : Cond) ∈ wsX2_fact := by decide +kernel
theorem iX2_fact_X2 : ∀ w ∈ wsX20, w ∈ wsX2_fact := by decide +kernel
theorem mX2_fact_f15 : (.fieldLink RX2 15 "StarConsole$Dimmers" "level" "[I" : Cond) ∈ wsX2_fact := by decide +kernel
theorem mX2_fact_f18 : (.fieldLink RX2 18 "StarConsole$Dimmers" "aim" "[I" : Cond) ∈ wsX2_fact := by decide +kernel
theorem mX2_fact_f21 : (.fieldLink RX2 21 "StarConsole$Dimmers" "pace" "[I" : Cond) ∈ wsX2_fact := by decide +kernel
theorem mX2_fact_f24 : (.fieldLink RX2 24 "StarConsole$Dimmers" "life" "[I" : Cond) ∈ wsX2_fact := by decide +kernel
theorem hX2_fact : yX2_fact.cls = RX2 ∧ yX2_fact.cls ≠ "java/lang/invoke/MethodHandle" ∧ yX2_fact.cls ≠ "java/lang/invoke/VarHandle" ∧ (parseMethodDescriptor yX2_fact.desc).map (fun d => d.parameters.length) = some 2 := by decide +kernel
set_option maxHeartbeats 4000000 in
set_option maxRecDepth 100000 in
theorem tX2_fact (l : Launch) (D : va_G) (cI : ClassId) (d0 d1 d2 d3 d4 d5 n : Nat) (g : Mx) (k : Nat) (w : Int32) (hn : n ≤ 8) (hk8 : k < n) : CI l yX2_fact wsX2_fact ({ frames := 1, cells := 0, slots := 0, locals := 21 } : Room) D cI ([.ref d0, .int (nI k), .int w] : List Value) [(d0, .inr (2, [.int (nI n), .ref d1, .ref d2, .ref d3, .ref d4, .ref d5])), (d1, .inl (cI, 8, .inl (g 0))), (d2, .inl (cI, 8, .inl (g 1))), (d3, .inl (cI, 8, .inl (g 2))), (d4, .inl (cI, 8, .inl (g 3))), (d5, .inl (cI, 8, .inl (g 4)))] (fcD g k w) [(d0, .inr (2, [.int (nI n), .ref d1, .ref d2, .ref d3, .ref d4, .ref d5])), (d1, .inl (cI, 8, .inl (g 0))), (d2, .inl (cI, 8, .inl (g 1))), (d3, .inl (cI, 8, .inl (g 2))), (d4, .inl (cI, 8, .inl (g 3))), (d5, .inl (cI, 8, .inl (g 4)))] := by
  refine entI (cc := cX2_fact) (maxL := 3) (ret := (some .int)) (by decide) rfl (Nat.le_of_ble_eq_true rfl) (fun p e s m below meth c A ls fx hl => ?_)
  obtain ⟨hx, hb, hr, hml, hown, hts, hlocks, hk, hP, hD, hA⟩ := fx
  have hown : s.vm.findClass RX2 = some m.cls := hown
  have hS : va_S A s.heap s.heap [] := va_S.rf
  have hP : va_P D vwCl [(d0, .inr (2, [.int (nI n), .ref d1, .ref d2, .ref d3, .ref d4, .ref d5])), (d1, .inl (cI, 8, .inl (g 0))), (d2, .inl (cI, 8, .inl (g 1))), (d3, .inl (cI, 8, .inl (g 2))), (d4, .inl (cI, 8, .inl (g 3))), (d5, .inl (cI, 8, .inl (g 4)))] s.heap := hP
  have hD : va_D A [(d0, .inr (2, [.int (nI n), .ref d1, .ref d2, .ref d3, .ref d4, .ref d5])), (d1, .inl (cI, 8, .inl (g 0))), (d2, .inl (cI, 8, .inl (g 1))), (d3, .inl (cI, 8, .inl (g 2))), (d4, .inl (cI, 8, .inl (g 3))), (d5, .inl (cI, 8, .inl (g 4)))] := hD
  have hl : lv_has ls 3 [(0, .ref d0), (1, .int (nI k)), (2, .int w)] := hl
  refine lv_aload_n hx hb dX2_fact_0 rfl (lv_at hl 0 rfl) ?_
  refine lv_iload_n hx hb dX2_fact_1 rfl (lv_at hl 1 rfl) ?_
  refine frI (wc := [(d0, .inr (2, [.int (nI n), .ref d1, .ref d2, .ref d3, .ref d4, .ref d5]))]) (wc' := [(d0, .inr (2, [.int (nI n), .ref d1, .ref d2, .ref d3, .ref d4, .ref d5]))]) (w' := [(d0, .inr (2, [.int (nI n), .ref d1, .ref d2, .ref d3, .ref d4, .ref d5])), (d1, .inl (cI, 8, .inl (g 0))), (d2, .inl (cI, 8, .inl (g 1))), (d3, .inl (cI, 8, .inl (g 2))), (d4, .inl (cI, 8, .inl (g 3))), (d5, .inl (cI, 8, .inl (g 4)))]) hP hD hS hA [0] [1, 2, 3, 4, 5] [5, 0, 1, 2, 3, 4] rfl rfl rfl rfl rfl (va_runV (As := [.int (nI k)]) (rest := []) ⟨hx, hb, hml, hown, hts⟩ (tX2_has l D cI d0 d1 d2 d3 d4 d5 n (nI k) (by omega) _) (cwV 1 hts gX2_fact_X2_has rfl rfl rfl hX2_has ⟨Nat.le_of_ble_eq_true rfl, Nat.le_of_ble_eq_true rfl⟩) (preV_of hk hP hD [0] rfl rfl (recvO hk hP (ci := 2) (q0 := 0) rfl rfl)) rfl rfl hl.1 rfl (lv_room (Nat.le_of_ble_eq_true rfl)) dX2_fact_2 ⟨Nat.le_of_ble_eq_true rfl, Nat.le_of_ble_eq_true rfl⟩) (fun H locs hP hD hS => ?_)
  refine top_int (hasI_1 (by omega) (by omega)) ?_
  refine lv_if_ne (tgt := 10) hx hb dX2_fact_5 (by decide) (fun _ => ?_) (fun h => absurd h (by decide))
  refine lv_iload_n hx hb dX2_fact_10 rfl (lv_at hl 2 rfl) ?_
  by_cases e0 : w = 0
  · refine top_int e0 ?_
    refine lv_tableIn (off := 29) (tgt := 40) hx hb dX2_fact_11 (by decide) (by decide) (by decide) (by decide) ?_
    refine lv_aload_n hx hb dX2_fact_40 rfl (lv_at hl 0 rfl) ?_
    refine va_get (D := D) (ci := 2) (v := .ref d1) (C := RX2) (T := TX2) (N := 6) hx hb hts iX2_fact_X2 hown hk.1 hP 0 rfl rfl 1 (by decide) (hts _ mX2_fact_f9) (fun _ h9 => h9) rfl dX2_fact_41 ?_
    refine lv_iload_n hx hb dX2_fact_44 rfl (lv_at hl 1 rfl) ?_
    refine aldN hx hb hk hP 1 rfl k rfl (by omega) (Nat.le_of_ble_eq_true rfl) dX2_fact_45 ?_
    exact retI hx hb hr hlocks hS hP hD dX2_fact_46 (by rw [fcD, if_pos e0]) rfl
  by_cases e1 : w = 1
  · refine top_int e1 ?_
    refine lv_tableIn (off := 36) (tgt := 47) hx hb dX2_fact_11 (by decide) (by decide) (by decide) (by decide) ?_
    refine lv_aload_n hx hb dX2_fact_47 rfl (lv_at hl 0 rfl) ?_
    refine va_get (D := D) (ci := 2) (v := .ref d2) (C := RX2) (T := TX2) (N := 6) hx hb hts iX2_fact_X2 hown hk.1 hP 0 rfl rfl 2 (by decide) (hts _ mX2_fact_f15) (fun _ h9 => h9) rfl dX2_fact_48 ?_
    refine lv_iload_n hx hb dX2_fact_51 rfl (lv_at hl 1 rfl) ?_
    refine aldN hx hb hk hP 2 rfl k rfl (by omega) (Nat.le_of_ble_eq_true rfl) dX2_fact_52 ?_
    exact retI hx hb hr hlocks hS hP hD dX2_fact_53 (by rw [fcD, if_neg e0, if_pos e1]) rfl
  by_cases e2 : w = 2
  · refine top_int e2 ?_
    refine lv_tableIn (off := 43) (tgt := 54) hx hb dX2_fact_11 (by decide) (by decide) (by decide) (by decide) ?_
    refine lv_aload_n hx hb dX2_fact_54 rfl (lv_at hl 0 rfl) ?_
    refine va_get (D := D) (ci := 2) (v := .ref d3) (C := RX2) (T := TX2) (N := 6) hx hb hts iX2_fact_X2 hown hk.1 hP 0 rfl rfl 3 (by decide) (hts _ mX2_fact_f18) (fun _ h9 => h9) rfl dX2_fact_55 ?_
    refine lv_iload_n hx hb dX2_fact_58 rfl (lv_at hl 1 rfl) ?_
    refine aldN hx hb hk hP 3 rfl k rfl (by omega) (Nat.le_of_ble_eq_true rfl) dX2_fact_59 ?_
    exact retI hx hb hr hlocks hS hP hD dX2_fact_60 (by rw [fcD, if_neg e0, if_neg e1, if_pos e2]) rfl
  by_cases e3 : w = 3
  · refine top_int e3 ?_
    refine lv_tableIn (off := 50) (tgt := 61) hx hb dX2_fact_11 (by decide) (by decide) (by decide) (by decide) ?_
    refine lv_aload_n hx hb dX2_fact_61 rfl (lv_at hl 0 rfl) ?_
    refine va_get (D := D) (ci := 2) (v := .ref d4) (C := RX2) (T := TX2) (N := 6) hx hb hts iX2_fact_X2 hown hk.1 hP 0 rfl rfl 4 (by decide) (hts _ mX2_fact_f21) (fun _ h9 => h9) rfl dX2_fact_62 ?_
    refine lv_iload_n hx hb dX2_fact_65 rfl (lv_at hl 1 rfl) ?_
    refine aldN hx hb hk hP 4 rfl k rfl (by omega) (Nat.le_of_ble_eq_true rfl) dX2_fact_66 ?_
    exact retI hx hb hr hlocks hS hP hD dX2_fact_67 (by rw [fcD, if_neg e0, if_neg e1, if_neg e2, if_pos e3]) rfl
  refine lv_tableOut (tgt := 68) hx hb dX2_fact_11 (tsw4 e0 e1 e2 e3) (by decide) ?_
  refine lv_aload_n hx hb dX2_fact_68 rfl (lv_at hl 0 rfl) ?_
  refine va_get (D := D) (ci := 2) (v := .ref d5) (C := RX2) (T := TX2) (N := 6) hx hb hts iX2_fact_X2 hown hk.1 hP 0 rfl rfl 5 (by decide) (hts _ mX2_fact_f24) (fun _ h9 => h9) rfl dX2_fact_69 ?_
  refine lv_iload_n hx hb dX2_fact_72 rfl (lv_at hl 1 rfl) ?_
  refine aldN hx hb hk hP 5 rfl k rfl (by omega) (Nat.le_of_ble_eq_true rfl) dX2_fact_73 ?_
  exact retI hx hb hr hlocks hS hP hD dX2_fact_74 (by rw [fcD, if_neg e0, if_neg e1, if_neg e2, if_neg e3]) rfl
