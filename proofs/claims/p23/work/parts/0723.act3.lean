

theorem hL_act : yL_act.cls = RL ∧ yL_act.cls ≠ "java/lang/invoke/MethodHandle" ∧ yL_act.cls ≠ "java/lang/invoke/VarHandle" ∧ (parseMethodDescriptor yL_act.desc).map (fun d => d.parameters.length) = some 3 := by decide +kernel
set_option maxHeartbeats 4000000 in
set_option maxRecDepth 100000 in
theorem tL_act (l : Launch) (D : va_G) (cI : ClassId) (cA : ClassId) (ad : Nat → Nat) (z0 tm nD nT nC nZ : Nat) (st cu : Mx) (S Z : SH) (zd zt zk zu : Nat) (pd pt pk pu : Nat → Nat) (x : Int32) (hok : pOK tm nD nT nC st cu S) : CG l yL_act wsL_act ({ frames := 4, cells := 2, slots := 30, locals := 87 } : Room) D cI cA ([.ref (ad 0), .ref z0, .int x] : List Value) ([(z0, .inr (6, [.ref zd, .ref zt, .ref zk, .ref zu, .int (S.1 0), .int (S.1 1), .int (S.1 2), .int (S.1 3), .int (S.1 4), .int (S.1 5), .int (S.1 6)])), (zd, .inl (cA, nD, .inr (.inr (.inr (.inr (fun v9 => some (pd v9))))))), (zt, .inl (cA, nT, .inr (.inr (.inr (.inr (fun v9 => some (pt v9))))))), (zk, .inl (cA, S.2.2.1, .inr (.inr (.inr (.inr (fun v9 => some (pk v9))))))), (zu, .inl (cA, nC, .inr (.inr (.inr (.inr (fun v9 => some (pu v9)))))))] ++ (RO cI pd pt pk pu nD nT S.2.2.1 nC S.2.1 st S.2.2.2 cu ++ KW cI ad nD nT nC nZ st cu S Z)) (fun r => r = 1) (fun A H => GW D cI cA ad z0 tm A H) 2 30 := by
  obtain ⟨⟨hn8, hT20, hC24, ⟨hK12, hgO, hcO, hr2, hb5, hb6⟩, htO, hqO⟩, hlO, hsO, h3O, hckO⟩ := id hok
  refine entG (cc := cL_act) (maxL := 15) (ret := (some .boolean)) (by decide) rfl (Nat.le_of_ble_eq_true rfl) (fun p e s m below meth c A ls hkr fx hl => ?_)
  have fx0 := fx
  obtain ⟨hx, hb, hr, hml, hown, hts, hlocks, hk, hP, hD, hA⟩ := fx
  have hown : s.vm.findClass RL = some m.cls := hown
  have hS : va_S A s.heap s.heap [] := va_S.rf
  have hP : va_P D vwCl ([(z0, .inr (6, [.ref zd, .ref zt, .ref zk, .ref zu, .int (S.1 0), .int (S.1 1), .int (S.1 2), .int (S.1 3), .int (S.1 4), .int (S.1 5), .int (S.1 6)])), (zd, .inl (cA, nD, .inr (.inr (.inr (.inr (fun v9 => some (pd v9))))))), (zt, .inl (cA, nT, .inr (.inr (.inr (.inr (fun v9 => some (pt v9))))))), (zk, .inl (cA, S.2.2.1, .inr (.inr (.inr (.inr (fun v9 => some (pk v9))))))), (zu, .inl (cA, nC, .inr (.inr (.inr (.inr (fun v9 => some (pu v9)))))))] ++ (RO cI pd pt pk pu nD nT S.2.2.1 nC S.2.1 st S.2.2.2 cu ++ KW cI ad nD nT nC nZ st cu S Z)) s.heap := hP
  have hD : va_D A ([(z0, .inr (6, [.ref zd, .ref zt, .ref zk, .ref zu, .int (S.1 0), .int (S.1 1), .int (S.1 2), .int (S.1 3), .int (S.1 4), .int (S.1 5), .int (S.1 6)])), (zd, .inl (cA, nD, .inr (.inr (.inr (.inr (fun v9 => some (pd v9))))))), (zt, .inl (cA, nT, .inr (.inr (.inr (.inr (fun v9 => some (pt v9))))))), (zk, .inl (cA, S.2.2.1, .inr (.inr (.inr (.inr (fun v9 => some (pk v9))))))), (zu, .inl (cA, nC, .inr (.inr (.inr (.inr (fun v9 => some (pu v9)))))))] ++ (RO cI pd pt pk pu nD nT S.2.2.1 nC S.2.1 st S.2.2.2 cu ++ KW cI ad nD nT nC nZ st cu S Z)) := hD
  have hl : lv_has ls 15 [(0, .ref (ad 0)), (1, .ref z0), (2, .int x)] := hl
  refine lv_aload_n hx hb dL_act_0 rfl (lv_at hl 1 rfl) ?_
  refine va_get (D := D) (ci := 6) (v := .ref zd) (C := RX6) (T := TX6) (N := 11) hx hb hts iL_act_X6 hown hk.1 hP 0 rfl rfl 0 (by decide) (hts _ mL_act_f9) (fun _ h9 => h9) rfl dL_act_1 ?_
  refine alenR hx hb (kR.arr hkr) hP 1 rfl dL_act_4 ?_
  refine lv_istore_n (lv' := [(3, .int (nI nD)), (0, .ref (ad 0)), (1, .ref z0), (2, .int x)]) hx hb dL_act_5 rfl hl (by decide) rfl (fun ls hl => ?_)
  by_cases hz0 : nD = 0
  · have hz1 : nI nD = 0 := by rw [hz0]; rfl
    refine lv_iload_n hx hb dL_act_6 rfl (lv_at hl 0 rfl) ?_
    refine lv_if_ne (tgt := 14) hx hb dL_act_7 (by decide) (fun h => absurd hz1 h) (fun _ => ?_)
    refine lv_iconst (v := 0) hx hb dL_act_10 (by decide) ?_
    refine lv_goto (tgt := 19) hx hb dL_act_11 (by decide) ?_
    refine lv_istore (lv' := [(4, .int 0), (3, .int (nI nD)), (0, .ref (ad 0)), (1, .ref z0), (2, .int x)]) hx hb dL_act_19 hl (by decide) rfl (fun ls hl => ?_)
    refine lv_iload_n hx hb dL_act_21 rfl (lv_at hl 1 rfl) ?_
    refine lv_if_ne (tgt := 29) hx hb dL_act_22 (by decide) (fun h => absurd hz1 h) (fun _ => ?_)
    refine lv_iconst (v := 0) hx hb dL_act_25 (by decide) ?_
    refine lv_goto (tgt := 38) hx hb dL_act_26 (by decide) ?_
    refine lv_tableIn (off := 66) (tgt := 104) hx hb dL_act_38 (by decide) (by decide) (by decide) (by decide) ?_
    exact tL_act_dimmer l D cI cA _ ad z0 tm nD nT nC nZ st cu S Z zd zt zk zu pd pt pk pu x  hok  p e s m below meth c A hkr fx0 _ _ hP hD hS _ (lv_sub hl [2, 3, 4, 1] rfl) 0 0 (by omega) (by omega)
  · have hz : ¬ nI nD = 0 := nI_ne0 (by omega) (by omega)
    refine lv_iload_n hx hb dL_act_6 rfl (lv_at hl 0 rfl) ?_
    refine lv_if_ne (tgt := 14) hx hb dL_act_7 (by decide) (fun _ => ?_) (fun h => absurd h hz)
    refine lv_iload_n hx hb dL_act_14 rfl (lv_at hl 3 rfl) ?_
    refine lv_iload_n hx hb dL_act_15 rfl (lv_at hl 0 rfl) ?_
    refine frI0 hP hD hS hA (va_runS (As := [.int x, .int (nI nD)]) (rest := []) ⟨hx, hb, hml, hown, hts⟩ (tL_below l D cI x (nI nD) hz _) (va_cwS 2 hts gL_act_L_below rfl rfl rfl hL_below.2 ⟨Nat.le_of_ble_eq_true rfl, Nat.le_of_ble_eq_true rfl⟩) (preS0 hk) rfl rfl hl.1 rfl (lv_room (Nat.le_of_ble_eq_true rfl)) dL_act_16 ⟨(show 0 + 0 ≤ 2 by omega), (show 0 + 0 ≤ 30 by omega)⟩) (fun H locs hP hD hS => ?_)
    have hP : va_P D vwCl ([(z0, .inr (6, [.ref zd, .ref zt, .ref zk, .ref zu, .int (S.1 0), .int (S.1 1), .int (S.1 2), .int (S.1 3), .int (S.1 4), .int (S.1 5), .int (S.1 6)])), (zd, .inl (cA, nD, .inr (.inr (.inr (.inr (fun v9 => some (pd v9))))))), (zt, .inl (cA, nT, .inr (.inr (.inr (.inr (fun v9 => some (pt v9))))))), (zk, .inl (cA, S.2.2.1, .inr (.inr (.inr (.inr (fun v9 => some (pk v9))))))), (zu, .inl (cA, nC, .inr (.inr (.inr (.inr (fun v9 => some (pu v9)))))))] ++ (RO cI pd pt pk pu nD nT S.2.2.1 nC S.2.1 st S.2.2.2 cu ++ KW cI ad nD nT nC nZ st cu S Z)) H := hP
    have hD : va_D A ([(z0, .inr (6, [.ref zd, .ref zt, .ref zk, .ref zu, .int (S.1 0), .int (S.1 1), .int (S.1 2), .int (S.1 3), .int (S.1 4), .int (S.1 5), .int (S.1 6)])), (zd, .inl (cA, nD, .inr (.inr (.inr (.inr (fun v9 => some (pd v9))))))), (zt, .inl (cA, nT, .inr (.inr (.inr (.inr (fun v9 => some (pt v9))))))), (zk, .inl (cA, S.2.2.1, .inr (.inr (.inr (.inr (fun v9 => some (pk v9))))))), (zu, .inl (cA, nC, .inr (.inr (.inr (.inr (fun v9 => some (pu v9)))))))] ++ (RO cI pd pt pk pu nD nT S.2.2.1 nC S.2.1 st S.2.2.2 cu ++ KW cI ad nD nT nC nZ st cu S Z)) := hD
    obtain ⟨j1, hj1, ej1⟩ := bel_n (x) (n := nD) (m := nI nD) rfl (by omega) (by omega)
    refine top_int ej1 ?_
    refine lv_istore (lv' := [(4, .int (nI j1)), (3, .int (nI nD)), (0, .ref (ad 0)), (1, .ref z0), (2, .int x)]) hx hb dL_act_19 hl (by decide) rfl (fun ls hl => ?_)
    refine lv_iload_n hx hb dL_act_21 rfl (lv_at hl 1 rfl) ?_
    refine lv_if_ne (tgt := 29) hx hb dL_act_22 (by decide) (fun _ => ?_) (fun h => absurd h hz)
    refine lv_iload_n hx hb dL_act_29 rfl (lv_at hl 4 rfl) ?_
    refine lv_bipush (v := 9) hx hb dL_act_30 (by decide) ?_
    refine lv_ishr hx hb dL_act_32 ?_
    refine lv_bipush (v := 16) hx hb dL_act_33 (by decide) ?_
    refine frI0 hP hD hS hA (va_runS (As := [.int (x >>> (9 &&& 31)), .int 16]) (rest := []) ⟨hx, hb, hml, hown, hts⟩ (tL_below l D cI ((x >>> (9 &&& 31))) 16 (by decide) _) (va_cwS 2 hts gL_act_L_below rfl rfl rfl hL_below.2 ⟨Nat.le_of_ble_eq_true rfl, Nat.le_of_ble_eq_true rfl⟩) (preS0 hk) rfl rfl hl.1 rfl (lv_room (Nat.le_of_ble_eq_true rfl)) dL_act_35 ⟨(show 0 + 0 ≤ 2 by omega), (show 0 + 0 ≤ 30 by omega)⟩) (fun H locs hP hD hS => ?_)
    have hP : va_P D vwCl ([(z0, .inr (6, [.ref zd, .ref zt, .ref zk, .ref zu, .int (S.1 0), .int (S.1 1), .int (S.1 2), .int (S.1 3), .int (S.1 4), .int (S.1 5), .int (S.1 6)])), (zd, .inl (cA, nD, .inr (.inr (.inr (.inr (fun v9 => some (pd v9))))))), (zt, .inl (cA, nT, .inr (.inr (.inr (.inr (fun v9 => some (pt v9))))))), (zk, .inl (cA, S.2.2.1, .inr (.inr (.inr (.inr (fun v9 => some (pk v9))))))), (zu, .inl (cA, nC, .inr (.inr (.inr (.inr (fun v9 => some (pu v9)))))))] ++ (RO cI pd pt pk pu nD nT S.2.2.1 nC S.2.1 st S.2.2.2 cu ++ KW cI ad nD nT nC nZ st cu S Z)) H := hP
    have hD : va_D A ([(z0, .inr (6, [.ref zd, .ref zt, .ref zk, .ref zu, .int (S.1 0), .int (S.1 1), .int (S.1 2), .int (S.1 3), .int (S.1 4), .int (S.1 5), .int (S.1 6)])), (zd, .inl (cA, nD, .inr (.inr (.inr (.inr (fun v9 => some (pd v9))))))), (zt, .inl (cA, nT, .inr (.inr (.inr (.inr (fun v9 => some (pt v9))))))), (zk, .inl (cA, S.2.2.1, .inr (.inr (.inr (.inr (fun v9 => some (pk v9))))))), (zu, .inl (cA, nC, .inr (.inr (.inr (.inr (fun v9 => some (pu v9)))))))] ++ (RO cI pd pt pk pu nD nT S.2.2.1 nC S.2.1 st S.2.2.2 cu ++ KW cI ad nD nT nC nZ st cu S Z)) := hD
    obtain ⟨j2, hj2, ej2⟩ := bel_n ((x >>> (9 &&& 31))) (n := 16) (m := 16) rfl (by omega) (by omega)
    refine top_int ej2 ?_
    rcases (show j2 = 0 ∨ j2 = 1 ∨ j2 = 2 ∨ j2 = 3 ∨ j2 = 4 ∨ j2 = 5 ∨ j2 = 6 ∨ j2 = 7 ∨ j2 = 8 ∨ j2 = 9 ∨ j2 = 10 ∨ j2 = 11 ∨ j2 = 12 ∨ 13 ≤ j2 by omega) with rfl | rfl | rfl | rfl | rfl | rfl | rfl | rfl | rfl | rfl | rfl | rfl | rfl | hj13
    · refine lv_tableIn (off := 66) (tgt := 104) hx hb dL_act_38 (by decide) (by decide) (by decide) (by decide) ?_
      exact tL_act_dimmer l D cI cA _ ad z0 tm nD nT nC nZ st cu S Z zd zt zk zu pd pt pk pu x  hok  p e s m below meth c A hkr fx0 _ _ hP hD hS _ (lv_sub hl [2, 3, 4, 1] rfl) 0 0 (by omega) (by omega)
    · refine lv_tableIn (off := 177) (tgt := 215) hx hb dL_act_38 (by decide) (by decide) (by decide) (by decide) ?_
      exact tL_act_lamp l D cI cA _ ad z0 tm nD nT nC nZ st cu S Z zd zt zk zu pd pt pk pu x j1 hok (by omega) p e s m below meth c A hkr fx0 _ _ hP hD hS _ (lv_sub hl [2, 3, 4, 1, 0] rfl) 0 0 (by omega) (by omega)
    · refine lv_tableIn (off := 269) (tgt := 307) hx hb dL_act_38 (by decide) (by decide) (by decide) (by decide) ?_
      exact tL_act_star l D cI cA _ ad z0 tm nD nT nC nZ st cu S Z zd zt zk zu pd pt pk pu x  hok  p e s m below meth c A hkr fx0 _ _ hP hD hS _ (lv_sub hl [2, 3, 4] rfl) 0 0 (by omega) (by omega)
    · refine lv_tableIn (off := 269) (tgt := 307) hx hb dL_act_38 (by decide) (by decide) (by decide) (by decide) ?_
      exact tL_act_star l D cI cA _ ad z0 tm nD nT nC nZ st cu S Z zd zt zk zu pd pt pk pu x  hok  p e s m below meth c A hkr fx0 _ _ hP hD hS _ (lv_sub hl [2, 3, 4] rfl) 0 0 (by omega) (by omega)
    · refine lv_tableIn (off := 359) (tgt := 397) hx hb dL_act_38 (by decide) (by decide) (by decide) (by decide) ?_
      exact tL_act_cue l D cI cA _ ad z0 tm nD nT nC nZ st cu S Z zd zt zk zu pd pt pk pu x j1 hok (by omega) p e s m below meth c A hkr fx0 _ _ hP hD hS _ (lv_sub hl [2, 3, 4, 1, 0] rfl) 0 0 (by omega) (by omega)
    · refine lv_tableIn (off := 359) (tgt := 397) hx hb dL_act_38 (by decide) (by decide) (by decide) (by decide) ?_
      exact tL_act_cue l D cI cA _ ad z0 tm nD nT nC nZ st cu S Z zd zt zk zu pd pt pk pu x j1 hok (by omega) p e s m below meth c A hkr fx0 _ _ hP hD hS _ (lv_sub hl [2, 3, 4, 1, 0] rfl) 0 0 (by omega) (by omega)
    · refine lv_tableIn (off := 359) (tgt := 397) hx hb dL_act_38 (by decide) (by decide) (by decide) (by decide) ?_
      exact tL_act_cue l D cI cA _ ad z0 tm nD nT nC nZ st cu S Z zd zt zk zu pd pt pk pu x j1 hok (by omega) p e s m below meth c A hkr fx0 _ _ hP hD hS _ (lv_sub hl [2, 3, 4, 1, 0] rfl) 0 0 (by omega) (by omega)
    · refine lv_tableIn (off := 359) (tgt := 397) hx hb dL_act_38 (by decide) (by decide) (by decide) (by decide) ?_
      exact tL_act_cue l D cI cA _ ad z0 tm nD nT nC nZ st cu S Z zd zt zk zu pd pt pk pu x j1 hok (by omega) p e s m below meth c A hkr fx0 _ _ hP hD hS _ (lv_sub hl [2, 3, 4, 1, 0] rfl) 0 0 (by omega) (by omega)
    · refine lv_tableIn (off := 359) (tgt := 397) hx hb dL_act_38 (by decide) (by decide) (by decide) (by decide) ?_
      exact tL_act_cue l D cI cA _ ad z0 tm nD nT nC nZ st cu S Z zd zt zk zu pd pt pk pu x j1 hok (by omega) p e s m below meth c A hkr fx0 _ _ hP hD hS _ (lv_sub hl [2, 3, 4, 1, 0] rfl) 0 0 (by omega) (by omega)
    · refine lv_tableIn (off := 602) (tgt := 640) hx hb dL_act_38 (by decide) (by decide) (by decide) (by decide) ?_
      exact tL_act_run l D cI cA _ ad z0 tm nD nT nC nZ st cu S Z zd zt zk zu pd pt pk pu x  hok  p e s m below meth c A hkr fx0 _ _ hP hD hS _ (lv_sub hl [2, 3, 4] rfl) 0 0 (by omega) (by omega)
    · refine lv_tableIn (off := 602) (tgt := 640) hx hb dL_act_38 (by decide) (by decide) (by decide) (by decide) ?_
      exact tL_act_run l D cI cA _ ad z0 tm nD nT nC nZ st cu S Z zd zt zk zu pd pt pk pu x  hok  p e s m below meth c A hkr fx0 _ _ hP hD hS _ (lv_sub hl [2, 3, 4] rfl) 0 0 (by omega) (by omega)
    · refine lv_tableIn (off := 602) (tgt := 640) hx hb dL_act_38 (by decide) (by decide) (by decide) (by decide) ?_
      exact tL_act_run l D cI cA _ ad z0 tm nD nT nC nZ st cu S Z zd zt zk zu pd pt pk pu x  hok  p e s m below meth c A hkr fx0 _ _ hP hD hS _ (lv_sub hl [2, 3, 4] rfl) 0 0 (by omega) (by omega)
    · refine lv_tableIn (off := 635) (tgt := 673) hx hb dL_act_38 (by decide) (by decide) (by decide) (by decide) ?_
      exact tL_act_jump l D cI cA _ ad z0 tm nD nT nC nZ st cu S Z zd zt zk zu pd pt pk pu x  hok  p e s m below meth c A hkr fx0 _ _ hP hD hS _ (lv_sub hl [2, 3, 4] rfl) 0 0 (by omega) (by omega)
    refine lv_tableOut (tgt := 732) hx hb dL_act_38 (Or.inr (by rw [nI_toInt (by omega)]; omega)) (by decide) ?_
    exact tL_act_fade l D cI cA _ ad z0 tm nD nT nC nZ st cu S Z zd zt zk zu pd pt pk pu x j1 hok (by omega) p e s m below meth c A hkr fx0 _ _ hP hD hS _ (lv_sub hl [2, 3, 4, 1, 0] rfl) 0 0 (by omega) (by omega)
