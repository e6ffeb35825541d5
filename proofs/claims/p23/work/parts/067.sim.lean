

theorem hX6_turned : yX6_turned.cls = RX6 ∧ yX6_turned.cls ≠ "java/lang/invoke/MethodHandle" ∧ yX6_turned.cls ≠ "java/lang/invoke/VarHandle" ∧ (parseMethodDescriptor yX6_turned.desc).map (fun d => d.parameters.length) = some 2 := by decide +kernel
set_option maxHeartbeats 4000000 in
set_option maxRecDepth 100000 in
theorem tX6_turned (l : Launch) (D : va_G) (cI : ClassId) (a b : Int32)  : CI l yX6_turned wsX6_turned ({ frames := 0, cells := 0, slots := 0, locals := 0 } : Room) D cI ([.int a, .int b] : List Value) [] (tsI a b) [] := by
  refine entI (cc := cX6_turned) (maxL := 3) (ret := (some .int)) (by decide) rfl (Nat.le_of_ble_eq_true rfl) (fun p e s m below meth c A ls fx hl => ?_)
  have fx0 := fx
  obtain ⟨hx, hb, hr, hml, hown, hts, hlocks, hk, hP, hD, hA⟩ := fx
  have hown : s.vm.findClass RX6 = some m.cls := hown
  have hS : va_S A s.heap s.heap [] := va_S.rf
  have hP : va_P D vwCl [] s.heap := hP
  have hD : va_D A [] := hD
  have hl : lv_has ls 3 [(0, .int a), (1, .int b)] := hl
  refine lv_iload_n hx hb dX6_turned_0 rfl (lv_at hl 0 rfl) ?_
  refine lv_iload_n hx hb dX6_turned_1 rfl (lv_at hl 1 rfl) ?_
  refine lv_iadd hx hb dX6_turned_2 ?_
  refine lv_istore_n (lv' := [(2, .int (a + b)), (0, .int a), (1, .int b)]) hx hb dX6_turned_3 rfl hl (by decide) rfl (fun ls hl => ?_)
  refine lv_iload_n hx hb dX6_turned_4 rfl (lv_at hl 0 rfl) ?_
  refine lv_if_ge (tgt := 14) hx hb dX6_turned_5 (by decide) (fun c5 => ?_) (fun c5 => ?_)
  · refine lv_iload_n hx hb dX6_turned_14 rfl (lv_at hl 0 rfl) ?_
    refine lv_sipush (v := 359) hx hb dX6_turned_15 (by decide) ?_
    refine lv_icmp_le (tgt := 29) hx hb dX6_turned_18 (by decide) (fun c18 => ?_) (fun c18 => ?_)
    · refine lv_iload_n hx hb dX6_turned_29 rfl (lv_at hl 0 rfl) ?_
      exact retI hx hb hr hlocks hS hP hD dX6_turned_30 (by rw [tsI, if_pos c5, if_pos c18]) rfl
    · refine lv_iload_n hx hb dX6_turned_21 rfl (lv_at hl 0 rfl) ?_
      refine lv_sipush (v := 360) hx hb dX6_turned_22 (by decide) ?_
      refine lv_isub hx hb dX6_turned_25 ?_
      refine lv_goto (tgt := 30) hx hb dX6_turned_26 (by decide) ?_
      exact retI hx hb hr hlocks hS hP hD dX6_turned_30 (by rw [tsI, if_pos c5, if_neg c18]) rfl
  · refine lv_iload_n hx hb dX6_turned_8 rfl (lv_at hl 0 rfl) ?_
    refine lv_sipush (v := 360) hx hb dX6_turned_9 (by decide) ?_
    refine lv_iadd hx hb dX6_turned_12 ?_
    exact retI hx hb hr hlocks hS hP hD dX6_turned_13 (by rw [tsI, if_neg c5]) rfl

theorem mX6_glare_f9 : (.fieldLink RX6 9 "StarConsoleLaw$Sim" "dimmers" "[[I" : Cond) ∈ wsX6_glare := by decide +kernel
theorem iX6_glare_X6 : ∀ w ∈ wsX60, w ∈ wsX6_glare := by decide +kernel

theorem hX6_glare : yX6_glare.cls = RX6 ∧ yX6_glare.cls ≠ "java/lang/invoke/MethodHandle" ∧ yX6_glare.cls ≠ "java/lang/invoke/VarHandle" ∧ (parseMethodDescriptor yX6_glare.desc).map (fun d => d.parameters.length) = some 1 := by decide +kernel
set_option maxHeartbeats 4000000 in
set_option maxRecDepth 100000 in
theorem tX6_glare (l : Launch) (D : va_G) (cI : ClassId) (cA : ClassId) (z0 zd zt zk zu : Nat) (pd pt pk pu : Nat → Nat) (nD nT nC nK : Nat) (nu : Nat → Int32) (g st ct cu : Mx) (q : Int32) (hn : nD ≤ 8) (hg : gOK nD g) (hp : bnd q 0 11) : CIr l yX6_glare wsX6_glare ({ frames := 0, cells := 0, slots := 0, locals := 0 } : Room) D cI cA ([.ref z0, .int q] : List Value) ([(z0, .inr (6, [.ref zd, .ref zt, .ref zk, .ref zu, .int (nu 0), .int (nu 1), .int (nu 2), .int (nu 3), .int (nu 4), .int (nu 5), .int (nu 6)])), (zd, .inl (cA, nD, .inr (.inr (.inr (.inr (fun i => some (pd i))))))), (zt, .inl (cA, nT, .inr (.inr (.inr (.inr (fun i => some (pt i))))))), (zk, .inl (cA, nK, .inr (.inr (.inr (.inr (fun i => some (pk i))))))), (zu, .inl (cA, nC, .inr (.inr (.inr (.inr (fun i => some (pu i)))))))] ++ RO cI pd pt pk pu nD nT nK nC g st ct cu) (glS (g 0) (g 1) q nD) ([(z0, .inr (6, [.ref zd, .ref zt, .ref zk, .ref zu, .int (nu 0), .int (nu 1), .int (nu 2), .int (nu 3), .int (nu 4), .int (nu 5), .int (nu 6)])), (zd, .inl (cA, nD, .inr (.inr (.inr (.inr (fun i => some (pd i))))))), (zt, .inl (cA, nT, .inr (.inr (.inr (.inr (fun i => some (pt i))))))), (zk, .inl (cA, nK, .inr (.inr (.inr (.inr (fun i => some (pk i))))))), (zu, .inl (cA, nC, .inr (.inr (.inr (.inr (fun i => some (pu i)))))))] ++ RO cI pd pt pk pu nD nT nK nC g st ct cu) 0 0 := by
  refine entIr (cc := cX6_glare) (maxL := 7) (ret := (some .int)) (by decide) rfl (Nat.le_of_ble_eq_true rfl) (fun p e s m below meth c A ls hkr fx hl => ?_)
  have fx0 := fx
  obtain ⟨hx, hb, hr, hml, hown, hts, hlocks, hk, hP, hD, hA⟩ := fx
  have hown : s.vm.findClass RX6 = some m.cls := hown
  have hS : va_S A s.heap s.heap [] := va_S.rf
  have hP : va_P D vwCl ([(z0, .inr (6, [.ref zd, .ref zt, .ref zk, .ref zu, .int (nu 0), .int (nu 1), .int (nu 2), .int (nu 3), .int (nu 4), .int (nu 5), .int (nu 6)])), (zd, .inl (cA, nD, .inr (.inr (.inr (.inr (fun i => some (pd i))))))), (zt, .inl (cA, nT, .inr (.inr (.inr (.inr (fun i => some (pt i))))))), (zk, .inl (cA, nK, .inr (.inr (.inr (.inr (fun i => some (pk i))))))), (zu, .inl (cA, nC, .inr (.inr (.inr (.inr (fun i => some (pu i)))))))] ++ RO cI pd pt pk pu nD nT nK nC g st ct cu) s.heap := hP
  have hD : va_D A ([(z0, .inr (6, [.ref zd, .ref zt, .ref zk, .ref zu, .int (nu 0), .int (nu 1), .int (nu 2), .int (nu 3), .int (nu 4), .int (nu 5), .int (nu 6)])), (zd, .inl (cA, nD, .inr (.inr (.inr (.inr (fun i => some (pd i))))))), (zt, .inl (cA, nT, .inr (.inr (.inr (.inr (fun i => some (pt i))))))), (zk, .inl (cA, nK, .inr (.inr (.inr (.inr (fun i => some (pk i))))))), (zu, .inl (cA, nC, .inr (.inr (.inr (.inr (fun i => some (pu i)))))))] ++ RO cI pd pt pk pu nD nT nK nC g st ct cu) := hD
  have hl : lv_has ls 7 [(0, .ref z0), (1, .int q)] := hl
  refine lv_iconst (v := 0) hx hb dX6_glare_0 (by decide) ?_
  refine lv_istore_n (lv' := [(2, .int 0), (0, .ref z0), (1, .int q)]) hx hb dX6_glare_1 rfl hl (by decide) rfl (fun ls hl => ?_)
  refine lv_aload_n hx hb dX6_glare_2 rfl (lv_at hl 1 rfl) ?_
  refine va_get (D := D) (ci := 6) (v := .ref zd) (C := RX6) (T := TX6) (N := 11) hx hb hts iX6_glare_X6 hown hk.1 hP 0 rfl rfl 0 (by decide) (hts _ mX6_glare_f9) (fun _ h9 => h9) rfl dX6_glare_3 ?_
  refine lv_astore_n (lv' := [(3, .ref zd), (2, .int 0), (0, .ref z0), (1, .int q)]) hx hb dX6_glare_6 rfl hl (by decide) rfl (fun ls hl => ?_)
  refine lv_aload_n hx hb dX6_glare_7 rfl (lv_at hl 0 rfl) ?_
  refine alenR hx hb (kR.arr hkr) hP 1 rfl dX6_glare_8 ?_
  refine lv_istore (lv' := [(4, .int (nI nD)), (3, .ref zd), (2, .int 0), (0, .ref z0), (1, .int q)]) hx hb dX6_glare_9 hl (by decide) rfl (fun ls hl => ?_)
  refine lv_iconst (v := 0) hx hb dX6_glare_11 (by decide) ?_
  refine lv_istore (lv' := [(5, .int 0), (4, .int (nI nD)), (3, .ref zd), (2, .int 0), (0, .ref z0), (1, .int q)]) hx hb dX6_glare_12 hl (by decide) rfl (fun ls hl => ?_)
  have key14 : ∀ (ku14 : Nat) (i : Nat), i ≤ nD → nD - i < ku14 → ∀ (H : Heap) (locs : List Loc), va_P D vwCl ([(z0, .inr (6, [.ref zd, .ref zt, .ref zk, .ref zu, .int (nu 0), .int (nu 1), .int (nu 2), .int (nu 3), .int (nu 4), .int (nu 5), .int (nu 6)])), (zd, .inl (cA, nD, .inr (.inr (.inr (.inr (fun i => some (pd i))))))), (zt, .inl (cA, nT, .inr (.inr (.inr (.inr (fun i => some (pt i))))))), (zk, .inl (cA, nK, .inr (.inr (.inr (.inr (fun i => some (pk i))))))), (zu, .inl (cA, nC, .inr (.inr (.inr (.inr (fun i => some (pu i)))))))] ++ RO cI pd pt pk pu nD nT nK nC g st ct cu) H → va_D A ([(z0, .inr (6, [.ref zd, .ref zt, .ref zk, .ref zu, .int (nu 0), .int (nu 1), .int (nu 2), .int (nu 3), .int (nu 4), .int (nu 5), .int (nu 6)])), (zd, .inl (cA, nD, .inr (.inr (.inr (.inr (fun i => some (pd i))))))), (zt, .inl (cA, nT, .inr (.inr (.inr (.inr (fun i => some (pt i))))))), (zk, .inl (cA, nK, .inr (.inr (.inr (.inr (fun i => some (pk i))))))), (zu, .inl (cA, nC, .inr (.inr (.inr (.inr (fun i => some (pu i)))))))] ++ RO cI pd pt pk pu nD nT nK nC g st ct cu) → va_S A s.heap H locs → ∀ ls : Array Slot, lv_has ls 7 [(5, .int (nI i)), (2, .int (glS (g 0) (g 1) q i)), (0, .ref z0), (1, .int q), (3, .ref zd), (4, .int (nI nD))] → W p l e ({ frames := 0, cells := 0, slots := 0, locals := 0 } : Room) s m ([.ref z0, .int q] : List Value).toArray below meth c H locs 0 0 (MQ below (poI D A ([(z0, .inr (6, [.ref zd, .ref zt, .ref zk, .ref zu, .int (nu 0), .int (nu 1), .int (nu 2), .int (nu 3), .int (nu 4), .int (nu 5), .int (nu 6)])), (zd, .inl (cA, nD, .inr (.inr (.inr (.inr (fun i => some (pd i))))))), (zt, .inl (cA, nT, .inr (.inr (.inr (.inr (fun i => some (pt i))))))), (zk, .inl (cA, nK, .inr (.inr (.inr (.inr (fun i => some (pk i))))))), (zu, .inl (cA, nC, .inr (.inr (.inr (.inr (fun i => some (pu i)))))))] ++ RO cI pd pt pk pu nD nT nK nC g st ct cu) (glS (g 0) (g 1) q nD)) ([.ref z0, .int q] : List Value).toArray s 0 0 A) (F0 m 14 ls []) := by
    intro ku14
    induction ku14 with
    | zero => intro i; intros; omega
    | succ ku14 ih14 =>
      intro i  hi14 hm14  H locs hP hD hS ls hl
      refine lv_iload hx hb dX6_glare_14 (lv_at hl 0 rfl) ?_
      refine lv_iload hx hb dX6_glare_16 (lv_at hl 5 rfl) ?_
      refine icgeN (i := i) (n := nD) (tgt := 83) hx hb (by omega) (by omega) dX6_glare_18 (by decide) (fun c18 => ?_) (fun c18 => ?_)
      · obtain rfl : nD = i := by omega
        refine lv_iload_n hx hb dX6_glare_83 rfl (lv_at hl 1 rfl) ?_
        exact retIm hx hb hr hlocks hS hP hD dX6_glare_84 (rfl) rfl (show 0 ≤ 0 by omega) (show 0 ≤ 0 by omega)
      · refine lv_aload_n hx hb dX6_glare_21 rfl (lv_at hl 4 rfl) ?_
        refine lv_iload hx hb dX6_glare_22 (lv_at hl 0 rfl) ?_
        refine aaldR hx hb (kR.arr hkr) hP 1 rfl (vin_n (show i < nD by omega) (by omega)) dX6_glare_24 ?_
        refine top_eq (show _ = Value.ref (pd i) from by rw [show (nI i : Int32) = nI i from rfl, nI_clamp (show i < 2 ^ 31 by omega)]; rfl) ?_
        refine lv_astore (lv' := [(6, .ref (pd i)), (5, .int (nI i)), (2, .int (glS (g 0) (g 1) q i)), (0, .ref z0), (1, .int q), (3, .ref zd), (4, .int (nI nD))]) hx hb dX6_glare_25 hl (by decide) rfl (fun ls hl => ?_)
        refine lv_aload hx hb dX6_glare_27 (lv_at hl 0 rfl) ?_
        refine lv_iconst (v := 0) hx hb dX6_glare_29 (by decide) ?_
        refine aldN hx hb hk hP _ (ro_d (E := [(z0, .inr (6, [.ref zd, .ref zt, .ref zk, .ref zu, .int (nu 0), .int (nu 1), .int (nu 2), .int (nu 3), .int (nu 4), .int (nu 5), .int (nu 6)])), (zd, .inl (cA, nD, .inr (.inr (.inr (.inr (fun i => some (pd i))))))), (zt, .inl (cA, nT, .inr (.inr (.inr (.inr (fun i => some (pt i))))))), (zk, .inl (cA, nK, .inr (.inr (.inr (.inr (fun i => some (pk i))))))), (zu, .inl (cA, nC, .inr (.inr (.inr (.inr (fun i => some (pu i)))))))]) (i := i) (by omega)) 0 rfl (by omega) (Nat.le_of_ble_eq_true rfl) dX6_glare_30 ?_
        refine top_int (show _ = g 0 i from rfl) ?_
        refine lv_iload_n hx hb dX6_glare_31 rfl (lv_at hl 4 rfl) ?_
        refine lv_icmp_ne (tgt := 42) hx hb dX6_glare_32 (by decide) (fun c32 => ?_) (fun c32 => ?_)
        · refine lv_aload hx hb dX6_glare_42 (lv_at hl 0 rfl) ?_
          refine lv_iconst (v := 0) hx hb dX6_glare_44 (by decide) ?_
          refine aldN hx hb hk hP _ (ro_d (E := [(z0, .inr (6, [.ref zd, .ref zt, .ref zk, .ref zu, .int (nu 0), .int (nu 1), .int (nu 2), .int (nu 3), .int (nu 4), .int (nu 5), .int (nu 6)])), (zd, .inl (cA, nD, .inr (.inr (.inr (.inr (fun i => some (pd i))))))), (zt, .inl (cA, nT, .inr (.inr (.inr (.inr (fun i => some (pt i))))))), (zk, .inl (cA, nK, .inr (.inr (.inr (.inr (fun i => some (pk i))))))), (zu, .inl (cA, nC, .inr (.inr (.inr (.inr (fun i => some (pu i)))))))]) (i := i) (by omega)) 0 rfl (by omega) (Nat.le_of_ble_eq_true rfl) dX6_glare_45 ?_
          refine top_int (show _ = g 0 i from rfl) ?_
          refine lv_iload_n hx hb dX6_glare_46 rfl (lv_at hl 4 rfl) ?_
          refine lv_iconst (v := 1) hx hb dX6_glare_47 (by decide) ?_
          refine lv_iadd hx hb dX6_glare_48 ?_
          refine lv_bipush (v := 12) hx hb dX6_glare_49 (by decide) ?_
          refine lv_irem hx hb dX6_glare_51 (by decide) ?_
          refine top_int (show _ = irm ((q + 1)) 12 from rfl) ?_
          refine lv_icmp_eq (tgt := 68) hx hb dX6_glare_52 (by decide) (fun c52 => ?_) (fun c52 => ?_)
          · refine lv_iload_n hx hb dX6_glare_68 rfl (lv_at hl 2 rfl) ?_
            refine lv_aload hx hb dX6_glare_69 (lv_at hl 0 rfl) ?_
            refine lv_iconst (v := 1) hx hb dX6_glare_71 (by decide) ?_
            refine aldN hx hb hk hP _ (ro_d (E := [(z0, .inr (6, [.ref zd, .ref zt, .ref zk, .ref zu, .int (nu 0), .int (nu 1), .int (nu 2), .int (nu 3), .int (nu 4), .int (nu 5), .int (nu 6)])), (zd, .inl (cA, nD, .inr (.inr (.inr (.inr (fun i => some (pd i))))))), (zt, .inl (cA, nT, .inr (.inr (.inr (.inr (fun i => some (pt i))))))), (zk, .inl (cA, nK, .inr (.inr (.inr (.inr (fun i => some (pk i))))))), (zu, .inl (cA, nC, .inr (.inr (.inr (.inr (fun i => some (pu i)))))))]) (i := i) (by omega)) 1 rfl (by omega) (Nat.le_of_ble_eq_true rfl) dX6_glare_72 ?_
            refine top_int (show _ = g 1 i from rfl) ?_
            refine lv_iconst (v := 4) hx hb dX6_glare_73 (by decide) ?_
            refine lv_idiv hx hb dX6_glare_74 (by decide) ?_
            refine lv_iadd hx hb dX6_glare_75 ?_
            refine lv_istore_n (lv' := [(2, .int ((glS (g 0) (g 1) q i) + (((g 1 i) / 4)))), (6, .ref (pd i)), (5, .int (nI i)), (0, .ref z0), (1, .int q), (3, .ref zd), (4, .int (nI nD))]) hx hb dX6_glare_76 rfl hl (by decide) rfl (fun ls hl => ?_)
            refine lv_iinc (v := nI (i + 1)) (lv' := [(5, .int (nI (i + 1))), (2, .int ((glS (g 0) (g 1) q i) + (((g 1 i) / 4)))), (6, .ref (pd i)), (0, .ref z0), (1, .int q), (3, .ref zd), (4, .int (nI nD))]) hx hb dX6_glare_77 hl (k := 2) rfl (nI_inc i) (by decide) rfl (fun ls hl => ?_)
            refine lv_goto (tgt := 14) hx hb dX6_glare_80 (by decide) ?_
            have ihx := ih14 (i + 1)  (by omega) (by omega) 
            rw [show glS (g 0) (g 1) q (i + 1) = _ from (gcS_eq (hg i (by omega)).1 hp).symm.trans (show gcS (g 0 i) (g 1 i) q (glS (g 0) (g 1) q i) = _ from by rw [gcS, if_pos c52, if_neg c32])] at ihx
            exact ihx _ _ hP hD hS _ (lv_sub hl [0, 1, 3, 4, 5, 6] rfl)
          · refine lv_aload hx hb dX6_glare_55 (lv_at hl 0 rfl) ?_
            refine lv_iconst (v := 0) hx hb dX6_glare_57 (by decide) ?_
            refine aldN hx hb hk hP _ (ro_d (E := [(z0, .inr (6, [.ref zd, .ref zt, .ref zk, .ref zu, .int (nu 0), .int (nu 1), .int (nu 2), .int (nu 3), .int (nu 4), .int (nu 5), .int (nu 6)])), (zd, .inl (cA, nD, .inr (.inr (.inr (.inr (fun i => some (pd i))))))), (zt, .inl (cA, nT, .inr (.inr (.inr (.inr (fun i => some (pt i))))))), (zk, .inl (cA, nK, .inr (.inr (.inr (.inr (fun i => some (pk i))))))), (zu, .inl (cA, nC, .inr (.inr (.inr (.inr (fun i => some (pu i)))))))]) (i := i) (by omega)) 0 rfl (by omega) (Nat.le_of_ble_eq_true rfl) dX6_glare_58 ?_
            refine top_int (show _ = g 0 i from rfl) ?_
            refine lv_iconst (v := 1) hx hb dX6_glare_59 (by decide) ?_
            refine lv_iadd hx hb dX6_glare_60 ?_
            refine lv_bipush (v := 12) hx hb dX6_glare_61 (by decide) ?_
            refine lv_irem hx hb dX6_glare_63 (by decide) ?_
            refine top_int (show _ = irm (((g 0 i) + 1)) 12 from rfl) ?_
            refine lv_iload_n hx hb dX6_glare_64 rfl (lv_at hl 4 rfl) ?_
            refine lv_icmp_ne (tgt := 77) hx hb dX6_glare_65 (by decide) (fun c65 => ?_) (fun c65 => ?_)
            · refine lv_iinc (v := nI (i + 1)) (lv' := [(5, .int (nI (i + 1))), (6, .ref (pd i)), (2, .int (glS (g 0) (g 1) q i)), (0, .ref z0), (1, .int q), (3, .ref zd), (4, .int (nI nD))]) hx hb dX6_glare_77 hl (k := 1) rfl (nI_inc i) (by decide) rfl (fun ls hl => ?_)
              refine lv_goto (tgt := 14) hx hb dX6_glare_80 (by decide) ?_
              have ihx := ih14 (i + 1)  (by omega) (by omega) 
              rw [show glS (g 0) (g 1) q (i + 1) = _ from (gcS_eq (hg i (by omega)).1 hp).symm.trans (show gcS (g 0 i) (g 1 i) q (glS (g 0) (g 1) q i) = _ from by rw [gcS, if_neg c52, if_neg c65, if_neg c32])] at ihx
              exact ihx _ _ hP hD hS _ (lv_sub hl [0, 2, 3, 4, 5, 6] rfl)
            · refine lv_iload_n hx hb dX6_glare_68 rfl (lv_at hl 2 rfl) ?_
              refine lv_aload hx hb dX6_glare_69 (lv_at hl 0 rfl) ?_
              refine lv_iconst (v := 1) hx hb dX6_glare_71 (by decide) ?_
              refine aldN hx hb hk hP _ (ro_d (E := [(z0, .inr (6, [.ref zd, .ref zt, .ref zk, .ref zu, .int (nu 0), .int (nu 1), .int (nu 2), .int (nu 3), .int (nu 4), .int (nu 5), .int (nu 6)])), (zd, .inl (cA, nD, .inr (.inr (.inr (.inr (fun i => some (pd i))))))), (zt, .inl (cA, nT, .inr (.inr (.inr (.inr (fun i => some (pt i))))))), (zk, .inl (cA, nK, .inr (.inr (.inr (.inr (fun i => some (pk i))))))), (zu, .inl (cA, nC, .inr (.inr (.inr (.inr (fun i => some (pu i)))))))]) (i := i) (by omega)) 1 rfl (by omega) (Nat.le_of_ble_eq_true rfl) dX6_glare_72 ?_
              refine top_int (show _ = g 1 i from rfl) ?_
              refine lv_iconst (v := 4) hx hb dX6_glare_73 (by decide) ?_
              refine lv_idiv hx hb dX6_glare_74 (by decide) ?_
              refine lv_iadd hx hb dX6_glare_75 ?_
              refine lv_istore_n (lv' := [(2, .int ((glS (g 0) (g 1) q i) + (((g 1 i) / 4)))), (6, .ref (pd i)), (5, .int (nI i)), (0, .ref z0), (1, .int q), (3, .ref zd), (4, .int (nI nD))]) hx hb dX6_glare_76 rfl hl (by decide) rfl (fun ls hl => ?_)
              refine lv_iinc (v := nI (i + 1)) (lv' := [(5, .int (nI (i + 1))), (2, .int ((glS (g 0) (g 1) q i) + (((g 1 i) / 4)))), (6, .ref (pd i)), (0, .ref z0), (1, .int q), (3, .ref zd), (4, .int (nI nD))]) hx hb dX6_glare_77 hl (k := 2) rfl (nI_inc i) (by decide) rfl (fun ls hl => ?_)
              refine lv_goto (tgt := 14) hx hb dX6_glare_80 (by decide) ?_
              have ihx := ih14 (i + 1)  (by omega) (by omega) 
              rw [show glS (g 0) (g 1) q (i + 1) = _ from (gcS_eq (hg i (by omega)).1 hp).symm.trans (show gcS (g 0 i) (g 1 i) q (glS (g 0) (g 1) q i) = _ from by rw [gcS, if_neg c52, if_pos c65, if_neg c32])] at ihx
              exact ihx _ _ hP hD hS _ (lv_sub hl [0, 1, 3, 4, 5, 6] rfl)
        · refine lv_iload_n hx hb dX6_glare_35 rfl (lv_at hl 2 rfl) ?_
          refine lv_aload hx hb dX6_glare_36 (lv_at hl 0 rfl) ?_
          refine lv_iconst (v := 1) hx hb dX6_glare_38 (by decide) ?_
          refine aldN hx hb hk hP _ (ro_d (E := [(z0, .inr (6, [.ref zd, .ref zt, .ref zk, .ref zu, .int (nu 0), .int (nu 1), .int (nu 2), .int (nu 3), .int (nu 4), .int (nu 5), .int (nu 6)])), (zd, .inl (cA, nD, .inr (.inr (.inr (.inr (fun i => some (pd i))))))), (zt, .inl (cA, nT, .inr (.inr (.inr (.inr (fun i => some (pt i))))))), (zk, .inl (cA, nK, .inr (.inr (.inr (.inr (fun i => some (pk i))))))), (zu, .inl (cA, nC, .inr (.inr (.inr (.inr (fun i => some (pu i)))))))]) (i := i) (by omega)) 1 rfl (by omega) (Nat.le_of_ble_eq_true rfl) dX6_glare_39 ?_
          refine top_int (show _ = g 1 i from rfl) ?_
          refine lv_iadd hx hb dX6_glare_40 ?_
          refine lv_istore_n (lv' := [(2, .int ((glS (g 0) (g 1) q i) + (g 1 i))), (6, .ref (pd i)), (5, .int (nI i)), (0, .ref z0), (1, .int q), (3, .ref zd), (4, .int (nI nD))]) hx hb dX6_glare_41 rfl hl (by decide) rfl (fun ls hl => ?_)
          refine lv_aload hx hb dX6_glare_42 (lv_at hl 1 rfl) ?_
          refine lv_iconst (v := 0) hx hb dX6_glare_44 (by decide) ?_
          refine aldN hx hb hk hP _ (ro_d (E := [(z0, .inr (6, [.ref zd, .ref zt, .ref zk, .ref zu, .int (nu 0), .int (nu 1), .int (nu 2), .int (nu 3), .int (nu 4), .int (nu 5), .int (nu 6)])), (zd, .inl (cA, nD, .inr (.inr (.inr (.inr (fun i => some (pd i))))))), (zt, .inl (cA, nT, .inr (.inr (.inr (.inr (fun i => some (pt i))))))), (zk, .inl (cA, nK, .inr (.inr (.inr (.inr (fun i => some (pk i))))))), (zu, .inl (cA, nC, .inr (.inr (.inr (.inr (fun i => some (pu i)))))))]) (i := i) (by omega)) 0 rfl (by omega) (Nat.le_of_ble_eq_true rfl) dX6_glare_45 ?_
          refine top_int (show _ = g 0 i from rfl) ?_
          refine lv_iload_n hx hb dX6_glare_46 rfl (lv_at hl 4 rfl) ?_
          refine lv_iconst (v := 1) hx hb dX6_glare_47 (by decide) ?_
          refine lv_iadd hx hb dX6_glare_48 ?_
          refine lv_bipush (v := 12) hx hb dX6_glare_49 (by decide) ?_
          refine lv_irem hx hb dX6_glare_51 (by decide) ?_
          refine top_int (show _ = irm ((q + 1)) 12 from rfl) ?_
          refine lv_icmp_eq (tgt := 68) hx hb dX6_glare_52 (by decide) (fun c52 => ?_) (fun c52 => ?_)
          · refine lv_iload_n hx hb dX6_glare_68 rfl (lv_at hl 0 rfl) ?_
            refine lv_aload hx hb dX6_glare_69 (lv_at hl 1 rfl) ?_
            refine lv_iconst (v := 1) hx hb dX6_glare_71 (by decide) ?_
            refine aldN hx hb hk hP _ (ro_d (E := [(z0, .inr (6, [.ref zd, .ref zt, .ref zk, .ref zu, .int (nu 0), .int (nu 1), .int (nu 2), .int (nu 3), .int (nu 4), .int (nu 5), .int (nu 6)])), (zd, .inl (cA, nD, .inr (.inr (.inr (.inr (fun i => some (pd i))))))), (zt, .inl (cA, nT, .inr (.inr (.inr (.inr (fun i => some (pt i))))))), (zk, .inl (cA, nK, .inr (.inr (.inr (.inr (fun i => some (pk i))))))), (zu, .inl (cA, nC, .inr (.inr (.inr (.inr (fun i => some (pu i)))))))]) (i := i) (by omega)) 1 rfl (by omega) (Nat.le_of_ble_eq_true rfl) dX6_glare_72 ?_
            refine top_int (show _ = g 1 i from rfl) ?_
            refine lv_iconst (v := 4) hx hb dX6_glare_73 (by decide) ?_
            refine lv_idiv hx hb dX6_glare_74 (by decide) ?_
            refine lv_iadd hx hb dX6_glare_75 ?_
            refine lv_istore_n (lv' := [(2, .int ((((glS (g 0) (g 1) q i) + (g 1 i))) + (((g 1 i) / 4)))), (6, .ref (pd i)), (5, .int (nI i)), (0, .ref z0), (1, .int q), (3, .ref zd), (4, .int (nI nD))]) hx hb dX6_glare_76 rfl hl (by decide) rfl (fun ls hl => ?_)
            refine lv_iinc (v := nI (i + 1)) (lv' := [(5, .int (nI (i + 1))), (2, .int ((((glS (g 0) (g 1) q i) + (g 1 i))) + (((g 1 i) / 4)))), (6, .ref (pd i)), (0, .ref z0), (1, .int q), (3, .ref zd), (4, .int (nI nD))]) hx hb dX6_glare_77 hl (k := 2) rfl (nI_inc i) (by decide) rfl (fun ls hl => ?_)
            refine lv_goto (tgt := 14) hx hb dX6_glare_80 (by decide) ?_
            have ihx := ih14 (i + 1)  (by omega) (by omega) 
            rw [show glS (g 0) (g 1) q (i + 1) = _ from (gcS_eq (hg i (by omega)).1 hp).symm.trans (show gcS (g 0 i) (g 1 i) q (glS (g 0) (g 1) q i) = _ from by rw [gcS, if_pos c52, if_pos c32])] at ihx
            exact ihx _ _ hP hD hS _ (lv_sub hl [0, 1, 3, 4, 5, 6] rfl)
          · refine lv_aload hx hb dX6_glare_55 (lv_at hl 1 rfl) ?_
            refine lv_iconst (v := 0) hx hb dX6_glare_57 (by decide) ?_
            refine aldN hx hb hk hP _ (ro_d (E := [(z0, .inr (6, [.ref zd, .ref zt, .ref zk, .ref zu, .int (nu 0), .int (nu 1), .int (nu 2), .int (nu 3), .int (nu 4), .int (nu 5), .int (nu 6)])), (zd, .inl (cA, nD, .inr (.inr (.inr (.inr (fun i => some (pd i))))))), (zt, .inl (cA, nT, .inr (.inr (.inr (.inr (fun i => some (pt i))))))), (zk, .inl (cA, nK, .inr (.inr (.inr (.inr (fun i => some (pk i))))))), (zu, .inl (cA, nC, .inr (.inr (.inr (.inr (fun i => some (pu i)))))))]) (i := i) (by omega)) 0 rfl (by omega) (Nat.le_of_ble_eq_true rfl) dX6_glare_58 ?_
            refine top_int (show _ = g 0 i from rfl) ?_
            refine lv_iconst (v := 1) hx hb dX6_glare_59 (by decide) ?_
            refine lv_iadd hx hb dX6_glare_60 ?_
            refine lv_bipush (v := 12) hx hb dX6_glare_61 (by decide) ?_
            refine lv_irem hx hb dX6_glare_63 (by decide) ?_
            refine top_int (show _ = irm (((g 0 i) + 1)) 12 from rfl) ?_
            refine lv_iload_n hx hb dX6_glare_64 rfl (lv_at hl 4 rfl) ?_
            refine lv_icmp_ne (tgt := 77) hx hb dX6_glare_65 (by decide) (fun c65 => ?_) (fun c65 => ?_)
            · refine lv_iinc (v := nI (i + 1)) (lv' := [(5, .int (nI (i + 1))), (2, .int ((glS (g 0) (g 1) q i) + (g 1 i))), (6, .ref (pd i)), (0, .ref z0), (1, .int q), (3, .ref zd), (4, .int (nI nD))]) hx hb dX6_glare_77 hl (k := 2) rfl (nI_inc i) (by decide) rfl (fun ls hl => ?_)
              refine lv_goto (tgt := 14) hx hb dX6_glare_80 (by decide) ?_
              have ihx := ih14 (i + 1)  (by omega) (by omega) 
              rw [show glS (g 0) (g 1) q (i + 1) = _ from (gcS_eq (hg i (by omega)).1 hp).symm.trans (show gcS (g 0 i) (g 1 i) q (glS (g 0) (g 1) q i) = _ from by rw [gcS, if_neg c52, if_neg c65, if_pos c32])] at ihx
              exact ihx _ _ hP hD hS _ (lv_sub hl [0, 1, 3, 4, 5, 6] rfl)
            · refine lv_iload_n hx hb dX6_glare_68 rfl (lv_at hl 0 rfl) ?_
              refine lv_aload hx hb dX6_glare_69 (lv_at hl 1 rfl) ?_
              refine lv_iconst (v := 1) hx hb dX6_glare_71 (by decide) ?_
              refine aldN hx hb hk hP _ (ro_d (E := [(z0, .inr (6, [.ref zd, .ref zt, .ref zk, .ref zu, .int (nu 0), .int (nu 1), .int (nu 2), .int (nu 3), .int (nu 4), .int (nu 5), .int (nu 6)])), (zd, .inl (cA, nD, .inr (.inr (.inr (.inr (fun i => some (pd i))))))), (zt, .inl (cA, nT, .inr (.inr (.inr (.inr (fun i => some (pt i))))))), (zk, .inl (cA, nK, .inr (.inr (.inr (.inr (fun i => some (pk i))))))), (zu, .inl (cA, nC, .inr (.inr (.inr (.inr (fun i => some (pu i)))))))]) (i := i) (by omega)) 1 rfl (by omega) (Nat.le_of_ble_eq_true rfl) dX6_glare_72 ?_
              refine top_int (show _ = g 1 i from rfl) ?_
              refine lv_iconst (v := 4) hx hb dX6_glare_73 (by decide) ?_
              refine lv_idiv hx hb dX6_glare_74 (by decide) ?_
              refine lv_iadd hx hb dX6_glare_75 ?_
              refine lv_istore_n (lv' := [(2, .int ((((glS (g 0) (g 1) q i) + (g 1 i))) + (((g 1 i) / 4)))), (6, .ref (pd i)), (5, .int (nI i)), (0, .ref z0), (1, .int q), (3, .ref zd), (4, .int (nI nD))]) hx hb dX6_glare_76 rfl hl (by decide) rfl (fun ls hl => ?_)
              refine lv_iinc (v := nI (i + 1)) (lv' := [(5, .int (nI (i + 1))), (2, .int ((((glS (g 0) (g 1) q i) + (g 1 i))) + (((g 1 i) / 4)))), (6, .ref (pd i)), (0, .ref z0), (1, .int q), (3, .ref zd), (4, .int (nI nD))]) hx hb dX6_glare_77 hl (k := 2) rfl (nI_inc i) (by decide) rfl (fun ls hl => ?_)
              refine lv_goto (tgt := 14) hx hb dX6_glare_80 (by decide) ?_
              have ihx := ih14 (i + 1)  (by omega) (by omega) 
              rw [show glS (g 0) (g 1) q (i + 1) = _ from (gcS_eq (hg i (by omega)).1 hp).symm.trans (show gcS (g 0 i) (g 1 i) q (glS (g 0) (g 1) q i) = _ from by rw [gcS, if_neg c52, if_pos c65, if_pos c32])] at ihx
              exact ihx _ _ hP hD hS _ (lv_sub hl [0, 1, 3, 4, 5, 6] rfl)
  exact key14 (nD + 1) 0  (by omega) (by omega)  _ _ hP hD hS _ (lv_sub hl [0, 3, 4, 5, 2, 1] rfl)



theorem hX6_sees : yX6_sees.cls = RX6 ∧ yX6_sees.cls ≠ "java/lang/invoke/MethodHandle" ∧ yX6_sees.cls ≠ "java/lang/invoke/VarHandle" ∧ (parseMethodDescriptor yX6_sees.desc).map (fun d => d.parameters.length) = some 2 := by decide +kernel
set_option maxHeartbeats 4000000 in
set_option maxRecDepth 100000 in
theorem tX6_sees (l : Launch) (D : va_G) (cI : ClassId) (cA : ClassId) (z0 zd zt zk zu : Nat) (pd pt pk pu : Nat → Nat) (nD nT nC nK : Nat) (nu : Nat → Int32) (g st ct cu : Mx) (an li : Int32) (hn : nD ≤ 8) (hg : gOK nD g) (hp : bnd (an / 30) 0 11) : CIr l yX6_sees wsX6_sees ({ frames := 1, cells := 0, slots := 0, locals := 26 } : Room) D cI cA ([.ref z0, .int an, .int li] : List Value) ([(z0, .inr (6, [.ref zd, .ref zt, .ref zk, .ref zu, .int (nu 0), .int (nu 1), .int (nu 2), .int (nu 3), .int (nu 4), .int (nu 5), .int (nu 6)])), (zd, .inl (cA, nD, .inr (.inr (.inr (.inr (fun i => some (pd i))))))), (zt, .inl (cA, nT, .inr (.inr (.inr (.inr (fun i => some (pt i))))))), (zk, .inl (cA, nK, .inr (.inr (.inr (.inr (fun i => some (pk i))))))), (zu, .inl (cA, nC, .inr (.inr (.inr (.inr (fun i => some (pu i)))))))] ++ RO cI pd pt pk pu nD nT nK nC g st ct cu) (osI nD g an li) ([(z0, .inr (6, [.ref zd, .ref zt, .ref zk, .ref zu, .int (nu 0), .int (nu 1), .int (nu 2), .int (nu 3), .int (nu 4), .int (nu 5), .int (nu 6)])), (zd, .inl (cA, nD, .inr (.inr (.inr (.inr (fun i => some (pd i))))))), (zt, .inl (cA, nT, .inr (.inr (.inr (.inr (fun i => some (pt i))))))), (zk, .inl (cA, nK, .inr (.inr (.inr (.inr (fun i => some (pk i))))))), (zu, .inl (cA, nC, .inr (.inr (.inr (.inr (fun i => some (pu i)))))))] ++ RO cI pd pt pk pu nD nT nK nC g st ct cu) 0 0 := by
  refine entIr (cc := cX6_sees) (maxL := 3) (ret := (some .boolean)) (by decide) rfl (Nat.le_of_ble_eq_true rfl) (fun p e s m below meth c A ls hkr fx hl => ?_)
  have fx0 := fx
  obtain ⟨hx, hb, hr, hml, hown, hts, hlocks, hk, hP, hD, hA⟩ := fx
  have hown : s.vm.findClass RX6 = some m.cls := hown
  have hS : va_S A s.heap s.heap [] := va_S.rf
  have hP : va_P D vwCl ([(z0, .inr (6, [.ref zd, .ref zt, .ref zk, .ref zu, .int (nu 0), .int (nu 1), .int (nu 2), .int (nu 3), .int (nu 4), .int (nu 5), .int (nu 6)])), (zd, .inl (cA, nD, .inr (.inr (.inr (.inr (fun i => some (pd i))))))), (zt, .inl (cA, nT, .inr (.inr (.inr (.inr (fun i => some (pt i))))))), (zk, .inl (cA, nK, .inr (.inr (.inr (.inr (fun i => some (pk i))))))), (zu, .inl (cA, nC, .inr (.inr (.inr (.inr (fun i => some (pu i)))))))] ++ RO cI pd pt pk pu nD nT nK nC g st ct cu) s.heap := hP
  have hD : va_D A ([(z0, .inr (6, [.ref zd, .ref zt, .ref zk, .ref zu, .int (nu 0), .int (nu 1), .int (nu 2), .int (nu 3), .int (nu 4), .int (nu 5), .int (nu 6)])), (zd, .inl (cA, nD, .inr (.inr (.inr (.inr (fun i => some (pd i))))))), (zt, .inl (cA, nT, .inr (.inr (.inr (.inr (fun i => some (pt i))))))), (zk, .inl (cA, nK, .inr (.inr (.inr (.inr (fun i => some (pk i))))))), (zu, .inl (cA, nC, .inr (.inr (.inr (.inr (fun i => some (pu i)))))))] ++ RO cI pd pt pk pu nD nT nK nC g st ct cu) := hD
  have hl : lv_has ls 3 [(0, .ref z0), (1, .int an), (2, .int li)] := hl
  refine lv_aload_n hx hb dX6_sees_0 rfl (lv_at hl 0 rfl) ?_
  refine lv_iload_n hx hb dX6_sees_1 rfl (lv_at hl 1 rfl) ?_
  refine lv_bipush (v := 30) hx hb dX6_sees_2 (by decide) ?_
  refine lv_idiv hx hb dX6_sees_4 (by decide) ?_
  refine frI2 (wr := []) (wc := ([(z0, .inr (6, [.ref zd, .ref zt, .ref zk, .ref zu, .int (nu 0), .int (nu 1), .int (nu 2), .int (nu 3), .int (nu 4), .int (nu 5), .int (nu 6)])), (zd, .inl (cA, nD, .inr (.inr (.inr (.inr (fun i => some (pd i))))))), (zt, .inl (cA, nT, .inr (.inr (.inr (.inr (fun i => some (pt i))))))), (zk, .inl (cA, nK, .inr (.inr (.inr (.inr (fun i => some (pk i))))))), (zu, .inl (cA, nC, .inr (.inr (.inr (.inr (fun i => some (pu i)))))))] ++ RO cI pd pt pk pu nD nT nK nC g st ct cu)) (wc' := ([(z0, .inr (6, [.ref zd, .ref zt, .ref zk, .ref zu, .int (nu 0), .int (nu 1), .int (nu 2), .int (nu 3), .int (nu 4), .int (nu 5), .int (nu 6)])), (zd, .inl (cA, nD, .inr (.inr (.inr (.inr (fun i => some (pd i))))))), (zt, .inl (cA, nT, .inr (.inr (.inr (.inr (fun i => some (pt i))))))), (zk, .inl (cA, nK, .inr (.inr (.inr (.inr (fun i => some (pk i))))))), (zu, .inl (cA, nC, .inr (.inr (.inr (.inr (fun i => some (pu i)))))))] ++ RO cI pd pt pk pu nD nT nK nC g st ct cu)) hP hD hS hA (va_runV (As := [.int (an / 30)]) (rest := []) ⟨hx, hb, hml, hown, hts⟩ (tX6_glare l D cI cA z0 zd zt zk zu pd pt pk pu nD nT nC nK nu g st ct cu (an / 30) hn hg hp _) (cwV 1 hts gX6_sees_X6_glare rfl rfl rfl hX6_glare ⟨Nat.le_of_ble_eq_true rfl, Nat.le_of_ble_eq_true rfl⟩) (preVR2 hkr (wr := []) (wc := ([(z0, .inr (6, [.ref zd, .ref zt, .ref zk, .ref zu, .int (nu 0), .int (nu 1), .int (nu 2), .int (nu 3), .int (nu 4), .int (nu 5), .int (nu 6)])), (zd, .inl (cA, nD, .inr (.inr (.inr (.inr (fun i => some (pd i))))))), (zt, .inl (cA, nT, .inr (.inr (.inr (.inr (fun i => some (pt i))))))), (zk, .inl (cA, nK, .inr (.inr (.inr (.inr (fun i => some (pk i))))))), (zu, .inl (cA, nC, .inr (.inr (.inr (.inr (fun i => some (pu i)))))))] ++ RO cI pd pt pk pu nD nT nK nC g st ct cu)) hP hD (recvO hk hP (ci := 6) (q0 := 0) rfl rfl)) rfl rfl hl.1 rfl (lv_room (Nat.le_of_ble_eq_true rfl)) dX6_sees_5 ⟨(show 0 + 0 ≤ 0 by omega), (show 0 + 0 ≤ 0 by omega)⟩) (fun H locs hP hD hS => ?_)
  have hP : va_P D vwCl ([(z0, .inr (6, [.ref zd, .ref zt, .ref zk, .ref zu, .int (nu 0), .int (nu 1), .int (nu 2), .int (nu 3), .int (nu 4), .int (nu 5), .int (nu 6)])), (zd, .inl (cA, nD, .inr (.inr (.inr (.inr (fun i => some (pd i))))))), (zt, .inl (cA, nT, .inr (.inr (.inr (.inr (fun i => some (pt i))))))), (zk, .inl (cA, nK, .inr (.inr (.inr (.inr (fun i => some (pk i))))))), (zu, .inl (cA, nC, .inr (.inr (.inr (.inr (fun i => some (pu i)))))))] ++ RO cI pd pt pk pu nD nT nK nC g st ct cu) H := hP
  have hD : va_D A ([(z0, .inr (6, [.ref zd, .ref zt, .ref zk, .ref zu, .int (nu 0), .int (nu 1), .int (nu 2), .int (nu 3), .int (nu 4), .int (nu 5), .int (nu 6)])), (zd, .inl (cA, nD, .inr (.inr (.inr (.inr (fun i => some (pd i))))))), (zt, .inl (cA, nT, .inr (.inr (.inr (.inr (fun i => some (pt i))))))), (zk, .inl (cA, nK, .inr (.inr (.inr (.inr (fun i => some (pk i))))))), (zu, .inl (cA, nC, .inr (.inr (.inr (.inr (fun i => some (pu i)))))))] ++ RO cI pd pt pk pu nD nT nK nC g st ct cu) := hD
  refine lv_bipush (v := 10) hx hb dX6_sees_8 (by decide) ?_
  refine lv_iload_n hx hb dX6_sees_10 rfl (lv_at hl 2 rfl) ?_
  refine lv_imul hx hb dX6_sees_11 ?_
  refine lv_icmp_ge (tgt := 19) hx hb dX6_sees_12 (by decide) (fun c12 => ?_) (fun c12 => ?_)
  · refine lv_iconst (v := 0) hx hb dX6_sees_19 (by decide) ?_
    exact retIm hx hb hr hlocks hS hP hD dX6_sees_20 (by rw [osI, if_pos c12]) rfl (show 0 ≤ 0 by omega) (show 0 ≤ 0 by omega)
  · refine lv_iconst (v := 1) hx hb dX6_sees_15 (by decide) ?_
    refine lv_goto (tgt := 20) hx hb dX6_sees_16 (by decide) ?_
    exact retIm hx hb hr hlocks hS hP hD dX6_sees_20 (by rw [osI, if_neg c12]) rfl (show 0 ≤ 0 by omega) (show 0 ≤ 0 by omega)

theorem mX6_stars_f15 : (.fieldLink RX6 15 "StarConsoleLaw$Sim" "stars" "[[I" : Cond) ∈ wsX6_stars := by decide +kernel
theorem iX6_stars_X6 : ∀ w ∈ wsX60, w ∈ wsX6_stars := by decide +kernel
theorem mX6_stars_f47 : (.fieldLink RX6 47 "StarConsoleLaw$Sim" "ball" "I" : Cond) ∈ wsX6_stars := by decide +kernel

theorem hX6_stars : yX6_stars.cls = RX6 ∧ yX6_stars.cls ≠ "java/lang/invoke/MethodHandle" ∧ yX6_stars.cls ≠ "java/lang/invoke/VarHandle" ∧ (parseMethodDescriptor yX6_stars.desc).map (fun d => d.parameters.length) = some 0 := by decide +kernel
set_option maxHeartbeats 4000000 in
set_option maxRecDepth 100000 in
theorem tX6_stars (l : Launch) (D : va_G) (cI : ClassId) (cA : ClassId) (z0 zd zt zk zu : Nat) (pd pt pk pu : Nat → Nat) (nD nT nC nK : Nat) (nu : Nat → Int32) (g st ct cu : Mx) (hn : nD ≤ 8) (hg : gOK nD g) (hT9 : nT ≤ 20) (hT : tOK nT st) (hbl : bnd (nu 5) 0 359) : CIr l yX6_stars wsX6_stars ({ frames := 2, cells := 0, slots := 0, locals := 48 } : Room) D cI cA ([.ref z0] : List Value) ([(z0, .inr (6, [.ref zd, .ref zt, .ref zk, .ref zu, .int (nu 0), .int (nu 1), .int (nu 2), .int (nu 3), .int (nu 4), .int (nu 5), .int (nu 6)])), (zd, .inl (cA, nD, .inr (.inr (.inr (.inr (fun i => some (pd i))))))), (zt, .inl (cA, nT, .inr (.inr (.inr (.inr (fun i => some (pt i))))))), (zk, .inl (cA, nK, .inr (.inr (.inr (.inr (fun i => some (pk i))))))), (zu, .inl (cA, nC, .inr (.inr (.inr (.inr (fun i => some (pu i)))))))] ++ RO cI pd pt pk pu nD nT nK nC g st ct cu) (nI (ssN nD g st (nu 5) nT)) ([(z0, .inr (6, [.ref zd, .ref zt, .ref zk, .ref zu, .int (nu 0), .int (nu 1), .int (nu 2), .int (nu 3), .int (nu 4), .int (nu 5), .int (nu 6)])), (zd, .inl (cA, nD, .inr (.inr (.inr (.inr (fun i => some (pd i))))))), (zt, .inl (cA, nT, .inr (.inr (.inr (.inr (fun i => some (pt i))))))), (zk, .inl (cA, nK, .inr (.inr (.inr (.inr (fun i => some (pk i))))))), (zu, .inl (cA, nC, .inr (.inr (.inr (.inr (fun i => some (pu i)))))))] ++ RO cI pd pt pk pu nD nT nK nC g st ct cu) 0 0 := by
  refine entIr (cc := cX6_stars) (maxL := 6) (ret := (some .int)) (by decide) rfl (Nat.le_of_ble_eq_true rfl) (fun p e s m below meth c A ls hkr fx hl => ?_)
  have fx0 := fx
  obtain ⟨hx, hb, hr, hml, hown, hts, hlocks, hk, hP, hD, hA⟩ := fx
  have hown : s.vm.findClass RX6 = some m.cls := hown
  have hS : va_S A s.heap s.heap [] := va_S.rf
  have hP : va_P D vwCl ([(z0, .inr (6, [.ref zd, .ref zt, .ref zk, .ref zu, .int (nu 0), .int (nu 1), .int (nu 2), .int (nu 3), .int (nu 4), .int (nu 5), .int (nu 6)])), (zd, .inl (cA, nD, .inr (.inr (.inr (.inr (fun i => some (pd i))))))), (zt, .inl (cA, nT, .inr (.inr (.inr (.inr (fun i => some (pt i))))))), (zk, .inl (cA, nK, .inr (.inr (.inr (.inr (fun i => some (pk i))))))), (zu, .inl (cA, nC, .inr (.inr (.inr (.inr (fun i => some (pu i)))))))] ++ RO cI pd pt pk pu nD nT nK nC g st ct cu) s.heap := hP
  have hD : va_D A ([(z0, .inr (6, [.ref zd, .ref zt, .ref zk, .ref zu, .int (nu 0), .int (nu 1), .int (nu 2), .int (nu 3), .int (nu 4), .int (nu 5), .int (nu 6)])), (zd, .inl (cA, nD, .inr (.inr (.inr (.inr (fun i => some (pd i))))))), (zt, .inl (cA, nT, .inr (.inr (.inr (.inr (fun i => some (pt i))))))), (zk, .inl (cA, nK, .inr (.inr (.inr (.inr (fun i => some (pk i))))))), (zu, .inl (cA, nC, .inr (.inr (.inr (.inr (fun i => some (pu i)))))))] ++ RO cI pd pt pk pu nD nT nK nC g st ct cu) := hD
  have hl : lv_has ls 6 [(0, .ref z0)] := hl
  refine lv_iconst (v := 0) hx hb dX6_stars_0 (by decide) ?_
  refine lv_istore_n (lv' := [(1, .int 0), (0, .ref z0)]) hx hb dX6_stars_1 rfl hl (by decide) rfl (fun ls hl => ?_)
  refine lv_aload_n hx hb dX6_stars_2 rfl (lv_at hl 1 rfl) ?_
  refine va_get (D := D) (ci := 6) (v := .ref zt) (C := RX6) (T := TX6) (N := 11) hx hb hts iX6_stars_X6 hown hk.1 hP 0 rfl rfl 1 (by decide) (hts _ mX6_stars_f15) (fun _ h9 => h9) rfl dX6_stars_3 ?_
  refine lv_astore_n (lv' := [(2, .ref zt), (1, .int 0), (0, .ref z0)]) hx hb dX6_stars_6 rfl hl (by decide) rfl (fun ls hl => ?_)
  refine lv_aload_n hx hb dX6_stars_7 rfl (lv_at hl 0 rfl) ?_
  refine alenR hx hb (kR.arr hkr) hP 2 rfl dX6_stars_8 ?_
  refine lv_istore_n (lv' := [(3, .int (nI nT)), (2, .ref zt), (1, .int 0), (0, .ref z0)]) hx hb dX6_stars_9 rfl hl (by decide) rfl (fun ls hl => ?_)
  refine lv_iconst (v := 0) hx hb dX6_stars_10 (by decide) ?_
  refine lv_istore (lv' := [(4, .int 0), (3, .int (nI nT)), (2, .ref zt), (1, .int 0), (0, .ref z0)]) hx hb dX6_stars_11 hl (by decide) rfl (fun ls hl => ?_)
  have key13 : ∀ (ku13 : Nat) (i : Nat), i ≤ nT → nT - i < ku13 → ∀ (H : Heap) (locs : List Loc), va_P D vwCl ([(z0, .inr (6, [.ref zd, .ref zt, .ref zk, .ref zu, .int (nu 0), .int (nu 1), .int (nu 2), .int (nu 3), .int (nu 4), .int (nu 5), .int (nu 6)])), (zd, .inl (cA, nD, .inr (.inr (.inr (.inr (fun i => some (pd i))))))), (zt, .inl (cA, nT, .inr (.inr (.inr (.inr (fun i => some (pt i))))))), (zk, .inl (cA, nK, .inr (.inr (.inr (.inr (fun i => some (pk i))))))), (zu, .inl (cA, nC, .inr (.inr (.inr (.inr (fun i => some (pu i)))))))] ++ RO cI pd pt pk pu nD nT nK nC g st ct cu) H → va_D A ([(z0, .inr (6, [.ref zd, .ref zt, .ref zk, .ref zu, .int (nu 0), .int (nu 1), .int (nu 2), .int (nu 3), .int (nu 4), .int (nu 5), .int (nu 6)])), (zd, .inl (cA, nD, .inr (.inr (.inr (.inr (fun i => some (pd i))))))), (zt, .inl (cA, nT, .inr (.inr (.inr (.inr (fun i => some (pt i))))))), (zk, .inl (cA, nK, .inr (.inr (.inr (.inr (fun i => some (pk i))))))), (zu, .inl (cA, nC, .inr (.inr (.inr (.inr (fun i => some (pu i)))))))] ++ RO cI pd pt pk pu nD nT nK nC g st ct cu) → va_S A s.heap H locs → ∀ ls : Array Slot, lv_has ls 6 [(4, .int (nI i)), (1, .int (nI (ssN nD g st (nu 5) i))), (0, .ref z0), (2, .ref zt), (3, .int (nI nT))] → W p l e ({ frames := 2, cells := 0, slots := 0, locals := 48 } : Room) s m ([.ref z0] : List Value).toArray below meth c H locs 0 0 (MQ below (poI D A ([(z0, .inr (6, [.ref zd, .ref zt, .ref zk, .ref zu, .int (nu 0), .int (nu 1), .int (nu 2), .int (nu 3), .int (nu 4), .int (nu 5), .int (nu 6)])), (zd, .inl (cA, nD, .inr (.inr (.inr (.inr (fun i => some (pd i))))))), (zt, .inl (cA, nT, .inr (.inr (.inr (.inr (fun i => some (pt i))))))), (zk, .inl (cA, nK, .inr (.inr (.inr (.inr (fun i => some (pk i))))))), (zu, .inl (cA, nC, .inr (.inr (.inr (.inr (fun i => some (pu i)))))))] ++ RO cI pd pt pk pu nD nT nK nC g st ct cu) (nI (ssN nD g st (nu 5) nT))) ([.ref z0] : List Value).toArray s 0 0 A) (F0 m 13 ls []) := by
    intro ku13
    induction ku13 with
    | zero => intro i; intros; omega
    | succ ku13 ih13 =>
      intro i  hi13 hm13  H locs hP hD hS ls hl
      refine lv_iload hx hb dX6_stars_13 (lv_at hl 0 rfl) ?_
      refine lv_iload_n hx hb dX6_stars_15 rfl (lv_at hl 4 rfl) ?_
      refine icgeN (i := i) (n := nT) (tgt := 63) hx hb (by omega) (by omega) dX6_stars_16 (by decide) (fun c16 => ?_) (fun c16 => ?_)
      · obtain rfl : nT = i := by omega
        refine lv_iload_n hx hb dX6_stars_63 rfl (lv_at hl 1 rfl) ?_
        exact retIm hx hb hr hlocks hS hP hD dX6_stars_64 (rfl) rfl (show 0 ≤ 0 by omega) (show 0 ≤ 0 by omega)
      · refine lv_aload_n hx hb dX6_stars_19 rfl (lv_at hl 3 rfl) ?_
        refine lv_iload hx hb dX6_stars_20 (lv_at hl 0 rfl) ?_
        refine aaldR hx hb (kR.arr hkr) hP 2 rfl (vin_n (show i < nT by omega) (by omega)) dX6_stars_22 ?_
        refine top_eq (show _ = Value.ref (pt i) from by rw [show (nI i : Int32) = nI i from rfl, nI_clamp (show i < 2 ^ 31 by omega)]; rfl) ?_
        refine lv_astore (lv' := [(5, .ref (pt i)), (4, .int (nI i)), (1, .int (nI (ssN nD g st (nu 5) i))), (0, .ref z0), (2, .ref zt), (3, .int (nI nT))]) hx hb dX6_stars_23 hl (by decide) rfl (fun ls hl => ?_)
        refine lv_iload_n hx hb dX6_stars_25 rfl (lv_at hl 2 rfl) ?_
        refine lv_aload_n hx hb dX6_stars_26 rfl (lv_at hl 3 rfl) ?_
        refine lv_aload hx hb dX6_stars_27 (lv_at hl 0 rfl) ?_
        refine lv_iconst (v := 0) hx hb dX6_stars_29 (by decide) ?_
        refine aldN hx hb hk hP _ (ro_t (E := [(z0, .inr (6, [.ref zd, .ref zt, .ref zk, .ref zu, .int (nu 0), .int (nu 1), .int (nu 2), .int (nu 3), .int (nu 4), .int (nu 5), .int (nu 6)])), (zd, .inl (cA, nD, .inr (.inr (.inr (.inr (fun i => some (pd i))))))), (zt, .inl (cA, nT, .inr (.inr (.inr (.inr (fun i => some (pt i))))))), (zk, .inl (cA, nK, .inr (.inr (.inr (.inr (fun i => some (pk i))))))), (zu, .inl (cA, nC, .inr (.inr (.inr (.inr (fun i => some (pu i)))))))]) (i := i) (by omega)) 0 rfl (by omega) (Nat.le_of_ble_eq_true rfl) dX6_stars_30 ?_
        refine top_int (show _ = st 0 i from rfl) ?_
        refine lv_aload_n hx hb dX6_stars_31 rfl (lv_at hl 3 rfl) ?_
        refine va_get (D := D) (ci := 6) (v := .int (nu 5)) (C := RX6) (T := TX6) (N := 11) hx hb hts iX6_stars_X6 hown hk.1 hP 0 rfl rfl 9 (by decide) (hts _ mX6_stars_f47) (fun _ h9 => h9) rfl dX6_stars_32 ?_
        refine lv_iadd hx hb dX6_stars_35 ?_
        refine lv_sipush (v := 360) hx hb dX6_stars_36 (by decide) ?_
        refine lv_irem hx hb dX6_stars_39 (by decide) ?_
        refine top_int (show _ = irm (((st 0 i) + (nu 5))) 360 from rfl) ?_
        refine top_int (tnd_st (hT i (by omega)) hbl).1 ?_
        refine lv_aload hx hb dX6_stars_40 (lv_at hl 0 rfl) ?_
        refine lv_iconst (v := 1) hx hb dX6_stars_42 (by decide) ?_
        refine aldN hx hb hk hP _ (ro_t (E := [(z0, .inr (6, [.ref zd, .ref zt, .ref zk, .ref zu, .int (nu 0), .int (nu 1), .int (nu 2), .int (nu 3), .int (nu 4), .int (nu 5), .int (nu 6)])), (zd, .inl (cA, nD, .inr (.inr (.inr (.inr (fun i => some (pd i))))))), (zt, .inl (cA, nT, .inr (.inr (.inr (.inr (fun i => some (pt i))))))), (zk, .inl (cA, nK, .inr (.inr (.inr (.inr (fun i => some (pk i))))))), (zu, .inl (cA, nC, .inr (.inr (.inr (.inr (fun i => some (pu i)))))))]) (i := i) (by omega)) 1 rfl (by omega) (Nat.le_of_ble_eq_true rfl) dX6_stars_43 ?_
        refine top_int (show _ = st 1 i from rfl) ?_
        refine frI2 (wr := []) (wc := ([(z0, .inr (6, [.ref zd, .ref zt, .ref zk, .ref zu, .int (nu 0), .int (nu 1), .int (nu 2), .int (nu 3), .int (nu 4), .int (nu 5), .int (nu 6)])), (zd, .inl (cA, nD, .inr (.inr (.inr (.inr (fun i => some (pd i))))))), (zt, .inl (cA, nT, .inr (.inr (.inr (.inr (fun i => some (pt i))))))), (zk, .inl (cA, nK, .inr (.inr (.inr (.inr (fun i => some (pk i))))))), (zu, .inl (cA, nC, .inr (.inr (.inr (.inr (fun i => some (pu i)))))))] ++ RO cI pd pt pk pu nD nT nK nC g st ct cu)) (wc' := ([(z0, .inr (6, [.ref zd, .ref zt, .ref zk, .ref zu, .int (nu 0), .int (nu 1), .int (nu 2), .int (nu 3), .int (nu 4), .int (nu 5), .int (nu 6)])), (zd, .inl (cA, nD, .inr (.inr (.inr (.inr (fun i => some (pd i))))))), (zt, .inl (cA, nT, .inr (.inr (.inr (.inr (fun i => some (pt i))))))), (zk, .inl (cA, nK, .inr (.inr (.inr (.inr (fun i => some (pk i))))))), (zu, .inl (cA, nC, .inr (.inr (.inr (.inr (fun i => some (pu i)))))))] ++ RO cI pd pt pk pu nD nT nK nC g st ct cu)) hP hD hS hA (va_runV (As := [.int (tnd (st 0 i) (nu 5)), .int (st 1 i)]) (rest := [.int (nI (ssN nD g st (nu 5) i))]) ⟨hx, hb, hml, hown, hts⟩ (tX6_sees l D cI cA z0 zd zt zk zu pd pt pk pu nD nT nC nK nu g st ct cu (tnd (st 0 i) (nu 5)) (st 1 i) hn hg (pt_rd (tnd_st (hT i (by omega)) hbl).2) _) (cwV 2 hts gX6_stars_X6_sees rfl rfl rfl hX6_sees ⟨Nat.le_of_ble_eq_true rfl, Nat.le_of_ble_eq_true rfl⟩) (preVR2 hkr (wr := []) (wc := ([(z0, .inr (6, [.ref zd, .ref zt, .ref zk, .ref zu, .int (nu 0), .int (nu 1), .int (nu 2), .int (nu 3), .int (nu 4), .int (nu 5), .int (nu 6)])), (zd, .inl (cA, nD, .inr (.inr (.inr (.inr (fun i => some (pd i))))))), (zt, .inl (cA, nT, .inr (.inr (.inr (.inr (fun i => some (pt i))))))), (zk, .inl (cA, nK, .inr (.inr (.inr (.inr (fun i => some (pk i))))))), (zu, .inl (cA, nC, .inr (.inr (.inr (.inr (fun i => some (pu i)))))))] ++ RO cI pd pt pk pu nD nT nK nC g st ct cu)) hP hD (recvO hk hP (ci := 6) (q0 := 0) rfl rfl)) rfl rfl hl.1 rfl (lv_room (Nat.le_of_ble_eq_true rfl)) dX6_stars_44 ⟨(show 0 + 0 ≤ 0 by omega), (show 0 + 0 ≤ 0 by omega)⟩) (fun H locs hP hD hS => ?_)
        have hP : va_P D vwCl ([(z0, .inr (6, [.ref zd, .ref zt, .ref zk, .ref zu, .int (nu 0), .int (nu 1), .int (nu 2), .int (nu 3), .int (nu 4), .int (nu 5), .int (nu 6)])), (zd, .inl (cA, nD, .inr (.inr (.inr (.inr (fun i => some (pd i))))))), (zt, .inl (cA, nT, .inr (.inr (.inr (.inr (fun i => some (pt i))))))), (zk, .inl (cA, nK, .inr (.inr (.inr (.inr (fun i => some (pk i))))))), (zu, .inl (cA, nC, .inr (.inr (.inr (.inr (fun i => some (pu i)))))))] ++ RO cI pd pt pk pu nD nT nK nC g st ct cu) H := hP
        have hD : va_D A ([(z0, .inr (6, [.ref zd, .ref zt, .ref zk, .ref zu, .int (nu 0), .int (nu 1), .int (nu 2), .int (nu 3), .int (nu 4), .int (nu 5), .int (nu 6)])), (zd, .inl (cA, nD, .inr (.inr (.inr (.inr (fun i => some (pd i))))))), (zt, .inl (cA, nT, .inr (.inr (.inr (.inr (fun i => some (pt i))))))), (zk, .inl (cA, nK, .inr (.inr (.inr (.inr (fun i => some (pk i))))))), (zu, .inl (cA, nC, .inr (.inr (.inr (.inr (fun i => some (pu i)))))))] ++ RO cI pd pt pk pu nD nT nK nC g st ct cu) := hD
        refine lv_if_eq (tgt := 54) hx hb dX6_stars_47 (by decide) (fun c47 => ?_) (fun c47 => ?_)
        · refine lv_iconst (v := 0) hx hb dX6_stars_54 (by decide) ?_
          refine lv_iadd hx hb dX6_stars_55 ?_
          refine top_int (naddE (a := ssN nD g st (nu 5) i) (b := 0) rfl rfl) ?_
          refine lv_istore_n (lv' := [(1, .int (nI ((ssN nD g st (nu 5) i) + 0))), (5, .ref (pt i)), (4, .int (nI i)), (0, .ref z0), (2, .ref zt), (3, .int (nI nT))]) hx hb dX6_stars_56 rfl hl (by decide) rfl (fun ls hl => ?_)
          refine lv_iinc (v := nI (i + 1)) (lv' := [(4, .int (nI (i + 1))), (1, .int (nI ((ssN nD g st (nu 5) i) + 0))), (5, .ref (pt i)), (0, .ref z0), (2, .ref zt), (3, .int (nI nT))]) hx hb dX6_stars_57 hl (k := 2) rfl (nI_inc i) (by decide) rfl (fun ls hl => ?_)
          refine lv_goto (tgt := 13) hx hb dX6_stars_60 (by decide) ?_
          have ihx := ih13 (i + 1)  (by omega) (by omega) 
          rw [ssN_0 c47] at ihx
          exact ihx _ _ hP hD hS _ (lv_sub hl [0, 1, 3, 4, 5] rfl)
        · refine lv_iconst (v := 1) hx hb dX6_stars_50 (by decide) ?_
          refine lv_goto (tgt := 55) hx hb dX6_stars_51 (by decide) ?_
          refine lv_iadd hx hb dX6_stars_55 ?_
          refine top_int (naddE (a := ssN nD g st (nu 5) i) (b := 1) rfl rfl) ?_
          refine lv_istore_n (lv' := [(1, .int (nI ((ssN nD g st (nu 5) i) + 1))), (5, .ref (pt i)), (4, .int (nI i)), (0, .ref z0), (2, .ref zt), (3, .int (nI nT))]) hx hb dX6_stars_56 rfl hl (by decide) rfl (fun ls hl => ?_)
          refine lv_iinc (v := nI (i + 1)) (lv' := [(4, .int (nI (i + 1))), (1, .int (nI ((ssN nD g st (nu 5) i) + 1))), (5, .ref (pt i)), (0, .ref z0), (2, .ref zt), (3, .int (nI nT))]) hx hb dX6_stars_57 hl (k := 2) rfl (nI_inc i) (by decide) rfl (fun ls hl => ?_)
          refine lv_goto (tgt := 13) hx hb dX6_stars_60 (by decide) ?_
          have ihx := ih13 (i + 1)  (by omega) (by omega) 
          rw [ssN_1 c47] at ihx
          exact ihx _ _ hP hD hS _ (lv_sub hl [0, 1, 3, 4, 5] rfl)
  exact key13 (nT + 1) 0  (by omega) (by omega)  _ _ hP hD hS _ (lv_sub hl [0, 3, 4, 2, 1] rfl)

theorem mX6_comets_f18 : (.fieldLink RX6 18 "StarConsoleLaw$Sim" "comets" "[[I" : Cond) ∈ wsX6_comets := by decide +kernel
theorem iX6_comets_X6 : ∀ w ∈ wsX60, w ∈ wsX6_comets := by decide +kernel

theorem hX6_comets : yX6_comets.cls = RX6 ∧ yX6_comets.cls ≠ "java/lang/invoke/MethodHandle" ∧ yX6_comets.cls ≠ "java/lang/invoke/VarHandle" ∧ (parseMethodDescriptor yX6_comets.desc).map (fun d => d.parameters.length) = some 0 := by decide +kernel
set_option maxHeartbeats 4000000 in
set_option maxRecDepth 100000 in
theorem tX6_comets (l : Launch) (D : va_G) (cI : ClassId) (cA : ClassId) (z0 zd zt zk zu : Nat) (pd pt pk pu : Nat → Nat) (nD nT nC nK : Nat) (nu : Nat → Int32) (g st ct cu : Mx) (hn : nD ≤ 8) (hg : gOK nD g) (hK : nK ≤ 12) (hc : cOK nK ct) : CIr l yX6_comets wsX6_comets ({ frames := 2, cells := 0, slots := 0, locals := 48 } : Room) D cI cA ([.ref z0] : List Value) ([(z0, .inr (6, [.ref zd, .ref zt, .ref zk, .ref zu, .int (nu 0), .int (nu 1), .int (nu 2), .int (nu 3), .int (nu 4), .int (nu 5), .int (nu 6)])), (zd, .inl (cA, nD, .inr (.inr (.inr (.inr (fun i => some (pd i))))))), (zt, .inl (cA, nT, .inr (.inr (.inr (.inr (fun i => some (pt i))))))), (zk, .inl (cA, nK, .inr (.inr (.inr (.inr (fun i => some (pk i))))))), (zu, .inl (cA, nC, .inr (.inr (.inr (.inr (fun i => some (pu i)))))))] ++ RO cI pd pt pk pu nD nT nK nC g st ct cu) (nI (csN nD g ct nK)) ([(z0, .inr (6, [.ref zd, .ref zt, .ref zk, .ref zu, .int (nu 0), .int (nu 1), .int (nu 2), .int (nu 3), .int (nu 4), .int (nu 5), .int (nu 6)])), (zd, .inl (cA, nD, .inr (.inr (.inr (.inr (fun i => some (pd i))))))), (zt, .inl (cA, nT, .inr (.inr (.inr (.inr (fun i => some (pt i))))))), (zk, .inl (cA, nK, .inr (.inr (.inr (.inr (fun i => some (pk i))))))), (zu, .inl (cA, nC, .inr (.inr (.inr (.inr (fun i => some (pu i)))))))] ++ RO cI pd pt pk pu nD nT nK nC g st ct cu) 0 0 := by
  refine entIr (cc := cX6_comets) (maxL := 6) (ret := (some .int)) (by decide) rfl (Nat.le_of_ble_eq_true rfl) (fun p e s m below meth c A ls hkr fx hl => ?_)
  have fx0 := fx
  obtain ⟨hx, hb, hr, hml, hown, hts, hlocks, hk, hP, hD, hA⟩ := fx
  have hown : s.vm.findClass RX6 = some m.cls := hown
  have hS : va_S A s.heap s.heap [] := va_S.rf
  have hP : va_P D vwCl ([(z0, .inr (6, [.ref zd, .ref zt, .ref zk, .ref zu, .int (nu 0), .int (nu 1), .int (nu 2), .int (nu 3), .int (nu 4), .int (nu 5), .int (nu 6)])), (zd, .inl (cA, nD, .inr (.inr (.inr (.inr (fun i => some (pd i))))))), (zt, .inl (cA, nT, .inr (.inr (.inr (.inr (fun i => some (pt i))))))), (zk, .inl (cA, nK, .inr (.inr (.inr (.inr (fun i => some (pk i))))))), (zu, .inl (cA, nC, .inr (.inr (.inr (.inr (fun i => some (pu i)))))))] ++ RO cI pd pt pk pu nD nT nK nC g st ct cu) s.heap := hP
  have hD : va_D A ([(z0, .inr (6, [.ref zd, .ref zt, .ref zk, .ref zu, .int (nu 0), .int (nu 1), .int (nu 2), .int (nu 3), .int (nu 4), .int (nu 5), .int (nu 6)])), (zd, .inl (cA, nD, .inr (.inr (.inr (.inr (fun i => some (pd i))))))), (zt, .inl (cA, nT, .inr (.inr (.inr (.inr (fun i => some (pt i))))))), (zk, .inl (cA, nK, .inr (.inr (.inr (.inr (fun i => some (pk i))))))), (zu, .inl (cA, nC, .inr (.inr (.inr (.inr (fun i => some (pu i)))))))] ++ RO cI pd pt pk pu nD nT nK nC g st ct cu) := hD
  have hl : lv_has ls 6 [(0, .ref z0)] := hl
  refine lv_iconst (v := 0) hx hb dX6_comets_0 (by decide) ?_
  refine lv_istore_n (lv' := [(1, .int 0), (0, .ref z0)]) hx hb dX6_comets_1 rfl hl (by decide) rfl (fun ls hl => ?_)
  refine lv_aload_n hx hb dX6_comets_2 rfl (lv_at hl 1 rfl) ?_
  refine va_get (D := D) (ci := 6) (v := .ref zk) (C := RX6) (T := TX6) (N := 11) hx hb hts iX6_comets_X6 hown hk.1 hP 0 rfl rfl 2 (by decide) (hts _ mX6_comets_f18) (fun _ h9 => h9) rfl dX6_comets_3 ?_
  refine lv_astore_n (lv' := [(2, .ref zk), (1, .int 0), (0, .ref z0)]) hx hb dX6_comets_6 rfl hl (by decide) rfl (fun ls hl => ?_)
  refine lv_aload_n hx hb dX6_comets_7 rfl (lv_at hl 0 rfl) ?_
  refine alenR hx hb (kR.arr hkr) hP 3 rfl dX6_comets_8 ?_
  refine lv_istore_n (lv' := [(3, .int (nI nK)), (2, .ref zk), (1, .int 0), (0, .ref z0)]) hx hb dX6_comets_9 rfl hl (by decide) rfl (fun ls hl => ?_)
  refine lv_iconst (v := 0) hx hb dX6_comets_10 (by decide) ?_
  refine lv_istore (lv' := [(4, .int 0), (3, .int (nI nK)), (2, .ref zk), (1, .int 0), (0, .ref z0)]) hx hb dX6_comets_11 hl (by decide) rfl (fun ls hl => ?_)
  have key13 : ∀ (ku13 : Nat) (i : Nat), i ≤ nK → nK - i < ku13 → ∀ (H : Heap) (locs : List Loc), va_P D vwCl ([(z0, .inr (6, [.ref zd, .ref zt, .ref zk, .ref zu, .int (nu 0), .int (nu 1), .int (nu 2), .int (nu 3), .int (nu 4), .int (nu 5), .int (nu 6)])), (zd, .inl (cA, nD, .inr (.inr (.inr (.inr (fun i => some (pd i))))))), (zt, .inl (cA, nT, .inr (.inr (.inr (.inr (fun i => some (pt i))))))), (zk, .inl (cA, nK, .inr (.inr (.inr (.inr (fun i => some (pk i))))))), (zu, .inl (cA, nC, .inr (.inr (.inr (.inr (fun i => some (pu i)))))))] ++ RO cI pd pt pk pu nD nT nK nC g st ct cu) H → va_D A ([(z0, .inr (6, [.ref zd, .ref zt, .ref zk, .ref zu, .int (nu 0), .int (nu 1), .int (nu 2), .int (nu 3), .int (nu 4), .int (nu 5), .int (nu 6)])), (zd, .inl (cA, nD, .inr (.inr (.inr (.inr (fun i => some (pd i))))))), (zt, .inl (cA, nT, .inr (.inr (.inr (.inr (fun i => some (pt i))))))), (zk, .inl (cA, nK, .inr (.inr (.inr (.inr (fun i => some (pk i))))))), (zu, .inl (cA, nC, .inr (.inr (.inr (.inr (fun i => some (pu i)))))))] ++ RO cI pd pt pk pu nD nT nK nC g st ct cu) → va_S A s.heap H locs → ∀ ls : Array Slot, lv_has ls 6 [(4, .int (nI i)), (1, .int (nI (csN nD g ct i))), (0, .ref z0), (2, .ref zk), (3, .int (nI nK))] → W p l e ({ frames := 2, cells := 0, slots := 0, locals := 48 } : Room) s m ([.ref z0] : List Value).toArray below meth c H locs 0 0 (MQ below (poI D A ([(z0, .inr (6, [.ref zd, .ref zt, .ref zk, .ref zu, .int (nu 0), .int (nu 1), .int (nu 2), .int (nu 3), .int (nu 4), .int (nu 5), .int (nu 6)])), (zd, .inl (cA, nD, .inr (.inr (.inr (.inr (fun i => some (pd i))))))), (zt, .inl (cA, nT, .inr (.inr (.inr (.inr (fun i => some (pt i))))))), (zk, .inl (cA, nK, .inr (.inr (.inr (.inr (fun i => some (pk i))))))), (zu, .inl (cA, nC, .inr (.inr (.inr (.inr (fun i => some (pu i)))))))] ++ RO cI pd pt pk pu nD nT nK nC g st ct cu) (nI (csN nD g ct nK))) ([.ref z0] : List Value).toArray s 0 0 A) (F0 m 13 ls []) := by
    intro ku13
    induction ku13 with
    | zero => intro i; intros; omega
    | succ ku13 ih13 =>
      intro i  hi13 hm13  H locs hP hD hS ls hl
      refine lv_iload hx hb dX6_comets_13 (lv_at hl 0 rfl) ?_
      refine lv_iload_n hx hb dX6_comets_15 rfl (lv_at hl 4 rfl) ?_
      refine icgeN (i := i) (n := nK) (tgt := 59) hx hb (by omega) (by omega) dX6_comets_16 (by decide) (fun c16 => ?_) (fun c16 => ?_)
      · obtain rfl : nK = i := by omega
        refine lv_iload_n hx hb dX6_comets_59 rfl (lv_at hl 1 rfl) ?_
        exact retIm hx hb hr hlocks hS hP hD dX6_comets_60 (rfl) rfl (show 0 ≤ 0 by omega) (show 0 ≤ 0 by omega)
      · refine lv_aload_n hx hb dX6_comets_19 rfl (lv_at hl 3 rfl) ?_
        refine lv_iload hx hb dX6_comets_20 (lv_at hl 0 rfl) ?_
        refine aaldR hx hb (kR.arr hkr) hP 3 rfl (vin_n (show i < nK by omega) (by omega)) dX6_comets_22 ?_
        refine top_eq (show _ = Value.ref (pk i) from by rw [show (nI i : Int32) = nI i from rfl, nI_clamp (show i < 2 ^ 31 by omega)]; rfl) ?_
        refine lv_astore (lv' := [(5, .ref (pk i)), (4, .int (nI i)), (1, .int (nI (csN nD g ct i))), (0, .ref z0), (2, .ref zk), (3, .int (nI nK))]) hx hb dX6_comets_23 hl (by decide) rfl (fun ls hl => ?_)
        refine lv_iload_n hx hb dX6_comets_25 rfl (lv_at hl 2 rfl) ?_
        refine lv_aload hx hb dX6_comets_26 (lv_at hl 0 rfl) ?_
        refine lv_iconst (v := 2) hx hb dX6_comets_28 (by decide) ?_
        refine aldN hx hb hk hP _ (ro_k (E := [(z0, .inr (6, [.ref zd, .ref zt, .ref zk, .ref zu, .int (nu 0), .int (nu 1), .int (nu 2), .int (nu 3), .int (nu 4), .int (nu 5), .int (nu 6)])), (zd, .inl (cA, nD, .inr (.inr (.inr (.inr (fun i => some (pd i))))))), (zt, .inl (cA, nT, .inr (.inr (.inr (.inr (fun i => some (pt i))))))), (zk, .inl (cA, nK, .inr (.inr (.inr (.inr (fun i => some (pk i))))))), (zu, .inl (cA, nC, .inr (.inr (.inr (.inr (fun i => some (pu i)))))))]) (i := i) (by omega)) 2 rfl (by omega) (Nat.le_of_ble_eq_true rfl) dX6_comets_29 ?_
        refine top_int (show _ = ct 2 i from rfl) ?_
        refine lv_if_le (tgt := 50) hx hb dX6_comets_30 (by decide) (fun c30 => ?_) (fun c30 => ?_)
        · refine lv_iconst (v := 0) hx hb dX6_comets_50 (by decide) ?_
          refine lv_iadd hx hb dX6_comets_51 ?_
          refine top_int (naddE (a := csN nD g ct i) (b := 0) rfl rfl) ?_
          refine lv_istore_n (lv' := [(1, .int (nI ((csN nD g ct i) + 0))), (5, .ref (pk i)), (4, .int (nI i)), (0, .ref z0), (2, .ref zk), (3, .int (nI nK))]) hx hb dX6_comets_52 rfl hl (by decide) rfl (fun ls hl => ?_)
          refine lv_iinc (v := nI (i + 1)) (lv' := [(4, .int (nI (i + 1))), (1, .int (nI ((csN nD g ct i) + 0))), (5, .ref (pk i)), (0, .ref z0), (2, .ref zk), (3, .int (nI nK))]) hx hb dX6_comets_53 hl (k := 2) rfl (nI_inc i) (by decide) rfl (fun ls hl => ?_)
          refine lv_goto (tgt := 13) hx hb dX6_comets_56 (by decide) ?_
          have ihx := ih13 (i + 1)  (by omega) (by omega) 
          rw [csN_0a c30] at ihx
          exact ihx _ _ hP hD hS _ (lv_sub hl [0, 1, 3, 4, 5] rfl)
        · refine lv_aload_n hx hb dX6_comets_33 rfl (lv_at hl 3 rfl) ?_
          refine lv_aload hx hb dX6_comets_34 (lv_at hl 0 rfl) ?_
          refine lv_iconst (v := 0) hx hb dX6_comets_36 (by decide) ?_
          refine aldN hx hb hk hP _ (ro_k (E := [(z0, .inr (6, [.ref zd, .ref zt, .ref zk, .ref zu, .int (nu 0), .int (nu 1), .int (nu 2), .int (nu 3), .int (nu 4), .int (nu 5), .int (nu 6)])), (zd, .inl (cA, nD, .inr (.inr (.inr (.inr (fun i => some (pd i))))))), (zt, .inl (cA, nT, .inr (.inr (.inr (.inr (fun i => some (pt i))))))), (zk, .inl (cA, nK, .inr (.inr (.inr (.inr (fun i => some (pk i))))))), (zu, .inl (cA, nC, .inr (.inr (.inr (.inr (fun i => some (pu i)))))))]) (i := i) (by omega)) 0 rfl (by omega) (Nat.le_of_ble_eq_true rfl) dX6_comets_37 ?_
          refine top_int (show _ = ct 0 i from rfl) ?_
          refine lv_bipush (v := 6) hx hb dX6_comets_38 (by decide) ?_
          refine frI2 (wr := []) (wc := ([(z0, .inr (6, [.ref zd, .ref zt, .ref zk, .ref zu, .int (nu 0), .int (nu 1), .int (nu 2), .int (nu 3), .int (nu 4), .int (nu 5), .int (nu 6)])), (zd, .inl (cA, nD, .inr (.inr (.inr (.inr (fun i => some (pd i))))))), (zt, .inl (cA, nT, .inr (.inr (.inr (.inr (fun i => some (pt i))))))), (zk, .inl (cA, nK, .inr (.inr (.inr (.inr (fun i => some (pk i))))))), (zu, .inl (cA, nC, .inr (.inr (.inr (.inr (fun i => some (pu i)))))))] ++ RO cI pd pt pk pu nD nT nK nC g st ct cu)) (wc' := ([(z0, .inr (6, [.ref zd, .ref zt, .ref zk, .ref zu, .int (nu 0), .int (nu 1), .int (nu 2), .int (nu 3), .int (nu 4), .int (nu 5), .int (nu 6)])), (zd, .inl (cA, nD, .inr (.inr (.inr (.inr (fun i => some (pd i))))))), (zt, .inl (cA, nT, .inr (.inr (.inr (.inr (fun i => some (pt i))))))), (zk, .inl (cA, nK, .inr (.inr (.inr (.inr (fun i => some (pk i))))))), (zu, .inl (cA, nC, .inr (.inr (.inr (.inr (fun i => some (pu i)))))))] ++ RO cI pd pt pk pu nD nT nK nC g st ct cu)) hP hD hS hA (va_runV (As := [.int (ct 0 i), .int 6]) (rest := [.int (nI (csN nD g ct i))]) ⟨hx, hb, hml, hown, hts⟩ (tX6_sees l D cI cA z0 zd zt zk zu pd pt pk pu nD nT nC nK nu g st ct cu (ct 0 i) 6 hn hg (pt_rd (hc i (by omega)).1) _) (cwV 2 hts gX6_comets_X6_sees rfl rfl rfl hX6_sees ⟨Nat.le_of_ble_eq_true rfl, Nat.le_of_ble_eq_true rfl⟩) (preVR2 hkr (wr := []) (wc := ([(z0, .inr (6, [.ref zd, .ref zt, .ref zk, .ref zu, .int (nu 0), .int (nu 1), .int (nu 2), .int (nu 3), .int (nu 4), .int (nu 5), .int (nu 6)])), (zd, .inl (cA, nD, .inr (.inr (.inr (.inr (fun i => some (pd i))))))), (zt, .inl (cA, nT, .inr (.inr (.inr (.inr (fun i => some (pt i))))))), (zk, .inl (cA, nK, .inr (.inr (.inr (.inr (fun i => some (pk i))))))), (zu, .inl (cA, nC, .inr (.inr (.inr (.inr (fun i => some (pu i)))))))] ++ RO cI pd pt pk pu nD nT nK nC g st ct cu)) hP hD (recvO hk hP (ci := 6) (q0 := 0) rfl rfl)) rfl rfl hl.1 rfl (lv_room (Nat.le_of_ble_eq_true rfl)) dX6_comets_40 ⟨(show 0 + 0 ≤ 0 by omega), (show 0 + 0 ≤ 0 by omega)⟩) (fun H locs hP hD hS => ?_)
          have hP : va_P D vwCl ([(z0, .inr (6, [.ref zd, .ref zt, .ref zk, .ref zu, .int (nu 0), .int (nu 1), .int (nu 2), .int (nu 3), .int (nu 4), .int (nu 5), .int (nu 6)])), (zd, .inl (cA, nD, .inr (.inr (.inr (.inr (fun i => some (pd i))))))), (zt, .inl (cA, nT, .inr (.inr (.inr (.inr (fun i => some (pt i))))))), (zk, .inl (cA, nK, .inr (.inr (.inr (.inr (fun i => some (pk i))))))), (zu, .inl (cA, nC, .inr (.inr (.inr (.inr (fun i => some (pu i)))))))] ++ RO cI pd pt pk pu nD nT nK nC g st ct cu) H := hP
          have hD : va_D A ([(z0, .inr (6, [.ref zd, .ref zt, .ref zk, .ref zu, .int (nu 0), .int (nu 1), .int (nu 2), .int (nu 3), .int (nu 4), .int (nu 5), .int (nu 6)])), (zd, .inl (cA, nD, .inr (.inr (.inr (.inr (fun i => some (pd i))))))), (zt, .inl (cA, nT, .inr (.inr (.inr (.inr (fun i => some (pt i))))))), (zk, .inl (cA, nK, .inr (.inr (.inr (.inr (fun i => some (pk i))))))), (zu, .inl (cA, nC, .inr (.inr (.inr (.inr (fun i => some (pu i)))))))] ++ RO cI pd pt pk pu nD nT nK nC g st ct cu) := hD
          refine lv_if_eq (tgt := 50) hx hb dX6_comets_43 (by decide) (fun c43 => ?_) (fun c43 => ?_)
          · refine lv_iconst (v := 0) hx hb dX6_comets_50 (by decide) ?_
            refine lv_iadd hx hb dX6_comets_51 ?_
            refine top_int (naddE (a := csN nD g ct i) (b := 0) rfl rfl) ?_
            refine lv_istore_n (lv' := [(1, .int (nI ((csN nD g ct i) + 0))), (5, .ref (pk i)), (4, .int (nI i)), (0, .ref z0), (2, .ref zk), (3, .int (nI nK))]) hx hb dX6_comets_52 rfl hl (by decide) rfl (fun ls hl => ?_)
            refine lv_iinc (v := nI (i + 1)) (lv' := [(4, .int (nI (i + 1))), (1, .int (nI ((csN nD g ct i) + 0))), (5, .ref (pk i)), (0, .ref z0), (2, .ref zk), (3, .int (nI nK))]) hx hb dX6_comets_53 hl (k := 2) rfl (nI_inc i) (by decide) rfl (fun ls hl => ?_)
            refine lv_goto (tgt := 13) hx hb dX6_comets_56 (by decide) ?_
            have ihx := ih13 (i + 1)  (by omega) (by omega) 
            rw [csN_0b c30 c43] at ihx
            exact ihx _ _ hP hD hS _ (lv_sub hl [0, 1, 3, 4, 5] rfl)
          · refine lv_iconst (v := 1) hx hb dX6_comets_46 (by decide) ?_
            refine lv_goto (tgt := 51) hx hb dX6_comets_47 (by decide) ?_
            refine lv_iadd hx hb dX6_comets_51 ?_
            refine top_int (naddE (a := csN nD g ct i) (b := 1) rfl rfl) ?_
            refine lv_istore_n (lv' := [(1, .int (nI ((csN nD g ct i) + 1))), (5, .ref (pk i)), (4, .int (nI i)), (0, .ref z0), (2, .ref zk), (3, .int (nI nK))]) hx hb dX6_comets_52 rfl hl (by decide) rfl (fun ls hl => ?_)
            refine lv_iinc (v := nI (i + 1)) (lv' := [(4, .int (nI (i + 1))), (1, .int (nI ((csN nD g ct i) + 1))), (5, .ref (pk i)), (0, .ref z0), (2, .ref zk), (3, .int (nI nK))]) hx hb dX6_comets_53 hl (k := 2) rfl (nI_inc i) (by decide) rfl (fun ls hl => ?_)
            refine lv_goto (tgt := 13) hx hb dX6_comets_56 (by decide) ?_
            have ihx := ih13 (i + 1)  (by omega) (by omega) 
            rw [csN_1 c30 c43] at ihx
            exact ihx _ _ hP hD hS _ (lv_sub hl [0, 1, 3, 4, 5] rfl)
  exact key13 (nK + 1) 0  (by omega) (by omega)  _ _ hP hD hS _ (lv_sub hl [0, 3, 4, 2, 1] rfl)
