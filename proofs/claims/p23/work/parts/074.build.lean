/-! a console that cells choose -/
def nu0 : Nat → Int32 := fun j => cond (Nat.beq j 3) (-1) 0
def S00 : SH := (nu0, fun _ _ => 0, 0, fun _ _ => 0)
theorem pOK_0 : pOK 0 0 0 0 (fun _ _ => 0) (fun _ _ => 0) S00 := by
  refine ⟨⟨by omega, by omega, by omega, ⟨by decide, fun i h => absurd h (Nat.not_lt_zero i), fun i h => absurd h (Nat.not_lt_zero i), Or.inl rfl, ⟨by decide, by decide⟩, ⟨by decide, by decide⟩⟩, fun i h => absurd h (Nat.not_lt_zero i), fun i h => absurd h (Nat.not_lt_zero i)⟩, fun i h => absurd h (Nat.not_lt_zero i), ⟨⟨by decide, by decide⟩, fun _ => rfl, fun h => absurd rfl h⟩, fun i h => absurd h (Nat.not_lt_zero i), ⟨by decide, by decide⟩⟩
/-- the new console, and the class's, are the law's world -/
theorem LW_new {D : va_G} {A : Nat → Prop} {cI cA : ClassId} {ad : Nat → Nat} {z a b c d nZ : Nat} {Z : SH} {H : Heap} (hP : va_P D vwCl (KW cI ad 0 0 0 nZ (fun _ _ => 0) (fun _ _ => 0) S00 Z ++ [(z, .inr (6, [.ref a, .ref b, .ref c, .ref d, .int 0, .int 0, .int 0, .int (-1), .int 0, .int 0, .int 0])), (a, .inl (cA, 0, .inr (.inr (.inr (.inr (fun _ => none)))))), (b, .inl (cA, 0, .inr (.inr (.inr (.inr (fun _ => none)))))), (c, .inl (cA, 0, .inr (.inr (.inr (.inr (fun _ => none)))))), (d, .inl (cA, 0, .inr (.inr (.inr (.inr (fun _ => none))))))]) H) (hD : va_D A (KW cI ad 0 0 0 nZ (fun _ _ => 0) (fun _ _ => 0) S00 Z ++ [(z, .inr (6, [.ref a, .ref b, .ref c, .ref d, .int 0, .int 0, .int 0, .int (-1), .int 0, .int 0, .int 0])), (a, .inl (cA, 0, .inr (.inr (.inr (.inr (fun _ => none)))))), (b, .inl (cA, 0, .inr (.inr (.inr (.inr (fun _ => none)))))), (c, .inl (cA, 0, .inr (.inr (.inr (.inr (fun _ => none)))))), (d, .inl (cA, 0, .inr (.inr (.inr (.inr (fun _ => none))))))])) : GW D cI cA ad z 0 A H := by
  have hP := P_perm List.perm_append_comm hP
  have hD := D_perm List.perm_append_comm hD
  have hP := ext_R (f' := fun v9 => some ((fun _ => 0 : Nat → Nat) v9)) hP 1 rfl (fun j h => absurd h (Nat.not_lt_zero j))
  have hP := ext_R (f' := fun v9 => some ((fun _ => 0 : Nat → Nat) v9)) hP 2 rfl (fun j h => absurd h (Nat.not_lt_zero j))
  have hP := ext_R (f' := fun v9 => some ((fun _ => 0 : Nat → Nat) v9)) hP 3 rfl (fun j h => absurd h (Nat.not_lt_zero j))
  have hP := ext_R (f' := fun v9 => some ((fun _ => 0 : Nat → Nat) v9)) hP 4 rfl (fun j h => absurd h (Nat.not_lt_zero j))
  have hD := hD.set (p := 1) (e := .inl (cA, 0, .inr (.inr (.inr (.inr (fun v9 => some ((fun _ => 0 : Nat → Nat) v9))))))) rfl
  have hD := hD.set (p := 2) (e := .inl (cA, 0, .inr (.inr (.inr (.inr (fun v9 => some ((fun _ => 0 : Nat → Nat) v9))))))) rfl
  have hD := hD.set (p := 3) (e := .inl (cA, 0, .inr (.inr (.inr (.inr (fun v9 => some ((fun _ => 0 : Nat → Nat) v9))))))) rfl
  have hD := hD.set (p := 4) (e := .inl (cA, 0, .inr (.inr (.inr (.inr (fun v9 => some ((fun _ => 0 : Nat → Nat) v9))))))) rfl
  exact ⟨0, 0, 0, nZ, fun _ _ => 0, fun _ _ => 0, S00, Z, a, b, c, d, fun _ => 0, fun _ => 0, fun _ => 0, fun _ => 0, pOK_0, hP, hD⟩
theorem GW.pr {D : va_G} {cI cA : ClassId} {ad : Nat → Nat} {z0 tm : Nat} {A : Nat → Prop} {H : Heap} (h : GW D cI cA ad z0 tm A H) : ∃ (nD nT nC nZ : Nat) (st cu : Mx) (S Z : SH) (zd zt zk zu : Nat) (pd pt pk pu : Nat → Nat), pOK tm nD nT nC st cu S ∧ va_P D vwCl (LWd cI cA ad z0 nD nT nC nZ st cu S Z zd zt zk zu pd pt pk pu) H ∧ va_D A (LWd cI cA ad z0 nD nT nC nZ st cu S Z zd zt zk zu pd pt pk pu) := h
theorem GW.jn {D : va_G} {cI cA : ClassId} {ad : Nat → Nat} {z0 tm : Nat} {A1 A : Nat → Prop} {H1 : Heap} (h : GW D cI cA ad z0 tm A1 H1) (hj : ∀ wc' : va_W, va_P D vwCl wc' H1 → va_D A1 wc' → va_P D vwCl ([] ++ wc') H1 ∧ va_D A ([] ++ wc')) : GW D cI cA ad z0 tm A H1 := by
  obtain ⟨nD, nT, nC, nZ, st, cu, S, Z, zd, zt, zk, zu, pd, pt, pk, pu, hok, hP, hD⟩ := h
  obtain ⟨a, b⟩ := hj _ hP hD
  exact ⟨nD, nT, nC, nZ, st, cu, S, Z, zd, zt, zk, zu, pd, pt, pk, pu, hok, a, b⟩
section ACTC
variable {p : Program} {l : Launch} {e : Env} {R : Room} {s : State} {m : MethodId} {args : Array Value} {below : List Frame} {meth : Method} {c : Code} {H : Heap} {locs : List Loc} {cells slots : Nat} {Q : State → Prop}
variable {pc : Nat} {ls : Array Slot} {rest st0 : List Value} {A : Nat → Prop} {D : va_G} {cI cA : ClassId} {ad : Nat → Nat} {z0 tm : Nat}
/-- a call of act: it answers 1, and the law's world is one again -/
theorem frA {x : Int32} {own : String} {ws : List Cond} {cc : ByteArray} {maxL ix : Nat} {rm : Room} (hact : ∀ (nD nT nC nZ : Nat) (st cu : Mx) (S Z : SH) (zd zt zk zu : Nat) (pd pt pk pu : Nat → Nat), pOK tm nD nT nC st cu S → CG l yL_act wsL_act rm D cI cA ([.ref (ad 0), .ref z0, .int x] : List Value) (LWd cI cA ad z0 nD nT nC nZ st cu S Z zd zt zk zu pd pt pk pu) (fun r => r = 1) (fun A H => GW D cI cA ad z0 tm A H) 2 30) (hkr : kR D cI cA s) (hG : GW D cI cA ad z0 tm A H) (hS : va_S A s.heap H locs) (hA : ∀ q : Nat, s.heap.size ≤ q → A q)
    (S0 : CallFix p m c cc maxL s args ws own) (cw : CallB R s args own ix yL_act cL_act 15 (some .boolean) wsL_act rm 2 30 3 ∧ (Cond.static yL_act).before args s = true) (hsz : ls.size = maxL) (hrest : 2 * (F0 m pc ls st0).monitorRoom + (rest.map fun v => v.category).sum ≤ 8) (hst : st0 = .int x :: .ref z0 :: .ref (ad 0) :: rest) (hdg : decode cc pc = .ok (.invokestatic ix, 3)) (hf : cells + 2 ≤ R.cells ∧ slots + 30 ≤ R.slots)
    (kk : ∀ (H1 : Heap) (locs1 : List Loc), GW D cI cA ad z0 tm A H1 → va_S A s.heap H1 locs1 → W p l e R s m args below meth c H1 locs1 (cells + 2) (slots + 30) Q (F0 m (pc + 3) ls (.int 1 :: rest))) : W p l e R s m args below meth c H locs cells slots Q (F0 m pc ls st0) := by
  subst hst
  obtain ⟨nD, nT, nC, nZ, st, cu, S, Z, zd, zt, zk, zu, pd, pt, pk, pu, hok, hP, hD⟩ := hG
  refine frG (wr := []) (wc := LWd cI cA ad z0 nD nT nC nZ st cu S Z zd zt zk zu pd pt pk pu) hP hD hS hA (va_runS (As := [.ref (ad 0), .ref z0, .int x]) (rest := rest) S0 (hact nD nT nC nZ st cu S Z zd zt zk zu pd pt pk pu hok _) cw (preSR2 hkr (wr := []) hP hD) rfl rfl hsz rfl hrest hdg hf) (fun r H1 locs1 hr hB hj hS1 => ?_)
  subst hr
  exact kk H1 locs1 (hB.jn hj) hS1
end ACTC

theorem hL_build : yL_build.cls = RL ∧ yL_build.cls ≠ "java/lang/invoke/MethodHandle" ∧ yL_build.cls ≠ "java/lang/invoke/VarHandle" ∧ (parseMethodDescriptor yL_build.desc).map (fun d => d.parameters.length) = some 2 := by decide +kernel
theorem b1_in {w : Cond} (h : w ∈ wsL_build1) : w ∈ wsL_build := (List.mem_cons.mp h).elim (fun e => e ▸ List.mem_cons_self) (fun q => List.mem_cons_of_mem _ (List.mem_append_left _ q))
theorem iL_build_X6 : ∀ w ∈ wsX60, w ∈ wsL_build := fun w h => b1_in ((by decide +kernel : ∀ w ∈ wsX60, w ∈ wsL_build1) w h)
theorem mL_build_k10 : (.classLink RL 10 RX6 : Cond) ∈ wsL_build := b1_in (by decide +kernel)
theorem mL_build_i6 : (.instantiable RX6 11 : Cond) ∈ wsL_build := b1_in (by decide +kernel)
theorem mL_build_n6 : (.initialized RX6 : Cond) ∈ wsL_build := b1_in (by decide +kernel)
theorem mL_build_in6 : (.instanceMethod yX6_init : Cond) ∈ wsL_build := b1_in (by decide +kernel)
def rmB : Room := ({ frames := 5, cells := 69, slots := 971, locals := 121 } : Room)
set_option maxHeartbeats 4000000 in
set_option maxRecDepth 100000 in
theorem tL_build (l : Launch) (D : va_G) (cI cA : ClassId) (ad : Nat → Nat) (bs L : Nat) (xs : Nat → Int32) (hL : L ≤ 1000) (nZ : Nat) (Z : SH) : ∀ sz : Nat, Met l yL_build wsL_build rmB (prS D cI cA bs L xs ([.ref (ad 0), .ref bs] : List Value) (KW cI ad 0 0 0 nZ (fun _ _ => 0) (fun _ _ => 0) S00 Z) sz) (va_Qr (fun (_ : Unit) => True) (fun _ a t => GW D cI cA ad a 0 (va_A (KW cI ad 0 0 0 nZ (fun _ _ => 0) (fun _ _ => 0) S00 Z) sz) t.heap) (va_A (KW cI ad 0 0 0 nZ (fun _ _ => 0) (fun _ _ => 0) S00 Z) sz)) 69 971 (va_A (KW cI ad 0 0 0 nZ (fun _ _ => 0) (fun _ _ => 0) S00 Z) sz) := by
  refine fun sz => ent_S (Qc := fun A => va_Qr (fun (_ : Unit) => True) (fun _ a t => GW D cI cA ad a 0 A t.heap) A) (cc := cL_build) (maxL := 4) (ret := (some (.object "StarConsoleLaw$Sim"))) (by decide) rfl (Nat.le_of_ble_eq_true rfl) (fun p e s m below meth c A ls hkr hX hbl hnb fx hl => ?_) sz
  obtain ⟨hx, hb, hr, hml, hown, hts, hlocks, hk, hP, hD, hA⟩ := fx
  have hown : s.vm.findClass RL = some m.cls := hown
  have hS : va_S A s.heap s.heap [] := va_S.rf
  have hl : lv_has ls 4 [(0, .ref (ad 0)), (1, .ref bs)] := hl
  refine va_new (D := D) (ci := 6) (fs := [.null, .null, .null, .null, .int 0, .int 0, .int 0, .int 0, .int 0, .int 0, .int 0]) (C := RX6) (T := TX6) (N := 11) hx hb hts iL_build_X6 tyX6 tyX6_ok hown (hts _ mL_build_k10) (hts _ mL_build_i6) (hts _ mL_build_n6) hk.1 hP hD hS hA rfl (fun j hj => by rcases (show j = 0 ∨ j = 1 ∨ j = 2 ∨ j = 3 ∨ j = 4 ∨ j = 5 ∨ j = 6 ∨ j = 7 ∨ j = 8 ∨ j = 9 ∨ j = 10 by omega) with rfl | rfl | rfl | rfl | rfl | rfl | rfl | rfl | rfl | rfl | rfl <;> rfl) (show 0 + 1 ≤ 69 by omega) (show 0 + 11 ≤ 971 by omega) dL_build_0 (fun z H hP hD hS => ?_)
  refine lv_dup hx hb dL_build_3 rfl ?_
  refine frN2 (wr := KW cI ad 0 0 0 nZ (fun _ _ => 0) (fun _ _ => 0) S00 Z) (wc := [(z, .inr (6, [.null, .null, .null, .null, .int 0, .int 0, .int 0, .int 0, .int 0, .int 0, .int 0]))]) hP hD hS hA (va_runIN (As := []) (rest := [.ref z]) ⟨hx, hb, hml, hown, hts⟩ (tX6_init l D cI cA z _) ⟨va_cnB 0 hts gL_build_X6_init_n66 rfl rfl rfl (show va_Nw (.methodLinkNest RL 66 yX6_init "StarConsoleLaw") s from hk.2 _ (List.mem_of_getElem? (i := 7) rfl)) (hts _ mL_build_n6) ⟨hX6_init.2.1, hX6_init.2.2.1, hX6_init.2.2.2⟩ ⟨Nat.le_of_ble_eq_true rfl, Nat.le_of_ble_eq_true rfl⟩, rfl, (hts _ mL_build_in6)⟩ (preSR2 hkr (wr := KW cI ad 0 0 0 nZ (fun _ _ => 0) (fun _ _ => 0) S00 Z) hP hD) rfl rfl hl.1 rfl (lv_room (Nat.le_of_ble_eq_true rfl)) dL_build_4 ⟨(show 0 + 1 + 4 ≤ 69 by omega), (show 0 + 11 + 0 ≤ 971 by omega)⟩) (fun q H locs hP hD hS => ?_)
  have hG : GW D cI cA ad z 0 A H := LW_new hP hD
  clear hP hD
  refine lv_astore_n (lv' := [(2, .ref z), (0, .ref (ad 0)), (1, .ref bs)]) hx hb dL_build_7 rfl hl (by decide) rfl (fun ls hl => ?_)
  refine lv_iconst (v := 0) hx hb dL_build_8 (by decide) ?_
  refine lv_istore_n (lv' := [(3, .int (nI 0)), (2, .ref z), (0, .ref (ad 0)), (1, .ref bs)]) hx hb dL_build_9 rfl hl (by decide) rfl (fun ls hl => ?_)
  have key : ∀ (ku i : Nat), i ≤ 32 → 32 - i < ku → ∀ (kc ks : Nat), kc + 2 * (32 - i) ≤ 69 → ks + 30 * (32 - i) ≤ 971 → ∀ (H : Heap) (locs : List Loc), GW D cI cA ad z 0 A H → va_S A s.heap H locs → ∀ ls : Array Slot, lv_has ls 4 [(3, .int (nI i)), (2, .ref z), (0, .ref (ad 0)), (1, .ref bs)] →
      W p l e rmB s m ([.ref (ad 0), .ref bs] : List Value).toArray below meth c H locs kc ks (MQ below (va_Qr (fun (_ : Unit) => True) (fun _ a t => GW D cI cA ad a 0 A t.heap) A) ([.ref (ad 0), .ref bs] : List Value).toArray s 69 971 A) (F0 m 10 ls []) := by
    intro ku
    induction ku with
    | zero => intro i; intros; omega
    | succ ku ih =>
      intro i hi hm kc ks hkc hks H locs hG hS ls hl
      refine lv_iload_n hx hb dL_build_10 rfl (lv_at hl 0 rfl) ?_
      refine lv_bipush (v := 32) hx hb dL_build_11 (by decide) ?_
      refine icgeN (i := i) (n := 32) (tgt := 73) hx hb (by omega) (by omega) dL_build_13 (by decide) (fun c13 => ?_) (fun c13 => ?_)
      · refine lv_aload_n hx hb dL_build_73 rfl (lv_at hl 1 rfl) ?_
        exact W.widen (show kc ≤ 69 by omega) (show ks ≤ 971 by omega) (W.aret hx hb hr (Or.inl ⟨_, rfl⟩) (Or.inr ⟨z, rfl⟩) (fun t ht _ => ⟨⟨(), z, rfl, trivial, by show GW D cI cA ad z 0 A t.heap; rw [ht]; exact hG⟩, hS.F ht⟩) hS.2.2 dL_build_74 hlocks)
      · refine lv_aload_n hx hb dL_build_16 rfl (lv_at hl 2 rfl) ?_
        refine lv_aload_n hx hb dL_build_17 rfl (lv_at hl 1 rfl) ?_
        refine lv_aload_n hx hb dL_build_18 rfl (lv_at hl 3 rfl) ?_
        refine lv_iload_n hx hb dL_build_19 rfl (lv_at hl 0 rfl) ?_
        refine lv_bipush (v := 16) hx hb dL_build_20 (by decide) ?_
        refine lv_irem hx hb dL_build_22 (by decide) ?_
        refine top_int (show _ = nI (i % 16) from rem_n (n := 16) rfl (by omega) (by omega) (by omega)) ?_
        obtain ⟨nD, nT, nC, nZ', st, cu, S, Z', zd, zt, zk, zu, pd, pt, pk, pu, hok, hP, hD⟩ := hG
        refine frC (w := LWd cI cA ad z nD nT nC nZ' st cu S Z' zd zt zk zu pd pt pk pu) hP hD hS hA (va_runS (As := [.ref bs, .int (nI (i % 16))]) (rest := [.ref z, .ref (ad 0)]) ⟨hx, hb, hml, hown, hts⟩ (tL_cell l D cI cA bs L xs (i % 16) (by omega) hL _) (va_cwS 2 hts gL_build_L_cell rfl rfl rfl hL_cell.2 ⟨Nat.le_of_ble_eq_true rfl, Nat.le_of_ble_eq_true rfl⟩) (preSc (H0 := H) hkr hX hbl hnb hS) rfl rfl hl.1 rfl (lv_room (Nat.le_of_ble_eq_true rfl)) dL_build_23 ⟨(show kc + 0 ≤ 69 by omega), (show ks + 0 ≤ 971 by omega)⟩) (fun r H locs hP hD hS => ?_)
        have hG : GW D cI cA ad z 0 A H := ⟨nD, nT, nC, nZ', st, cu, S, Z', zd, zt, zk, zu, pd, pt, pk, pu, hok, hP, hD⟩
        clear hP hD
        refine lv_iload_n hx hb dL_build_26 rfl (lv_at hl 0 rfl) ?_
        refine lv_bipush (v := 16) hx hb dL_build_27 (by decide) ?_
        refine lv_idiv hx hb dL_build_29 (by decide) ?_
        refine lv_iconst (v := 4) hx hb dL_build_30 (by decide) ?_
        refine lv_imul hx hb dL_build_31 ?_
        refine lv_ishr hx hb dL_build_32 ?_
        refine lv_sipush (v := 179) hx hb dL_build_33 (by decide) ?_
        refine lv_iload_n hx hb dL_build_36 rfl (lv_at hl 0 rfl) ?_
        refine lv_imul hx hb dL_build_37 ?_
        refine lv_iadd hx hb dL_build_38 ?_
        refine lv_topi (fun v _ => ?_)
        have j58 : ∀ u : Int32, W p l e rmB s m ([.ref (ad 0), .ref bs] : List Value).toArray below meth c H locs kc ks (MQ below (va_Qr (fun (_ : Unit) => True) (fun _ a t => GW D cI cA ad a 0 A t.heap) A) ([.ref (ad 0), .ref bs] : List Value).toArray s 69 971 A) (F0 m 58 ls [.int u, .int v, .ref z, .ref (ad 0)]) := by
          intro u
          refine lv_iadd hx hb dL_build_58 ?_
          refine lv_topi (fun x _ => ?_)
          refine frA (rest := []) (fun nD nT nC nZ st cu S Z zd zt zk zu pd pt pk pu hok => tL_act l D cI cA ad z 0 nD nT nC nZ st cu S Z zd zt zk zu pd pt pk pu x hok) hkr hG hS hA ⟨hx, hb, hml, hown, hts⟩ (va_cwS 3 hts gL_build_L_act rfl rfl rfl hL_act.2 ⟨Nat.le_of_ble_eq_true rfl, Nat.le_of_ble_eq_true rfl⟩) hl.1 (lv_room (Nat.le_of_ble_eq_true rfl)) rfl dL_build_59 ⟨(show kc + 2 ≤ 69 by omega), (show ks + 30 ≤ 971 by omega)⟩ (fun H locs hG hS => ?_)
          refine lv_if_ne (tgt := 67) hx hb dL_build_62 (by decide) (fun _ => ?_) (fun h => absurd h (by decide))
          refine lv_iinc (v := nI (i + 1)) (lv' := [(3, .int (nI (i + 1))), (2, .ref z), (0, .ref (ad 0)), (1, .ref bs)]) hx hb dL_build_67 hl (k := 0) rfl (nI_inc i) (by decide) rfl (fun ls hl => ?_)
          refine lv_goto (tgt := 10) hx hb dL_build_70 (by decide) ?_
          exact ih (i + 1) (by omega) (by omega) _ _ (by omega) (by omega) _ _ hG hS _ hl
        refine lv_iload_n hx hb dL_build_39 rfl (lv_at hl 0 rfl) ?_
        refine lv_bipush (v := 9) hx hb dL_build_40 (by decide) ?_
        refine icgeN (i := i) (n := 9) (tgt := 57) hx hb (by omega) (by omega) dL_build_42 (by decide) (fun c42 => ?_) (fun c42 => ?_)
        · refine lv_iconst (v := 0) hx hb dL_build_57 (by decide) ?_
          exact j58 0
        · refine lv_sipush (v := 1024) hx hb dL_build_45 (by decide) ?_
          refine lv_iload_n hx hb dL_build_48 rfl (lv_at hl 0 rfl) ?_
          refine lv_iconst (v := 3) hx hb dL_build_49 (by decide) ?_
          refine lv_irem hx hb dL_build_50 (by decide) ?_
          refine lv_imul hx hb dL_build_51 ?_
          refine lv_iconst (v := 2) hx hb dL_build_52 (by decide) ?_
          refine lv_imul hx hb dL_build_53 ?_
          refine lv_goto (tgt := 58) hx hb dL_build_54 (by decide) ?_
          exact j58 _
  exact key 33 0 (by omega) (by omega) _ _ (show 0 + 1 + 4 + 2 * (32 - 0) ≤ 69 by omega) (show 0 + 11 + 0 + 30 * (32 - 0) ≤ 971 by omega) _ _ hG hS _ hl
