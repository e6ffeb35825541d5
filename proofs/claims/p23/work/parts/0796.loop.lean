/-! the law's loop: two things done to both, and a tick -/
set_option maxHeartbeats 4000000 in
set_option maxRecDepth 100000 in
theorem lw_A {p : Program} {l : Launch} {e : Env} {s : State} {m : MethodId} {below : List Frame} {meth : Method} {c : Code} {Q : State → Prop} {A : Nat → Prop} {bs L : Nat} {xs : Nat → Int32} (D : va_G) (cI cA : ClassId) (ad : Nat → Nat) (z0 tm : Nat) (fl : FLp p s m c bs L xs D cI cA A) (htm : tm < 500) (H : Heap) (locs : List Loc) (hG : GW D cI cA ad z0 tm A H) (hS : va_S A s.heap H locs) (ls : Array Slot) (hl : lv_has ls 27 [(3, .int (nI tm)), (0, .ref bs), (1, .ref (ad 0)), (2, .ref z0)]) (kc ks : Nat) (hkc : kc + 300 ≤ 1200104) (hks : ks + 3000 ≤ 5501314)
    (kk : ∀ (H : Heap) (locs : List Loc) (ls : Array Slot) (k9 n9 : Nat), GW D cI cA ad z0 (tm + 1) A H → va_S A s.heap H locs → lv_has ls 27 [(3, .int (nI tm)), (0, .ref bs), (1, .ref (ad 0)), (2, .ref z0)] → k9 ≤ kc + 300 → n9 ≤ ks + 3000 → W p l e room_1 s m #[Value.ref bs] below meth c H locs k9 n9 Q (F0 m 1286 ls [])) : W p l e room_1 s m #[Value.ref bs] below meth c H locs kc ks Q (F0 m 28 ls []) := by
  obtain ⟨hx, hb, hml, hown, hts, hX, hbl, hkr, hL, hA, hnb⟩ := id fl
  have hk := hkr.1
  refine lv_aload_n hx hb dL_law_28 rfl (lv_at hl 1 rfl) ?_
  refine lv_iload_n hx hb dL_law_29 rfl (lv_at hl 0 rfl) ?_
  refine lv_bipush (v := 16) hx hb dL_law_30 (by decide) ?_
  refine lv_irem hx hb dL_law_32 (by decide) ?_
  refine top_int (show _ = nI (tm % 16) from rem_n (n := 16) rfl (by omega) (by omega) (by omega)) ?_
  obtain ⟨nD, nT, nC, nZ', st, cu, S, Z', zd, zt, zk, zu, pd, pt, pk, pu, hok, hP, hD⟩ := hG
  refine frC (w := LWd cI cA ad z0 nD nT nC nZ' st cu S Z' zd zt zk zu pd pt pk pu) hP hD hS hA (va_runS (As := [.ref bs, .int (nI (tm % 16))]) (rest := []) ⟨hx, hb, hml, hown, hts⟩ (tL_cell l D cI cA bs L xs (tm % 16) (by omega) (by omega) _) (va_cwS 2 hts gL_law_L_cell rfl rfl rfl hL_cell.2 ⟨Nat.le_of_ble_eq_true rfl, Nat.le_of_ble_eq_true rfl⟩) (preSc (H0 := H) hkr hX hbl hnb hS) rfl rfl hl.1 rfl (lv_room (Nat.le_of_ble_eq_true rfl)) dL_law_33 ⟨(show kc + 0 ≤ 1200104 by omega), (show ks + 0 ≤ 5501314 by omega)⟩) (fun r H locs hP hD hS => ?_)
  have hG : GW D cI cA ad z0 tm A H := ⟨nD, nT, nC, nZ', st, cu, S, Z', zd, zt, zk, zu, pd, pt, pk, pu, hok, hP, hD⟩
  clear hP hD
  refine lv_iload_n hx hb dL_law_36 rfl (lv_at hl 0 rfl) ?_
  refine lv_bipush (v := 16) hx hb dL_law_37 (by decide) ?_
  refine lv_idiv hx hb dL_law_39 (by decide) ?_
  refine lv_iconst (v := 3) hx hb dL_law_40 (by decide) ?_
  refine lv_imul hx hb dL_law_41 ?_
  refine lv_ishr hx hb dL_law_42 ?_
  refine lv_sipush (v := 179) hx hb dL_law_43 (by decide) ?_
  refine lv_iload_n hx hb dL_law_46 rfl (lv_at hl 0 rfl) ?_
  refine lv_imul hx hb dL_law_47 ?_
  refine lv_iadd hx hb dL_law_48 ?_
  refine lv_topi (fun v _ => ?_)
  refine lv_istore (lv' := [(4, .int v), (3, .int (nI tm)), (0, .ref bs), (1, .ref (ad 0)), (2, .ref z0)]) hx hb dL_law_49 hl (by decide) rfl (fun ls hl => ?_)
  refine lv_iconst (v := 0) hx hb dL_law_51 (by decide) ?_
  refine lv_istore (lv' := [(5, .int (nI 0)), (4, .int v), (3, .int (nI tm)), (0, .ref bs), (1, .ref (ad 0)), (2, .ref z0)]) hx hb dL_law_52 hl (by decide) rfl (fun ls hl => ?_)
  have key : ∀ (ku i : Nat), i ≤ 2 → 2 - i < ku → ∀ (k1 n1 : Nat), k1 + 2 * (2 - i) ≤ kc + 4 → n1 + 30 * (2 - i) ≤ ks + 60 → ∀ (H : Heap) (locs : List Loc), GW D cI cA ad z0 tm A H → va_S A s.heap H locs → ∀ ls : Array Slot, lv_has ls 27 [(5, .int (nI i)), (4, .int v), (3, .int (nI tm)), (0, .ref bs), (1, .ref (ad 0)), (2, .ref z0)] → W p l e room_1 s m #[Value.ref bs] below meth c H locs k1 n1 Q (F0 m 54 ls []) := by
    intro ku
    induction ku with
    | zero => intro i; intros; omega
    | succ ku ih =>
      intro i hi hm k1 n1 hk1 hn1 H locs hG hS ls hl
      refine lv_iload hx hb dL_law_54 (lv_at hl 0 rfl) ?_
      refine lv_iconst (v := 2) hx hb dL_law_56 (by decide) ?_
      refine icgeN (i := i) (n := 2) (tgt := 89) hx hb (by omega) (by omega) dL_law_57 (by decide) (fun c57 => ?_) (fun c57 => ?_)
      · obtain ⟨nD, nT, nC, nZ, st, cu, S, Z, zd, zt, zk, zu, pd, pt, pk, pu, hok, hP, hD⟩ := hG
        exact lw_B D cI cA ad z0 tm nD nT nC nZ st cu S Z zd zt zk zu pd pt pk pu v fl htm hok _ _ hP hD hS _ (lv_sub hl [3, 4, 5, 2, 1] rfl) _ _ (by omega) (by omega) (fun H locs ls k9 n9 a1 a2 a3 a4 a5 => kk H locs ls k9 n9 a1 a2 a3 (by omega) (by omega))
      · refine lv_aload_n hx hb dL_law_60 rfl (lv_at hl 4 rfl) ?_
        refine lv_aload_n hx hb dL_law_61 rfl (lv_at hl 5 rfl) ?_
        refine lv_iload hx hb dL_law_62 (lv_at hl 1 rfl) ?_
        refine lv_iconst (v := 2) hx hb dL_law_64 (by decide) ?_
        refine lv_iload hx hb dL_law_65 (lv_at hl 0 rfl) ?_
        refine lv_imul hx hb dL_law_67 ?_
        refine lv_ishr hx hb dL_law_68 ?_
        refine lv_bipush (v := 107) hx hb dL_law_69 (by decide) ?_
        refine lv_iload hx hb dL_law_71 (lv_at hl 0 rfl) ?_
        refine lv_imul hx hb dL_law_73 ?_
        refine lv_iadd hx hb dL_law_74 ?_
        refine lv_topi (fun x _ => ?_)
        refine frA (rest := []) (fun nD nT nC nZ st cu S Z zd zt zk zu pd pt pk pu hok => tL_act l D cI cA ad z0 tm nD nT nC nZ st cu S Z zd zt zk zu pd pt pk pu x hok) hkr hG hS hA ⟨hx, hb, hml, hown, hts⟩ (va_cwS 3 hts gL_law_L_act rfl rfl rfl hL_act.2 ⟨Nat.le_of_ble_eq_true rfl, Nat.le_of_ble_eq_true rfl⟩) hl.1 (lv_room (Nat.le_of_ble_eq_true rfl)) rfl dL_law_75 ⟨(show k1 + 2 ≤ 1200104 by omega), (show n1 + 30 ≤ 5501314 by omega)⟩ (fun H locs hG hS => ?_)
        refine lv_if_ne (tgt := 83) hx hb dL_law_78 (by decide) (fun _ => ?_) (fun h => absurd h (by decide))
        refine lv_iinc (v := nI (i + 1)) (lv' := [(5, .int (nI (i + 1))), (4, .int v), (3, .int (nI tm)), (0, .ref bs), (1, .ref (ad 0)), (2, .ref z0)]) hx hb dL_law_83 hl (k := 0) rfl (nI_inc i) (by decide) rfl (fun ls hl => ?_)
        refine lv_goto (tgt := 54) hx hb dL_law_86 (by decide) ?_
        exact ih (i + 1) (by omega) (by omega) _ _ (by omega) (by omega) _ _ hG hS _ hl
  exact key 3 0 (by omega) (by omega) _ _ (by omega) (by omega) _ _ hG hS _ hl
set_option maxHeartbeats 4000000 in
set_option maxRecDepth 100000 in
theorem law_loop {p : Program} {l : Launch} {e : Env} {s : State} {m : MethodId} {below : List Frame} {meth : Method} {c : Code} {Q : State → Prop} {A : Nat → Prop} {bs L : Nat} {xs : Nat → Int32} (D : va_G) (cI cA : ClassId) (ad : Nat → Nat) (z0 : Nat) (fl : FLp p s m c bs L xs D cI cA A)
    (hend : ∀ (H : Heap) (locs : List Loc) (ls : Array Slot) (cells slots : Nat), va_S A s.heap H locs → cells ≤ 1200104 → slots ≤ 5501314 → W p l e room_1 s m #[Value.ref bs] below meth c H locs cells slots Q (F0 m 1297 ls [.int 1])) :
    ∀ (fuel tm : Nat), tm ≤ 44 → 44 - tm < fuel → ∀ (H : Heap) (locs : List Loc) (ls : Array Slot) (kc ks : Nat), GW D cI cA ad z0 tm A H → va_S A s.heap H locs → lv_has ls 27 [(3, .int (nI tm)), (0, .ref bs), (1, .ref (ad 0)), (2, .ref z0)] → kc + 300 * (44 - tm) + 33 ≤ 1200104 → ks + 3000 * (44 - tm) + 141 ≤ 5501314 → W p l e room_1 s m #[Value.ref bs] below meth c H locs kc ks Q (F0 m 22 ls []) := by
  intro fuel
  induction fuel with
  | zero => intro tm; intros; omega
  | succ fuel ih =>
    intro tm ht hf H locs ls kc ks hG hS hl hkc hks
    obtain ⟨hx, hb, hml, hown, hts, hX, hbl, hkr, hL, hA, hnb⟩ := id fl
    have hk := hkr.1
    refine lv_iload_n hx hb dL_law_22 rfl (lv_at hl 0 rfl) ?_
    refine lv_bipush (v := 44) hx hb dL_law_23 (by decide) ?_
    refine icgeN (i := tm) (n := 44) (tgt := 1292) hx hb (by omega) (by omega) dL_law_25 (by decide) (fun c25 => ?_) (fun c25 => ?_)
    · refine lv_aload_n hx hb dL_law_1292 rfl (lv_at hl 3 rfl) ?_
      refine lv_aload_n hx hb dL_law_1293 rfl (lv_at hl 2 rfl) ?_
      obtain ⟨nD, nT, nC, nZ, st, cu, S, Z, zd, zt, zk, zu, pd, pt, pk, pu, hok, hP, hD⟩ := hG
      refine frI2 (wr := []) (wc := LWd cI cA ad z0 nD nT nC nZ st cu S Z zd zt zk zu pd pt pk pu) (wc' := LWd cI cA ad z0 nD nT nC nZ st cu S Z zd zt zk zu pd pt pk pu) hP hD hS hA (va_runV (As := [.ref (ad 0)]) (rest := []) ⟨hx, hb, hml, hown, hts⟩ (tX6_isSame l D cI cA ad z0 tm nD nT nC nZ st cu S Z zd zt zk zu pd pt pk pu hok _) (cwV 1 hts gL_law_X6_isSame rfl rfl rfl hX6_isSame ⟨Nat.le_of_ble_eq_true rfl, Nat.le_of_ble_eq_true rfl⟩) (preVR2 hkr (wr := []) hP hD (recvO hk hP (ci := 6) (q0 := 0) rfl rfl)) rfl rfl hl.1 rfl (lv_room (Nat.le_of_ble_eq_true rfl)) dL_law_1294 ⟨(show kc + 33 ≤ 1200104 by omega), (show ks + 141 ≤ 5501314 by omega)⟩) (fun H locs hP hD hS => ?_)
      exact hend _ _ _ _ _ hS (by omega) (by omega)
    · refine lw_A D cI cA ad z0 tm fl (by omega) H locs hG hS ls hl kc ks (by omega) (by omega) (fun H locs ls k9 n9 hG hS hl h1 h2 => ?_)
      refine lv_iinc (v := nI (tm + 1)) (lv' := [(3, .int (nI (tm + 1))), (0, .ref bs), (1, .ref (ad 0)), (2, .ref z0)]) hx hb dL_law_1286 hl (k := 0) rfl (nI_inc tm) (by decide) rfl (fun ls hl => ?_)
      refine lv_goto (tgt := 22) hx hb dL_law_1289 (by decide) ?_
      exact ih (tm + 1) (by omega) (by omega) H locs ls k9 n9 hG hS hl (by omega) (by omega)
def adF (oo : Nat) (qa : Nat → Nat) : Nat → Nat
  | 0 => oo
  | k + 1 => qa k
/-! what the Statement gives of the start -/
theorem arr_of {b : Nat} {s : State} {ty : FieldType} (h : (Cond.arrayClass ty).before #[Value.ref b] s = true) : ∃ cA : ClassId, ArrOfT s cA ty ∧ s.vm.findClass ("[" ++ ty.toString) = some cA := by
  obtain ⟨cA, kA, comp, h1, h2, h3⟩ := Cond.arrayClass_spec h
  exact ⟨cA, fun N z => ⟨(fun k h => by cases h), kA, h2, comp, h3⟩, h1⟩
theorem nws_of {b : Nat} {s : State} (hts : ∀ w ∈ lw_tbl, w.before #[Value.ref b] s = true) : ∀ w ∈ nwl, va_Nw w s := by
  intro w hw
  simp only [nwl, List.mem_cons, List.not_mem_nil, or_false] at hw
  rcases hw with rfl | rfl | rfl | rfl | rfl | rfl | rfl | rfl <;> exact va_Nw.of rfl (hts _ (by decide +kernel))
theorem kw_of {b : Nat} {s : State} (hts : ∀ w ∈ lw_tbl, w.before #[Value.ref b] s = true) : ∃ (D : va_G) (cI : ClassId), kw D cI s := by
  have h : ∀ (C : String) (T : u_T) (N n : Nat), (∀ w ∈ u_ws C T N, w ∈ lw_tbl) → Cond.instantiable C n ∈ lw_tbl → ∃ (c : ClassId) (iS : Nat → Nat), u_Kn s C T N c iS := fun C T N n hin hi => u_known hts hin (hts _ hi)
  obtain ⟨c0, i0, k0⟩ := h RX0 TX0 4 4 inX0 (by decide +kernel)
  obtain ⟨c1, i1, k1⟩ := h RX1 TX1 5 5 inX1 (by decide +kernel)
  obtain ⟨c2, i2, k2⟩ := h RX2 TX2 6 6 inX2 (by decide +kernel)
  obtain ⟨c3, i3, k3⟩ := h RX3 TX3 9 9 inX3 (by decide +kernel)
  obtain ⟨c4, i4, k4⟩ := h RX4 TX4 3 3 inX4 (by decide +kernel)
  obtain ⟨c5, i5, k5⟩ := h RX5 TX5 4 4 inX5 (by decide +kernel)
  obtain ⟨c6, i6, k6⟩ := h RX6 TX6 11 11 inX6 (by decide +kernel)
  obtain ⟨cI, a1, a2⟩ := arr_of (ty := .int) (hts _ (by decide +kernel))
  refine ⟨(fun k => match k with | 0 => c0 | 1 => c1 | 2 => c2 | 3 => c3 | 4 => c4 | 5 => c5 | _ => c6, fun k => match k with | 0 => i0 | 1 => i1 | 2 => i2 | 3 => i3 | 4 => i4 | 5 => i5 | _ => i6), cI, ⟨fun k q hq => ?_, fun k q hq => ?_⟩, nws_of hts⟩
  · match k, hq with
    | 0, hq => cases hq; exact k0
    | 1, hq => cases hq; exact k1
    | 2, hq => cases hq; exact k2
    | 3, hq => cases hq; exact k3
    | 4, hq => cases hq; exact k4
    | 5, hq => cases hq; exact k5
    | 6, hq => cases hq; exact k6
    | k + 7, hq => simp [vwCl] at hq
  · match k, hq with
    | 0, hq => cases hq; exact ⟨a1, a2⟩
    | k + 1, hq => simp at hq
theorem kR_of {b : Nat} {s : State} {D : va_G} {cI : ClassId} (hk : kw D cI s) (hts : ∀ w ∈ lw_tbl, w.before #[Value.ref b] s = true) : ∃ cA : ClassId, kR D cI cA s := by
  have h1 : (Cond.arrayOver (.array .int)).before #[Value.ref b] s = true := hts _ (by decide +kernel)
  obtain ⟨comp, c, k, hc, hi, hk2, hkind, hn⟩ := arrayOverA_spec h1
  exact ⟨c, hk, ⟨over_moved (Vm.Alike.refl s.vm) h1, trivial⟩, hn⟩
theorem l1_in {w : Cond} (h : w ∈ wsL_law1) : w ∈ wsL_law := List.mem_append_left _ h
theorem mL_law_k26 : (.classLink RL 26 RX5 : Cond) ∈ wsL_law := l1_in (by decide +kernel)
theorem mL_law_i5 : (.instantiable RX5 4 : Cond) ∈ wsL_law := l1_in (by decide +kernel)
theorem mL_law_n5 : (.initialized RX5 : Cond) ∈ wsL_law := l1_in (by decide +kernel)
theorem mL_law_l75 : (.methodLink RL 75 yX5_init : Cond) ∈ wsL_law := l1_in (by decide +kernel)
theorem mL_law_in5 : (.instanceMethod yX5_init : Cond) ∈ wsL_law := l1_in (by decide +kernel)
section BUILDC
variable {p : Program} {l : Launch} {e : Env} {R : Room} {s : State} {m : MethodId} {args : Array Value} {below : List Frame} {meth : Method} {c : Code} {H : Heap} {locs : List Loc} {cells slots : Nat} {Q : State → Prop}
variable {pc : Nat} {ls : Array Slot} {rest st0 : List Value} {A : Nat → Prop} {D : va_G} {cI cA : ClassId} {wc : va_W} {ad : Nat → Nat} {bs L : Nat} {xs : Nat → Int32}
theorem preSb {av : List Value} (hk : kR D cI cA s) (hX : va_X bs L xs s s.heap) (hbl : bs < s.heap.size) (hnb : ¬ A bs) (hS : va_S A s.heap H locs) (hP : va_P D vwCl wc H) (hD : va_D A wc) : PreS s H (prS D cI cA bs L xs av wc H.size) av :=
  ⟨prS_blind _ _ _ _ _ _ _ _ _, fun U hU hW => ⟨rfl, by rw [hU], by rw [hU]; exact hP, hk.warm hW, hD.weaken (fun _ _ _ _ => trivial), by
    obtain ⟨scr, h1, h2, h3, h4, h5⟩ := va_X.moved (u := s) (U := U) hW.alike hX
    exact ⟨scr, by rw [hU, hS.2.1 bs hbl hnb]; exact h1, h2, h3, h4, h5⟩, Nat.lt_of_lt_of_le hbl hS.1, fun q => by
    rcases q with ⟨k, e, h⟩ | h
    · exact hnb (hD.2 k (bs, e) h)
    · have := hS.1; omega⟩⟩
theorem frB {a : Array Value} {mc ms : Nat} {z1 : Nat} (hP : va_P D vwCl wc H) (hD : va_D A wc) (hS : va_S A s.heap H locs) (hA : ∀ q : Nat, s.heap.size ≤ q → A q)
    (hr : va_Run p l e R s m args below meth c H locs cells slots mc ms (F0 m pc ls st0) rest (va_Qr (fun (_ : Unit) => True) (fun _ a t => GW D cI cA ad a z1 (va_A wc H.size) t.heap) (va_A wc H.size) a) (va_A wc H.size))
    (kk : ∀ (z : Nat) (H1 : Heap) (locs1 : List Loc), GW D cI cA ad z z1 A H1 → va_S A s.heap H1 locs1 → W p l e R s m args below meth c H1 locs1 (cells + mc) (slots + ms) Q (F0 m (pc + 3) ls (.ref z :: rest))) : W p l e R s m args below meth c H locs cells slots Q (F0 m pc ls st0) := by
  have hF := fr_free2 (wr := []) (wc := wc) hD hS hA
  refine va_callr hr hS (fun q _ h => hF q h) hF (fun u z t H1 locs1 ht hvm hw hB hz1 hk1 hS1 => ?_)
  have hB : GW D cI cA ad z z1 (va_A wc H.size) H1 := by rw [← ht]; exact hB
  exact kk z H1 locs1 (hB.jn (fun wc' hP1 hD1 => fr_two (wr := []) hP hD hF hk1 hP1 hD1)) hS1
end BUILDC
set_option maxHeartbeats 4000000 in
set_option maxRecDepth 100000 in
theorem law_begin {p : Program} {l : Launch} {e : Env} {s : State} {m : MethodId} {below : List Frame} {meth : Method} {c : Code} {Q : State → Prop} {bs L : Nat} {xs : Nat → Int32} (hL : L ≤ 260) (hx : p.tables.exec = Jvm.exec) (hb : c.code = cL_law) (hml : c.maxLocals = 27) (hown : s.vm.findClass RL = some m.cls) (ht0 : ∀ w ∈ lw_tbl, w.before #[Value.ref bs] s = true) (hX : va_X bs L xs s s.heap) (hbl : bs < s.heap.size)
    (hend : ∀ (H : Heap) (locs : List Loc) (ls : Array Slot) (cells slots : Nat), va_S (fun q : Nat => s.heap.size ≤ q) s.heap H locs → cells ≤ 1200104 → slots ≤ 5501314 → W p l e room_1 s m #[Value.ref bs] below meth c H locs cells slots Q (F0 m 1297 ls [.int 1]))
    (ls : Array Slot) (hl : lv_has ls 27 [(0, .ref bs)]) : W p l e room_1 s m #[Value.ref bs] below meth c s.heap [] 0 0 Q (F0 m 0 ls []) := by
  have hts : ∀ w ∈ wsL_law, w.before #[Value.ref bs] s = true := fun w h => ht0 w (wsL_law_in w h)
  obtain ⟨D, cI, hk⟩ := kw_of ht0
  obtain ⟨cA, hkr⟩ := kR_of hk ht0
  have hA : ∀ q : Nat, s.heap.size ≤ q → (fun q : Nat => s.heap.size ≤ q) q := fun _ h => h
  have hnb : ¬ (fun q : Nat => s.heap.size ≤ q) bs := Nat.not_le.mpr hbl
  have hS : va_S (fun q : Nat => s.heap.size ≤ q) s.heap s.heap [] := va_S.rf
  have hP : va_P D vwCl [] s.heap := fun k q h => by simp at h
  have hD : va_D (fun q : Nat => s.heap.size ≤ q) [] := ⟨fun i j p q h => by simp at h, fun k q h => by simp at h⟩
  refine va_new (D := D) (ci := 5) (fs := [.null, .null, .null, .null]) (C := RX5) (T := TX5) (N := 4) hx hb ht0 inX5 tyX5 tyX5_ok hown (hts _ mL_law_k26) (hts _ mL_law_i5) (hts _ mL_law_n5) hk.1 hP hD hS hA rfl (fun j hj => by rcases (show j = 0 ∨ j = 1 ∨ j = 2 ∨ j = 3 by omega) with rfl | rfl | rfl | rfl <;> rfl) (Nat.le_of_ble_eq_true rfl) (Nat.le_of_ble_eq_true rfl) dL_law_0 (fun oo H hP hD hS => ?_)
  have hP : va_P D vwCl [(oo, .inr (5, [.null, .null, .null, .null]))] H := hP
  have hD : va_D (fun q : Nat => s.heap.size ≤ q) [(oo, .inr (5, [.null, .null, .null, .null]))] := hD
  refine lv_dup hx hb dL_law_3 rfl ?_
  refine frN (wc := [(oo, .inr (5, [.null, .null, .null, .null]))]) hP hD hS hA [0] [] rfl rfl rfl (va_runI (As := []) (rest := [.ref oo]) ⟨hx, hb, hml, hown, hts⟩ (tX5_init l D cI oo _) (cwI 0 hts gL_law_X5_init rfl rfl rfl (hts _ mL_law_n5) (hts _ mL_law_l75) (hts _ mL_law_in5) rfl ⟨hX5_init.2.1, hX5_init.2.2.1, hX5_init.2.2.2⟩ ⟨Nat.le_of_ble_eq_true rfl, Nat.le_of_ble_eq_true rfl⟩) (preS_of hk hP hD [0] rfl rfl) rfl rfl hl.1 rfl (lv_room (Nat.le_of_ble_eq_true rfl)) dL_law_4 ⟨Nat.le_of_ble_eq_true rfl, Nat.le_of_ble_eq_true rfl⟩) (fun qa H locs hP hD hS => ?_)
  obtain ⟨ad, h0, hP1, hD1⟩ : ∃ ad : Nat → Nat, ad 0 = oo ∧ va_P D vwCl (KW cI ad 0 0 0 0 (fun _ _ => 0) (fun _ _ => 0) S00 S00) H ∧ va_D (fun q : Nat => s.heap.size ≤ q) (KW cI ad 0 0 0 0 (fun _ _ => 0) (fun _ _ => 0) S00 S00) := ⟨adF oo qa, rfl, hP, hD⟩
  clear hP hD
  subst h0
  have hP := hP1; have hD := hD1
  refine lv_astore_n (lv' := [(1, .ref (ad 0)), (0, .ref bs)]) hx hb dL_law_7 rfl hl (by decide) rfl (fun ls hl => ?_)
  refine lv_aload_n hx hb dL_law_8 rfl (lv_at hl 0 rfl) ?_
  refine lv_aload_n hx hb dL_law_9 rfl (lv_at hl 1 rfl) ?_
  refine frB (wc := KW cI ad 0 0 0 0 (fun _ _ => 0) (fun _ _ => 0) S00 S00) (z1 := 0) hP hD hS hA (va_runS (As := [.ref (ad 0), .ref bs]) (rest := []) ⟨hx, hb, hml, hown, hts⟩ (tL_build l D cI cA ad bs L xs (by omega) 0 S00 _) (va_cwS 2 hts gL_law_L_build rfl rfl rfl hL_build.2 ⟨Nat.le_of_ble_eq_true rfl, Nat.le_of_ble_eq_true rfl⟩) (preSb hkr hX hbl hnb hS hP hD) rfl rfl hl.1 rfl (lv_room (Nat.le_of_ble_eq_true rfl)) dL_law_10 ⟨Nat.le_of_ble_eq_true rfl, Nat.le_of_ble_eq_true rfl⟩) (fun z H locs hG hS => ?_)
  refine lv_astore_n (lv' := [(2, .ref z), (1, .ref (ad 0)), (0, .ref bs)]) hx hb dL_law_13 rfl hl (by decide) rfl (fun ls hl => ?_)
  refine lv_aload_n hx hb dL_law_14 rfl (lv_at hl 0 rfl) ?_
  refine lv_ifnonnull (tgt := 20) hx hb dL_law_15 (by decide) ?_
  refine lv_iconst (v := 0) hx hb dL_law_20 (by decide) ?_
  refine lv_istore_n (lv' := [(3, .int (nI 0)), (2, .ref z), (1, .ref (ad 0)), (0, .ref bs)]) hx hb dL_law_21 rfl hl (by decide) rfl (fun ls hl => ?_)
  have fl : FLp p s m c bs L xs D cI cA (fun q : Nat => s.heap.size ≤ q) := ⟨hx, hb, hml, hown, hts, hX, hbl, hkr, hL, hA, hnb⟩
  exact law_loop D cI cA ad z fl hend 45 0 (by omega) (by omega) H _ ls _ _ hG hS (lv_sub hl [0, 3, 2, 1] rfl) (by decide) (by decide)
