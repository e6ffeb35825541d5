/-! rows over worlds in pieces -/
theorem vin_n {k L : Nat} (h : k < L) (h2 : L < 2 ^ 31) : vp_in (nI k) L := by
  unfold vp_in
  rw [nI_clamp (by omega)]
  rintro (q | q)
  · exact nI_pos (by omega) q
  · omega
section PIECES
variable {p : Program} {l : Launch} {e : Env} {R : Room} {s : State} {m : MethodId} {args : Array Value} {below : List Frame} {meth : Method} {c : Code} {H : Heap} {locs : List Loc} {cells slots mc ms : Nat} {Q : State → Prop}
variable {cc : ByteArray} {pc : Nat} {ls : Array Slot} {rest st0 : List Value} {A : Nat → Prop} {D : va_G} {cI cA : ClassId} {w wl wr wc wc' : va_W}
theorem alenR (hexec : p.tables.exec = Jvm.exec) (hb : c.code = cc) (hAr : ArrOfT s cA (.array .int)) (hP : va_P D vwCl w H) (q0 : Nat) {a n : Nat} {f : Nat → Option Nat} (ha : w[q0]? = some (a, .inl (cA, n, .inr (.inr (.inr (.inr f)))))) (hdg : decode cc pc = .ok (.arraylength, 1))
    (kk : W p l e R s m args below meth c H locs cells slots Q (F0 m (pc + 1) ls (.int (nI n) :: rest))) : W p l e R s m args below meth c H locs cells slots Q (F0 m pc ls (.ref a :: rest)) :=
  W.alen (n := nI n) hexec hb (hP q0 _ ha) (hAr n (fun j => va_rf (f j))) (by rw [vp_cell_q, arrV_size] <;> rfl) rfl rfl hdg kk
theorem preS2 {av : List Value} (hk : kw D cI s) (hP : va_P D vwCl (wr ++ wc) H) (hD : va_D A (wr ++ wc)) : PreS s H (prW D cI av wc H.size) av :=
  ⟨prW_blind _ _ _ _ _, fun U hU hW => ⟨rfl, by rw [hU], by rw [hU]; exact P_subl (List.sublist_append_right _ _) hP, hk.warm hW, (D_subl (List.sublist_append_right _ _) hD).weaken (fun _ _ _ _ => trivial)⟩⟩
theorem preV2 {b : Addr} {As : List Value} {C : String} (hk : kw D cI s) (hP : va_P D vwCl (wr ++ wc) H) (hD : va_D A (wr ++ wc)) (hrc : ∃ cell : Cell, H[b]? = some cell ∧ cell.vm.isStatics = false ∧ s.vm.findClass C = some cell.cls) : PreV s H C b (prW D cI (.ref b :: As) wc H.size) As :=
  ⟨prW_blind _ _ _ _ _, hrc, fun U hU hW => ⟨rfl, by rw [hU], by rw [hU]; exact P_subl (List.sublist_append_right _ _) hP, hk.warm hW, (D_subl (List.sublist_append_right _ _) hD).weaken (fun _ _ _ _ => trivial)⟩⟩
theorem preSR2 {av : List Value} (hk : kR D cI cA s) (hP : va_P D vwCl (wr ++ wc) H) (hD : va_D A (wr ++ wc)) : PreS s H (prR D cI cA av wc H.size) av :=
  ⟨prR_blind _ _ _ _ _ _, fun U hU hW => ⟨rfl, by rw [hU], by rw [hU]; exact P_subl (List.sublist_append_right _ _) hP, hk.warm hW, (D_subl (List.sublist_append_right _ _) hD).weaken (fun _ _ _ _ => trivial)⟩⟩
theorem preVR2 {b : Addr} {As : List Value} {C : String} (hk : kR D cI cA s) (hP : va_P D vwCl (wr ++ wc) H) (hD : va_D A (wr ++ wc)) (hrc : ∃ cell : Cell, H[b]? = some cell ∧ cell.vm.isStatics = false ∧ s.vm.findClass C = some cell.cls) : PreV s H C b (prR D cI cA (.ref b :: As) wc H.size) As :=
  ⟨prR_blind _ _ _ _ _ _, hrc, fun U hU hW => ⟨rfl, by rw [hU], by rw [hU]; exact P_subl (List.sublist_append_right _ _) hP, hk.warm hW, (D_subl (List.sublist_append_right _ _) hD).weaken (fun _ _ _ _ => trivial)⟩⟩
theorem frI2 {r : Int32} {a : Array Value} (hP : va_P D vwCl (wr ++ wc) H) (hD : va_D A (wr ++ wc)) (hS : va_S A s.heap H locs) (hA : ∀ q : Nat, s.heap.size ≤ q → A q)
    (hr : va_Run p l e R s m args below meth c H locs cells slots mc ms (F0 m pc ls st0) rest (poI D (va_A wc H.size) wc' r a) (va_A wc H.size))
    (kk : ∀ (H1 : Heap) (locs1 : List Loc), va_P D vwCl (wr ++ wc') H1 → va_D A (wr ++ wc') → va_S A s.heap H1 locs1 → W p l e R s m args below meth c H1 locs1 (cells + mc) (slots + ms) Q (F0 m (pc + 3) ls (.int r :: rest))) : W p l e R s m args below meth c H locs cells slots Q (F0 m pc ls st0) := by
  have hF := fr_free2 hD hS hA
  refine va_calli hr hS (fun q _ h => hF q h) hF (fun r' u t H1 locs1 ht hvm hw hB hz1 hk1 hS1 => ?_)
  obtain ⟨hP1, hD1⟩ := hB
  rw [ht] at hP1
  subst hw
  obtain ⟨h1, h2⟩ := fr_two hP hD hF hk1 hP1 hD1
  exact kk H1 locs1 h1 h2 hS1
theorem frV2 {a : Array Value} (hP : va_P D vwCl (wr ++ wc) H) (hD : va_D A (wr ++ wc)) (hS : va_S A s.heap H locs) (hA : ∀ q : Nat, s.heap.size ≤ q → A q)
    (hr : va_Run p l e R s m args below meth c H locs cells slots mc ms (F0 m pc ls st0) rest (poV D (va_A wc H.size) wc' a) (va_A wc H.size))
    (kk : ∀ (H1 : Heap) (locs1 : List Loc), va_P D vwCl (wr ++ wc') H1 → va_D A (wr ++ wc') → va_S A s.heap H1 locs1 → W p l e R s m args below meth c H1 locs1 (cells + mc) (slots + ms) Q (F0 m (pc + 3) ls rest)) : W p l e R s m args below meth c H locs cells slots Q (F0 m pc ls st0) := by
  have hF := fr_free2 hD hS hA
  refine va_callv hr hS (fun q _ h => hF q h) hF (fun u t H1 locs1 ht hvm hw hB hz1 hk1 hS1 => ?_)
  obtain ⟨hP1, hD1⟩ := hB
  rw [ht] at hP1
  obtain ⟨h1, h2⟩ := fr_two hP hD hF hk1 hP1 hD1
  exact kk H1 locs1 h1 h2 hS1
theorem frR2 {a0 : Array Value} {wn : Nat → (Nat → Nat) → va_W} (hP : va_P D vwCl (wr ++ wc) H) (hD : va_D A (wr ++ wc)) (hS : va_S A s.heap H locs) (hA : ∀ q : Nat, s.heap.size ≤ q → A q)
    (hr : va_Run p l e R s m args below meth c H locs cells slots mc ms (F0 m pc ls st0) rest (poR D (va_A wc H.size) wn a0) (va_A wc H.size))
    (kk : ∀ (a : Nat) (q : Nat → Nat) (H1 : Heap) (locs1 : List Loc), va_P D vwCl (wr ++ wn a q) H1 → va_D A (wr ++ wn a q) → va_S A s.heap H1 locs1 → W p l e R s m args below meth c H1 locs1 (cells + mc) (slots + ms) Q (F0 m (pc + 3) ls (.ref a :: rest))) : W p l e R s m args below meth c H locs cells slots Q (F0 m pc ls st0) := by
  have hF := fr_free2 hD hS hA
  refine va_callr hr hS (fun q _ h => hF q h) hF (fun q a t H1 locs1 ht hvm hw hB hz1 hk1 hS1 => ?_)
  obtain ⟨hP1, hD1⟩ := hB
  rw [ht] at hP1
  obtain ⟨h1, h2⟩ := fr_two hP hD hF hk1 hP1 hD1
  exact kk a q H1 locs1 h1 h2 hS1
end PIECES
/-- a contract over some cells, said of a world that has them -/
theorem CI_up {l : Launch} {y : MethodName} {ws : List Cond} {rm : Room} {D : va_G} {cI : ClassId} {av : List Value} {w w' wn wn' wr : va_W} {r : Int32} (h : CI l y ws rm D cI av wn r wn') (isC isR pm : List Nat) (hC : isC.map (fun i => w[i]?) = wn.map some) (hnd : va_nd (isR ++ isC) = true) (hR : isR.map (fun i => w[i]?) = wr.map some) (hpm : pm.map (fun i => (wr ++ wn')[i]?) = w'.map some) (hnp : va_nd pm = true) : CI l y ws rm D cI av w r w' := by
  intro sz
  obtain ⟨n1, n2, n3⟩ := nd_app isR isC hnd
  refine MetFree.mono (h sz) (fun a s hp => ?_) (fun _ _ _ _ _ h => h) (fun a s o t hp hq => ?_)
  · obtain ⟨e1, e2, hP, hK, hD⟩ := hp
    exact ⟨e1, e2, hP.sub isC (fm_map _ _ _ hC), hK, (hD.sub isC n2 hC).weaken (fun _ _ _ _ => trivial)⟩
  · obtain ⟨e1, e2, hP, hK, hD⟩ := hp
    obtain ⟨⟨⟨r', u, ho, hr, hP1, hD1⟩, hF⟩, L, hL, hLf⟩ := hq
    subst e2
    have hDs : va_D (va_A w s.heap.size) w := D_self hD
    have hfree : ∀ q, va_A wn s.heap.size q → va_A w s.heap.size q := va_free (wc := wn) hDs (va_S.rf (A := va_A w s.heap.size) (H0 := s.heap)) (fun q hq => Or.inr hq) isC hC
    obtain ⟨hP2, hD2⟩ := va_join hP hDs isC isR hC hR n1 n3 hF.2 hfree hP1 hD1
    exact ⟨⟨⟨r', u, ho, hr, hP2.sub pm (fm_map _ _ _ hpm), hD2.sub pm hnp hpm⟩, hF.1, fun q h1 h2 => hF.2 q h1 (fun z => h2 (hfree q z))⟩, L, hL, fun q hq => hfree _ (hLf q hq)⟩
