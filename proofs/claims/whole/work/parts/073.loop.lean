theorem tsw20 {x : Int32} (h0 : ¬ x = 0) (h1 : ¬ x = 1) (h2 : ¬ x = 2) (h3 : ¬ x = 3) (h4 : ¬ x = 4) (h5 : ¬ x = 5) (h6 : ¬ x = 6) (h7 : ¬ x = 7) (h8 : ¬ x = 8) (h9 : ¬ x = 9) (h10 : ¬ x = 10) (h11 : ¬ x = 11) (h12 : ¬ x = 12) (h13 : ¬ x = 13) (h14 : ¬ x = 14) (h15 : ¬ x = 15) (h16 : ¬ x = 16) (h17 : ¬ x = 17) (h18 : ¬ x = 18) (h19 : ¬ x = 19) : x.toInt < 0 ∨ 19 < x.toInt := tsw_out (m := 19) (fun k hk => by
  rcases (show k = 0 ∨ k = 1 ∨ k = 2 ∨ k = 3 ∨ k = 4 ∨ k = 5 ∨ k = 6 ∨ k = 7 ∨ k = 8 ∨ k = 9 ∨ k = 10 ∨ k = 11 ∨ k = 12 ∨ k = 13 ∨ k = 14 ∨ k = 15 ∨ k = 16 ∨ k = 17 ∨ k = 18 ∨ k = 19 by omega) with rfl | rfl | rfl | rfl | rfl | rfl | rfl | rfl | rfl | rfl | rfl | rfl | rfl | rfl | rfl | rfl | rfl | rfl | rfl | rfl
  · exact h0
  · exact h1
  · exact h2
  · exact h3
  · exact h4
  · exact h5
  · exact h6
  · exact h7
  · exact h8
  · exact h9
  · exact h10
  · exact h11
  · exact h12
  · exact h13
  · exact h14
  · exact h15
  · exact h16
  · exact h17
  · exact h18
  · exact h19) (by decide)

theorem head_c {L i : Nat} (hL : L ≤ 2560) (hi : i ≤ 2560) : (nI L - 5 < nI i) ↔ L < i + 5 := by
  have h5 : (5 : Int32).toInt = 5 := by decide
  have h1 := nI_toInt (n := L) (by omega)
  have h2 := nI_toInt (n := i) (by omega)
  have h3 := i_sub (x := nI L) (y := 5) (by omega) (by omega)
  rw [Int32.lt_iff_toInt_lt]
  omega
theorem FL.drawn {p : Program} {s : State} {m : MethodId} {c : Code} {bs L : Nat} {xs : Nat → Int32} {D : va_G} {cI cA cL : ClassId} (h : FL p s m c bs L xs D cI cA cL) (d : Drawn) : FL p (s.setDrawn d) m c bs L xs D cI cA cL := by
  obtain ⟨h1, h2, h3, h4, h5, h6, h7, h8, h9, h10, h11⟩ := h
  exact ⟨h1, h2, h3, h4, dr_words h5 d, va_X.moved (u := s) (U := s.setDrawn d) (Vm.Alike.refl s.vm) h6, h7, kl.same (s := s) (U := s.setDrawn d) rfl h8, kR.same (s := s) (U := s.setDrawn d) rfl h9, zx.moved (u := s) (U := s.setDrawn d) (Vm.Alike.refl s.vm) h10, h11⟩

set_option maxHeartbeats 4000000 in
set_option maxRecDepth 100000 in
theorem law_loop {p : Program} {l : Launch} {e : Env} {s : State} {m : MethodId} {below : List Frame} {meth : Method} {c : Code} {Q : State → Prop} (hfl : l.stackTraces = false) (D : va_G) (cI cA cL : ClassId) (o0 t0 t1 t2 u0 u1 u2 u3 u4 h0 d0 d1 d2 d3 d4 d5 k0 k1 k2 k3 z0 y0 y1 y2 y3 y4 y5 x0 x1 x2 x3 out m0 m1 m2 m3 m4 m5 bs L : Nat) (xs : Nat → Int32) (fl : FL p s m c bs L xs D cI cA cL)
    (hend : ∀ (dr0 : Drawn) (H : Heap) (locs : List Loc) (ls : Array Slot) (cells slots : Nat), s.drawn.sameBut dr0 lw_cs → va_S (fun q : Nat => s.heap.size ≤ q) s.heap H locs → cells ≤ 601024 → slots ≤ 7293034 → W p l e room_1 (s.setDrawn dr0) m #[Value.ref bs] below meth c H locs cells slots Q (F0 m 1216 ls [])) :
    ∀ (fuel i : Nat), L - i < fuel → i ≤ L → ∀ dr0 : Drawn, s.drawn.sameBut dr0 lw_cs → ∀ (nD nT nC nZ : Nat) (th : Int32) (st cu : Mx) (S Z : SH) (fo : Nat → Int64) (H : Heap) (locs : List Loc) (ls : Array Slot) (cells slots : Nat), LI (s.setDrawn dr0) D cI cL o0 t0 t1 t2 u0 u1 u2 u3 u4 h0 d0 d1 d2 d3 d4 d5 k0 k1 k2 k3 z0 y0 y1 y2 y3 y4 y5 x0 x1 x2 x3 out m0 m1 m2 m3 m4 m5 bs i H locs ls nD nT nC nZ th st cu S Z fo → cells + 32 * (L - i) ≤ 601024 → slots + 512 * (L - i) ≤ 7293034 → W p l e room_1 (s.setDrawn dr0) m #[Value.ref bs] below meth c H locs cells slots Q (F0 m 23 ls []) := by
  intro fuel
  induction fuel with
  | zero => intro i h; omega
  | succ fuel ih =>
    intro i hf hi dr0 hd0 nD nT nC nZ th st cu S Z fo H locs ls cells slots hI hcs hss
    have hI0 := hI
    have fl0 := fl.drawn dr0
    obtain ⟨hx, hb, hml, hown, hts, hX, hbl, hkl, hkr, hz, hL⟩ := fl
    obtain ⟨hN, hP, hD, hS, hl⟩ := hI
    have hXd : va_X bs L xs (s.setDrawn dr0) s.heap := va_X.moved (u := s) (U := s.setDrawn dr0) (Vm.Alike.refl s.vm) hX
    have hA : ∀ q : Nat, s.heap.size ≤ q → (fun q : Nat => s.heap.size ≤ q) q := fun _ h => h
    have again : i + 5 ≤ L → ∀ d9 : Drawn, s.drawn.sameBut d9 lw_cs → LK p l e (s.setDrawn d9) m below meth c D cI cL o0 t0 t1 t2 u0 u1 u2 u3 u4 h0 d0 d1 d2 d3 d4 d5 k0 k1 k2 k3 z0 y0 y1 y2 y3 y4 y5 x0 x1 x2 x3 out m0 m1 m2 m3 m4 m5 bs i cells slots Q := by
      intro h5 d9 hd9 nD nT nC nZ th st cu S Z fo H locs ls k n hI hk hn
      obtain ⟨hN, hP, hD, hS, hl⟩ := hI
      refine lv_iinc (v := nI (i + 5)) (lv' := [(4, .int (nI (i + 5))), (3, .ref out), (2, .ref m0), (1, .ref o0), (0, .ref bs)]) hx hb dL_law_1210 hl (k := 0) rfl (nI_add i 5) (by decide) rfl (fun ls hl => ?_)
      refine lv_goto (tgt := 23) hx hb dL_law_1213 (by decide) ?_
      exact ih (i + 5) (by omega) h5 d9 hd9 nD nT nC nZ th st cu S Z fo H locs ls k n ⟨hN, hP, hD, hS, hl⟩ (by omega) (by omega)
    refine lv_iload hx hb dL_law_23 (lv_at hl 0 rfl) ?_
    refine lv_aload_n hx hb dL_law_25 rfl (lv_at hl 4 rfl) ?_
    refine va_slen hx hb hXd hbl (Nat.not_le.mpr hbl) hS dL_law_26 ?_
    refine lv_iconst (v := 5) hx hb dL_law_27 (by decide) ?_
    refine lv_isub hx hb dL_law_28 ?_
    refine lv_icmp_gt (tgt := 1216) hx hb dL_law_29 (by decide) (fun c29 => ?_) (fun c29 => ?_)
    · exact hend dr0 H locs ls cells slots hd0 hS (by omega) (by omega)
    have h5 : i + 5 ≤ L := Nat.not_lt.mp (fun q => c29 ((head_c hL (by omega)).mpr q))
    refine lv_aload_n hx hb dL_law_32 rfl (lv_at hl 4 rfl) ?_
    refine lv_iload hx hb dL_law_33 (lv_at hl 0 rfl) ?_
    refine va_sld hx hb hXd hbl (Nat.not_le.mpr hbl) hS (vin_n (show i < L by omega) (by omega)) dL_law_35 ?_
    refine lv_bipush (v := 31) hx hb dL_law_36 (by decide) ?_
    refine lv_iand hx hb dL_law_38 ?_
    generalize (xs (nI i).toNatClampNeg &&& 31) = kd
    by_cases e0 : kd = 0
    · refine top_int e0 ?_
      refine lv_tableIn (off := 93) (tgt := 132) hx hb dL_law_39 (by decide) (by decide) (by decide) (by decide) ?_
      exact cs_dimmer (s := s.setDrawn dr0) hfl D cI cA cL o0 t0 t1 t2 u0 u1 u2 u3 u4 h0 d0 d1 d2 d3 d4 d5 k0 k1 k2 k3 z0 y0 y1 y2 y3 y4 y5 x0 x1 x2 x3 out m0 m1 m2 m3 m4 m5 bs L i cells slots xs nD nT nC nZ th st cu S Z fo H locs ls fl0 hI0 h5 (by omega) (by omega) (again h5 dr0 hd0)
    by_cases e1 : kd = 1
    · refine top_int e1 ?_
      refine lv_tableIn (off := 173) (tgt := 212) hx hb dL_law_39 (by decide) (by decide) (by decide) (by decide) ?_
      exact cs_lamp (s := s.setDrawn dr0) hfl D cI cA cL o0 t0 t1 t2 u0 u1 u2 u3 u4 h0 d0 d1 d2 d3 d4 d5 k0 k1 k2 k3 z0 y0 y1 y2 y3 y4 y5 x0 x1 x2 x3 out m0 m1 m2 m3 m4 m5 bs L i cells slots xs nD nT nC nZ th st cu S Z fo H locs ls fl0 hI0 h5 (by omega) (by omega) (again h5 dr0 hd0)
    by_cases e2 : kd = 2
    · refine top_int e2 ?_
      refine lv_tableIn (off := 241) (tgt := 280) hx hb dL_law_39 (by decide) (by decide) (by decide) (by decide) ?_
      exact cs_star (s := s.setDrawn dr0) hfl D cI cA cL o0 t0 t1 t2 u0 u1 u2 u3 u4 h0 d0 d1 d2 d3 d4 d5 k0 k1 k2 k3 z0 y0 y1 y2 y3 y4 y5 x0 x1 x2 x3 out m0 m1 m2 m3 m4 m5 bs L i cells slots xs nD nT nC nZ th st cu S Z fo H locs ls fl0 hI0 h5 (by omega) (by omega) (again h5 dr0 hd0)
    by_cases e3 : kd = 3
    · refine top_int e3 ?_
      refine lv_tableIn (off := 309) (tgt := 348) hx hb dL_law_39 (by decide) (by decide) (by decide) (by decide) ?_
      exact cs_cue (s := s.setDrawn dr0) hfl D cI cA cL o0 t0 t1 t2 u0 u1 u2 u3 u4 h0 d0 d1 d2 d3 d4 d5 k0 k1 k2 k3 z0 y0 y1 y2 y3 y4 y5 x0 x1 x2 x3 out m0 m1 m2 m3 m4 m5 bs L i cells slots xs nD nT nC nZ th st cu S Z fo H locs ls fl0 hI0 h5 (by omega) (by omega) (again h5 dr0 hd0)
    by_cases e4 : kd = 4
    · refine top_int e4 ?_
      refine lv_tableIn (off := 401) (tgt := 440) hx hb dL_law_39 (by decide) (by decide) (by decide) (by decide) ?_
      exact cs_run (s := s.setDrawn dr0) hfl D cI cA cL o0 t0 t1 t2 u0 u1 u2 u3 u4 h0 d0 d1 d2 d3 d4 d5 k0 k1 k2 k3 z0 y0 y1 y2 y3 y4 y5 x0 x1 x2 x3 out m0 m1 m2 m3 m4 m5 bs L i cells slots xs nD nT nC nZ th st cu S Z fo H locs ls fl0 hI0 h5 (by omega) (by omega) (again h5 dr0 hd0)
    by_cases e5 : kd = 5
    · refine top_int e5 ?_
      refine lv_tableIn (off := 414) (tgt := 453) hx hb dL_law_39 (by decide) (by decide) (by decide) (by decide) ?_
      exact cs_jump (s := s.setDrawn dr0) hfl D cI cA cL o0 t0 t1 t2 u0 u1 u2 u3 u4 h0 d0 d1 d2 d3 d4 d5 k0 k1 k2 k3 z0 y0 y1 y2 y3 y4 y5 x0 x1 x2 x3 out m0 m1 m2 m3 m4 m5 bs L i cells slots xs nD nT nC nZ th st cu S Z fo H locs ls fl0 hI0 h5 (by omega) (by omega) (again h5 dr0 hd0)
    by_cases e6 : kd = 6
    · refine top_int e6 ?_
      refine lv_tableIn (off := 470) (tgt := 509) hx hb dL_law_39 (by decide) (by decide) (by decide) (by decide) ?_
      exact cs_fade (s := s.setDrawn dr0) hfl D cI cA cL o0 t0 t1 t2 u0 u1 u2 u3 u4 h0 d0 d1 d2 d3 d4 d5 k0 k1 k2 k3 z0 y0 y1 y2 y3 y4 y5 x0 x1 x2 x3 out m0 m1 m2 m3 m4 m5 bs L i cells slots xs nD nT nC nZ th st cu S Z fo H locs ls fl0 hI0 h5 (by omega) (by omega) (again h5 dr0 hd0)
    by_cases e7 : kd = 7
    · refine top_int e7 ?_
      refine lv_tableIn (off := 538) (tgt := 577) hx hb dL_law_39 (by decide) (by decide) (by decide) (by decide) ?_
      exact cs_pass (s := s.setDrawn dr0) hfl D cI cA cL o0 t0 t1 t2 u0 u1 u2 u3 u4 h0 d0 d1 d2 d3 d4 d5 k0 k1 k2 k3 z0 y0 y1 y2 y3 y4 y5 x0 x1 x2 x3 out m0 m1 m2 m3 m4 m5 bs L i cells slots xs nD nT nC nZ th st cu S Z fo H locs ls fl0 hI0 h5 (by omega) (by omega) (again h5 dr0 hd0)
    by_cases e8 : kd = 8
    · refine top_int e8 ?_
      refine lv_tableIn (off := 594) (tgt := 633) hx hb dL_law_39 (by decide) (by decide) (by decide) (by decide) ?_
      exact cs_told (s := s.setDrawn dr0) hfl D cI cA cL o0 t0 t1 t2 u0 u1 u2 u3 u4 h0 d0 d1 d2 d3 d4 d5 k0 k1 k2 k3 z0 y0 y1 y2 y3 y4 y5 x0 x1 x2 x3 out m0 m1 m2 m3 m4 m5 bs L i cells slots xs nD nT nC nZ th st cu S Z fo H locs ls fl0 hI0 h5 (by omega) (by omega) (again h5 dr0 hd0)
    by_cases e9 : kd = 9
    · refine top_int e9 ?_
      refine lv_tableIn (off := 662) (tgt := 701) hx hb dL_law_39 (by decide) (by decide) (by decide) (by decide) ?_
      exact cs_glare (s := s.setDrawn dr0) hfl D cI cA cL o0 t0 t1 t2 u0 u1 u2 u3 u4 h0 d0 d1 d2 d3 d4 d5 k0 k1 k2 k3 z0 y0 y1 y2 y3 y4 y5 x0 x1 x2 x3 out m0 m1 m2 m3 m4 m5 bs L i cells slots xs nD nT nC nZ th st cu S Z fo H locs ls fl0 hI0 h5 (by omega) (by omega) (again h5 dr0 hd0)
    by_cases e10 : kd = 10
    · refine top_int e10 ?_
      refine lv_tableIn (off := 718) (tgt := 757) hx hb dL_law_39 (by decide) (by decide) (by decide) (by decide) ?_
      exact cs_about (s := s.setDrawn dr0) hfl D cI cA cL o0 t0 t1 t2 u0 u1 u2 u3 u4 h0 d0 d1 d2 d3 d4 d5 k0 k1 k2 k3 z0 y0 y1 y2 y3 y4 y5 x0 x1 x2 x3 out m0 m1 m2 m3 m4 m5 bs L i cells slots xs nD nT nC nZ th st cu S Z fo H locs ls fl0 hI0 h5 (by omega) (by omega) (again h5 dr0 hd0)
    by_cases e11 : kd = 11
    · refine top_int e11 ?_
      refine lv_tableIn (off := 786) (tgt := 825) hx hb dL_law_39 (by decide) (by decide) (by decide) (by decide) ?_
      exact cs_comet (s := s.setDrawn dr0) hfl D cI cA cL o0 t0 t1 t2 u0 u1 u2 u3 u4 h0 d0 d1 d2 d3 d4 d5 k0 k1 k2 k3 z0 y0 y1 y2 y3 y4 y5 x0 x1 x2 x3 out m0 m1 m2 m3 m4 m5 bs L i cells slots xs nD nT nC nZ th st cu S Z fo H locs ls fl0 hI0 h5 (by omega) (by omega) (again h5 dr0 hd0)
    by_cases e12 : kd = 12
    · refine top_int e12 ?_
      refine lv_tableIn (off := 854) (tgt := 893) hx hb dL_law_39 (by decide) (by decide) (by decide) (by decide) ?_
      exact cs_count (s := s.setDrawn dr0) hfl D cI cA cL o0 t0 t1 t2 u0 u1 u2 u3 u4 h0 d0 d1 d2 d3 d4 d5 k0 k1 k2 k3 z0 y0 y1 y2 y3 y4 y5 x0 x1 x2 x3 out m0 m1 m2 m3 m4 m5 bs L i cells slots xs nD nT nC nZ th st cu S Z fo H locs ls fl0 hI0 h5 (by omega) (by omega) (again h5 dr0 hd0)
    by_cases e13 : kd = 13
    · refine top_int e13 ?_
      refine lv_tableIn (off := 910) (tgt := 949) hx hb dL_law_39 (by decide) (by decide) (by decide) (by decide) ?_
      exact cs_next (s := s.setDrawn dr0) hfl D cI cA cL o0 t0 t1 t2 u0 u1 u2 u3 u4 h0 d0 d1 d2 d3 d4 d5 k0 k1 k2 k3 z0 y0 y1 y2 y3 y4 y5 x0 x1 x2 x3 out m0 m1 m2 m3 m4 m5 bs L i cells slots xs nD nT nC nZ th st cu S Z fo H locs ls fl0 hI0 h5 (by omega) (by omega) (again h5 dr0 hd0)
    by_cases e14 : kd = 14
    · refine top_int e14 ?_
      refine lv_tableIn (off := 923) (tgt := 962) hx hb dL_law_39 (by decide) (by decide) (by decide) (by decide) ?_
      exact cs_when (s := s.setDrawn dr0) hfl D cI cA cL o0 t0 t1 t2 u0 u1 u2 u3 u4 h0 d0 d1 d2 d3 d4 d5 k0 k1 k2 k3 z0 y0 y1 y2 y3 y4 y5 x0 x1 x2 x3 out m0 m1 m2 m3 m4 m5 bs L i cells slots xs nD nT nC nZ th st cu S Z fo H locs ls fl0 hI0 h5 (by omega) (by omega) (again h5 dr0 hd0)
    by_cases e15 : kd = 15
    · refine top_int e15 ?_
      refine lv_tableIn (off := 979) (tgt := 1018) hx hb dL_law_39 (by decide) (by decide) (by decide) (by decide) ?_
      exact cs_lasts (s := s.setDrawn dr0) hfl D cI cA cL o0 t0 t1 t2 u0 u1 u2 u3 u4 h0 d0 d1 d2 d3 d4 d5 k0 k1 k2 k3 z0 y0 y1 y2 y3 y4 y5 x0 x1 x2 x3 out m0 m1 m2 m3 m4 m5 bs L i cells slots xs nD nT nC nZ th st cu S Z fo H locs ls fl0 hI0 h5 (by omega) (by omega) (again h5 dr0 hd0)
    by_cases e16 : kd = 16
    · refine top_int e16 ?_
      refine lv_tableIn (off := 1035) (tgt := 1074) hx hb dL_law_39 (by decide) (by decide) (by decide) (by decide) ?_
      exact cs_foresee (s := s.setDrawn dr0) hfl D cI cA cL o0 t0 t1 t2 u0 u1 u2 u3 u4 h0 d0 d1 d2 d3 d4 d5 k0 k1 k2 k3 z0 y0 y1 y2 y3 y4 y5 x0 x1 x2 x3 out m0 m1 m2 m3 m4 m5 bs L i cells slots xs nD nT nC nZ th st cu S Z fo H locs ls fl0 hI0 h5 (by omega) (by omega) (again h5 dr0 hd0)
    by_cases e17 : kd = 17
    · refine top_int e17 ?_
      refine lv_tableIn (off := 1103) (tgt := 1142) hx hb dL_law_39 (by decide) (by decide) (by decide) (by decide) ?_
      exact cs_darkest (s := s.setDrawn dr0) hfl D cI cA cL o0 t0 t1 t2 u0 u1 u2 u3 u4 h0 d0 d1 d2 d3 d4 d5 k0 k1 k2 k3 z0 y0 y1 y2 y3 y4 y5 x0 x1 x2 x3 out m0 m1 m2 m3 m4 m5 bs L i cells slots xs nD nT nC nZ th st cu S Z fo H locs ls fl0 hI0 h5 (by omega) (by omega) (again h5 dr0 hd0)
    by_cases e18 : kd = 18
    · refine top_int e18 ?_
      refine lv_tableIn (off := 1116) (tgt := 1155) hx hb dL_law_39 (by decide) (by decide) (by decide) (by decide) ?_
      exact cs_mean (s := s.setDrawn dr0) hfl D cI cA cL o0 t0 t1 t2 u0 u1 u2 u3 u4 h0 d0 d1 d2 d3 d4 d5 k0 k1 k2 k3 z0 y0 y1 y2 y3 y4 y5 x0 x1 x2 x3 out m0 m1 m2 m3 m4 m5 bs L i cells slots xs nD nT nC nZ th st cu S Z fo H locs ls fl0 hI0 h5 (by omega) (by omega) (fun d9 hd9 => again h5 d9 (hd0.trans hd9))
    by_cases e19 : kd = 19
    · refine top_int e19 ?_
      refine lv_tableIn (off := 1157) (tgt := 1196) hx hb dL_law_39 (by decide) (by decide) (by decide) (by decide) ?_
      exact cs_digest (s := s.setDrawn dr0) hfl D cI cA cL o0 t0 t1 t2 u0 u1 u2 u3 u4 h0 d0 d1 d2 d3 d4 d5 k0 k1 k2 k3 z0 y0 y1 y2 y3 y4 y5 x0 x1 x2 x3 out m0 m1 m2 m3 m4 m5 bs L i cells slots xs nD nT nC nZ th st cu S Z fo H locs ls fl0 hI0 h5 (by omega) (by omega) (again h5 dr0 hd0)
    refine lv_tableOut (tgt := 1210) hx hb dL_law_39 (tsw20 e0 e1 e2 e3 e4 e5 e6 e7 e8 e9 e10 e11 e12 e13 e14 e15 e16 e17 e18 e19) (by decide) ?_
    exact again h5 dr0 hd0 nD nT nC nZ th st cu S Z fo H locs ls cells slots hI0 (by omega) (by omega)
