/-! what the law does to both: numbers that a number chooses -/
theorem wi_in {x lo hi : Int32} (h1 : lo.toInt ≤ x.toInt) (h2 : x.toInt ≤ hi.toInt) : ¬ wiI x lo hi = 0 := by
  unfold wiI
  rw [if_neg (fun q => by have := tlt.mp q; omega), if_neg (fun q => by have := tlt.mp q; omega)]
  decide
theorem wi_N {j : Nat} {lo hi : Int32} (l h : Nat) (hl : lo.toInt = l) (hh : hi.toInt = h) (h1 : l ≤ j) (h2 : j ≤ h) (h3 : h < 2 ^ 31) : ¬ wiI (nI j) lo hi = 0 := wi_in (by rw [hl, nI_toInt (by omega)]; omega) (by rw [hh, nI_toInt (by omega)]; omega)
theorem bel_n (v : Int32) {n : Nat} {m : Int32} (hm : m = nI n) (h : 0 < n) (h2 : n < 2 ^ 31) : ∃ j, j < n ∧ irm (v &&& 2147483647) m = nI j := by
  subst hm
  have e : v &&& 2147483647 = nI (v.toBitVec.toNat % 2 ^ 31) := pk_and v 31 (by decide)
  refine ⟨v.toBitVec.toNat % 2 ^ 31 % n, Nat.mod_lt _ h, ?_⟩
  rw [e]
  exact pk_rem (Nat.mod_lt _ (by decide)) h h2
theorem rem_n {a n : Nat} {m : Int32} (hm : m = nI n) (ha : a < 2 ^ 31) (h : 0 < n) (h2 : n < 2 ^ 31) : irm (nI a) m = nI (a % n) := by
  subst hm
  exact pk_rem ha h h2
theorem bn_N {j : Nat} (l h : Nat) (h1 : l ≤ j) (h2 : j ≤ h) (h3 : h < 2 ^ 31) : bnd (nI j) l h := ⟨by rw [nI_toInt (by omega)]; omega, by rw [nI_toInt (by omega)]; omega⟩
theorem sub_b {j : Nat} {m : Int32} (k : Nat) (hm : m.toInt = k) (h : j ≤ 2 * k) (h2 : k < 1000) : bnd (nI j - m) (-k) k := by
  have h1 := nI_toInt (show j < 2 ^ 31 by omega)
  have h3 := i_sub (x := nI j) (y := m) (by omega) (by omega)
  exact ⟨by omega, by omega⟩
theorem wi_B {x lo hi : Int32} {l h : Int} (hb : bnd x l h) (hl : lo.toInt = l) (hh : hi.toInt = h) : ¬ wiI x lo hi = 0 := wi_in (by rw [hl]; exact hb.1) (by rw [hh]; exact hb.2)
/-- a cue's time, near the clock -/
theorem tm_ok {c : Int32} {j : Nat} {k : Int} (hc : bnd c 0 k) (h : ¬ 950 ≤ c) (hj : j < 40) : ¬ wiI (c + nI j) 0 999 = 0 := by
  have e : (950 : Int32).toInt = 950 := by decide
  have e9 : (999 : Int32).toInt = 999 := by decide
  have h1 : ¬ (950 : Int) ≤ c.toInt := fun q => h (tl.mpr (by rw [e]; exact q))
  have h2 := nI_toInt (show j < 2 ^ 31 by omega)
  unfold bnd at hc
  have h3 := i_add (x := c) (y := nI j) (by omega) (by omega)
  exact wi_in (by rw [t0]; omega) (by rw [e9]; omega)
theorem su_0 {n d : Nat} {b : Int32} (hd : d < n) (hn : n ≤ 8) (hb : bnd b 0 100) : ¬ suI n 0 (nI d) b = 0 := by
  rw [suI, if_pos rfl, if_neg (by rw [hasI_1 hd (by omega)]; decide), if_neg (wi_B hb (by decide) (by decide))]
  decide
theorem su_1 {n : Nat} {b : Int32} (hb : bnd b (-30) 30) : ¬ suI n 1 0 b = 0 := by
  rw [suI, if_neg (by decide), if_pos rfl, if_pos rfl, if_neg (wi_B hb (by decide) (by decide))]
  decide
theorem su_2 {n : Nat} {a b : Int32} (ha : bnd a 0 359) (hb : bnd b (-20) 20) : ¬ suI n 2 a b = 0 := by
  rw [suI, if_neg (by decide), if_neg (by decide), if_pos rfl, if_neg (wi_B ha (by decide) (by decide)), if_neg (wi_B hb (by decide) (by decide))]
  decide
theorem su_3 {n : Nat} {a b : Int32} (ha : bnd a 0 99) (hb : bnd b 1 60) : ¬ suI n 3 a b = 0 := by
  rw [suI, if_neg (by decide), if_neg (by decide), if_neg (by decide), if_pos rfl, if_neg (wi_B ha (by decide) (by decide)), if_neg (wi_B hb (by decide) (by decide))]
  decide
theorem su_4 {n : Nat} : ¬ suI n 4 0 0 = 0 := by
  rw [suI, if_neg (by decide), if_neg (by decide), if_neg (by decide), if_neg (by decide), if_pos rfl, if_pos rfl, if_pos rfl]
  decide
/-! what stays true -/
section POK
variable {tm nD nT nC : Nat} {st cu : Mx} {S : SH}
theorem um_g {g : Mx} {w n i : Nat} {x : Int32} : um g w n x w i = if i = n then x else g w i := by
  show um g w n x w i = _
  unfold um
  rw [nbt]
  rfl
theorem um_n {g : Mx} {w n w' i : Nat} {x : Int32} (h : ¬ w' = w) : um g w n x w' i = g w' i := by
  unfold um
  rw [nbf h]
  rfl
theorem pOK_dim {a b x : Int32} (h : pOK tm nD nT nC st cu S) (hn : nD < 8) (h1 : ¬ wiI a 0 11 = 0) (h2 : ¬ wiI b 1 50 = 0) (h3 : ¬ wiI x 0 9999 = 0) : pOK tm (nD + 1) nT nC st cu (S.1, dAdd S.2.1 nD a b x, S.2.2) := by
  obtain ⟨k, hl, hs, hq, hc⟩ := h
  have hk : kDim nD a b x = 0 := by rw [kDim, if_neg h1, if_neg h2, if_neg h3, if_neg (by omega)]
  have k2 := nOK_dim (a := a) (b := b) (x := x) k
  rw [sel_0 hk, sel_0 hk] at k2
  refine ⟨k2, fun i hi => ?_, hs, hq, hc⟩
  show bnd (um (um (um (um (um S.2.1 0 nD a) 1 nD 0) 2 nD 0) 3 nD b) 4 nD x 4 i) 0 9999
  rw [um_g]
  split
  · exact wi_bnd h3 (by decide) (by decide)
  · rw [um_n (by decide), um_n (by decide), um_n (by decide), um_n (by decide)]
    exact hl i (by omega)
theorem pOK_lamp {j : Nat} {x : Int32} (h : pOK tm nD nT nC st cu S) (h1 : bnd x 0 9999) : pOK tm nD nT nC st cu (S.1, laF S.2.1 j x, S.2.2) := by
  obtain ⟨k, hl, hs, hq, hc⟩ := h
  have k2 := nOK_lamp (k := 0) (j := j) (x := x) k
  rw [sel_0 rfl] at k2
  refine ⟨k2, fun i hi => ?_, hs, hq, hc⟩
  have e : laF S.2.1 j x 4 i = if i = j then x else S.2.1 4 i := by
    unfold laF
    split
    · rw [um_n (by decide), um_g]
    · rw [um_g]
  show bnd (laF S.2.1 j x 4 i) 0 9999
  rw [e]
  split
  · exact h1
  · exact hl i hi
theorem pOK_star {a b : Int32} (h : pOK tm nD nT nC st cu S) (hn : nT < 20) (h1 : ¬ wiI a 0 359 = 0) (h2 : ¬ wiI b 1 9 = 0) : pOK tm nD (nT + 1) nC (sAdd st nT a b) cu S := by
  obtain ⟨k, hl, hs, hq, hc⟩ := h
  have hk : kStar nT a b = 0 := by rw [kStar, if_neg h1, if_neg h2, if_neg (by omega)]
  have k2 := nOK_star (a := a) (b := b) k
  rw [sel_0 hk, sel_0 hk] at k2
  exact ⟨k2, hl, hs, hq, hc⟩
theorem pOK_cue {t k a b : Int32} (h : pOK tm nD nT nC st cu S) (hn : nC < 24) (h1 : ¬ wiI t 0 999 = 0) (h2 : ¬ wiI k 0 4 = 0) (h3 : ¬ suI nD k a b = 0) : pOK tm nD nT (nC + 1) st (uAdd cu nC t k a b) S := by
  obtain ⟨k1, hl, hs, hq, hc⟩ := h
  have hk : kCue nD nC t k a b = 0 := by rw [kCue, if_neg h1, if_neg h2, if_neg h3, if_neg (by omega)]
  have k2 := nOK_cue (t := t) (k := k) (a := a) (b := b) k1
  rw [sel_0 hk, sel_0 hk] at k2
  refine ⟨k2, hl, hs, fun i hi e => ?_, hc⟩
  by_cases q : i = nC
  · subst q
    have e2 : k = 3 := by
      have e3 : uAdd cu i t k a b 1 i = k := pk_us
      rw [e3] at e
      exact e
    subst e2
    show bnd (upd (cu 2) i a i) 0 99 ∧ bnd (upd (cu 3) i b i) 1 60
    rw [pk_us, pk_us]
    rw [suI, if_neg (by decide), if_neg (by decide), if_neg (by decide), if_pos rfl] at h3
    by_cases c1 : wiI a 0 99 = 0
    · rw [if_pos c1] at h3; exact absurd rfl h3
    rw [if_neg c1] at h3
    by_cases c2 : wiI b 1 60 = 0
    · rw [if_pos c2] at h3; exact absurd rfl h3
    exact ⟨wi_bnd c1 (by decide) (by decide), wi_bnd c2 (by decide) (by decide)⟩
  · rw [uAdd_o q] at e
    rw [uAdd_o q, uAdd_o q]
    exact hq i (by omega) e
theorem pOK_run (h : pOK tm nD nT nC st cu S) : pOK tm nD nT nC st cu (un S.1 2 (swI (S.1 2)), S.2) := by
  obtain ⟨k, hl, hs, hq, hc⟩ := h
  exact ⟨nOK_run k, hl, hs, hq, hc⟩
theorem pOK_jump {x : Int32} (h : pOK tm nD nT nC st cu S) (h1 : bnd x 0 1000) : pOK tm nD nT nC st cu (un S.1 1 x, S.2) := by
  obtain ⟨k, hl, hs, hq, hc⟩ := h
  have k2 := nOK_jump (k := 0) (x := x) k
  rw [sel_0 rfl] at k2
  exact ⟨k2, hl, hs, hq, ⟨h1.1, by have := h1.2; show x.toInt ≤ _; omega⟩⟩
theorem pOK_fade {j : Nat} {x : Int32} (h : pOK tm nD nT nC st cu S) (hj : j < nD) (h1 : ¬ wiI x 0 100 = 0) : pOK tm nD nT nC st cu (S.1, um S.2.1 2 j x, S.2.2) := by
  obtain ⟨k, hl, hs, hq, hc⟩ := h
  have hk : kFade nD (nI j) x = 0 := by rw [kFade, if_neg (by rw [hasI_1 hj (by have := k.1; omega)]; decide), if_neg h1]
  have k2 := nOK_fade (d := nI j) (x := x) (j := j) k
  rw [sel_0 hk] at k2
  refine ⟨k2, fun i hi => ?_, hs, hq, hc⟩
  show bnd (um S.2.1 2 j x 4 i) 0 9999
  rw [um_n (by decide)]
  exact hl i hi
end POK
/-- the law's world: its own console and the class's -/
def LWd (cI cA : ClassId) (ad : Nat → Nat) (z0 nD nT nC nZ : Nat) (st cu : Mx) (S Z : SH) (zd zt zk zu : Nat) (pd pt pk pu : Nat → Nat) : va_W := ([(z0, .inr (6, [.ref zd, .ref zt, .ref zk, .ref zu, .int (S.1 0), .int (S.1 1), .int (S.1 2), .int (S.1 3), .int (S.1 4), .int (S.1 5), .int (S.1 6)])), (zd, .inl (cA, nD, .inr (.inr (.inr (.inr (fun i => some (pd i))))))), (zt, .inl (cA, nT, .inr (.inr (.inr (.inr (fun i => some (pt i))))))), (zk, .inl (cA, S.2.2.1, .inr (.inr (.inr (.inr (fun i => some (pk i))))))), (zu, .inl (cA, nC, .inr (.inr (.inr (.inr (fun i => some (pu i)))))))] ++ (RO cI pd pt pk pu nD nT S.2.2.1 nC S.2.1 st S.2.2.2 cu ++ KW cI ad nD nT nC nZ st cu S Z))
def GW (D : va_G) (cI cA : ClassId) (ad : Nat → Nat) (z0 tm : Nat) (A : Nat → Prop) (H : Heap) : Prop := ∃ (nD nT nC nZ : Nat) (st cu : Mx) (S Z : SH) (zd zt zk zu : Nat) (pd pt pk pu : Nat → Nat), pOK tm nD nT nC st cu S ∧ va_P D vwCl (LWd cI cA ad z0 nD nT nC nZ st cu S Z zd zt zk zu pd pt pk pu) H ∧ va_D A (LWd cI cA ad z0 nD nT nC nZ st cu S Z zd zt zk zu pd pt pk pu)
