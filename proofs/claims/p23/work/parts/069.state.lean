/-! what holds of the console that the law looks at, and what a tick does to it -/
theorem tl {x y : Int32} : x ≤ y ↔ x.toInt ≤ y.toInt := Int32.le_iff_toInt_le
theorem tlt {x y : Int32} : x < y ↔ x.toInt < y.toInt := Int32.lt_iff_toInt_lt
theorem te {x y : Int32} (h : x.toInt = y.toInt) : x = y := Int32.toInt_inj.mp h
theorem t0 : (0 : Int32).toInt = 0 := by decide
theorem t1 : (1 : Int32).toInt = 1 := by decide
theorem tm1 : (-1 : Int32).toInt = -1 := by decide
def lfOK (n : Nat) (g : Mx) : Prop := ∀ i : Nat, i < n → bnd (g 4 i) 0 9999
def spOK (nu : Nat → Int32) : Prop := bnd (nu 4) 0 60 ∧ (nu 4 = 0 → nu 3 = -1) ∧ (¬ nu 4 = 0 → bnd (nu 3) 0 99)
def q3OK (nC : Nat) (cu : Mx) : Prop := ∀ i : Nat, i < nC → cu 1 i = 3 → bnd (cu 2 i) 0 99 ∧ bnd (cu 3 i) 1 60
def pOK (tm : Nat) (nD nT nC : Nat) (st cu : Mx) (S : SH) : Prop := nOK nD nT nC st cu S ∧ lfOK nD S.2.1 ∧ spOK S.1 ∧ q3OK nC cu ∧ bnd (S.1 1) 0 (1000 + tm)
theorem d10_all : ∀ k : Fin 101, (fun x : Int32 => 0 ≤ (x / 10).toInt ∧ (x / 10).toInt ≤ 10) (Int32.ofInt (0 + (k.val : Int))) := by decide +kernel
theorem d10 {x : Int32} (h : bnd x 0 100) : bnd (x / 10) 0 10 := by
  unfold bnd at *
  exact i_all (P := fun x : Int32 => 0 ≤ (x / 10).toInt ∧ (x / 10).toInt ≤ 10) 0 101 d10_all (by omega) (by omega)
theorem dLf_b {g : Mx} {i n : Nat} (hg : gOK n g) (hl : lfOK n g) (hi : i < n) : bnd (dLf g i) 0 9999 ∧ (dLf g i).toInt ≤ (g 4 i).toInt := by
  have h1 := d10 (ap_rd (hg i hi).2.1 (hg i hi).2.2.1 (hg i hi).2.2.2).2
  have h2 := hl i hi
  unfold dLf dLv
  generalize hv : ap (g 1 i) (g 2 i) (g 3 i) / 10 = v at *
  unfold bnd at *
  have h3 := i_sub (x := g 4 i) (y := v) (by omega) (by omega)
  have h4 := imax_i 0 (g 4 i - v)
  rw [t0] at h4
  omega
/-- the dimmers behind a tick -/
theorem dGo_o {g : Mx} {k : Nat} : ∀ (n : Nat) (w : Nat), n ≤ k → dGo g n w k = g w k
  | 0, _, _ => rfl
  | n + 1, w, h => by
    show um (um (dGo g n) 4 n (dLf (dGo g n) n)) 1 n _ w k = g w k
    rw [um_o (by omega), um_o (by omega)]
    exact dGo_o n w (by omega)
theorem dSt_o {g : Mx} {i k w : Nat} (h : ¬ k = i) : dSt g i w k = g w k := by
  show um (um g 4 i (dLf g i)) 1 i _ w k = g w k
  rw [um_o h, um_o h]
theorem dLf_c {g g' : Mx} {i : Nat} (h : ∀ w, g' w i = g w i) : dLf g' i = dLf g i ∧ dLv g' i = dLv g i := by
  unfold dLf dLv
  rw [h 1, h 2, h 3, h 4]
  exact ⟨rfl, rfl⟩
theorem dGo_i {g : Mx} {k : Nat} : ∀ (n : Nat), k < n → ∀ w, dGo g n w k = dSt g k w k
  | 0, h, _ => absurd h (Nat.not_lt_zero k)
  | n + 1, h, w => by
    show dSt (dGo g n) n w k = _
    by_cases e : k = n
    · subst e
      obtain ⟨e1, e2⟩ := dLf_c (g := g) (g' := dGo g k) (i := k) (fun w => dGo_o k w (Nat.le_refl k))
      show um (um (dGo g k) 4 k (dLf (dGo g k) k)) 1 k (if dLf (dGo g k) k = 0 then 0 else dLv (dGo g k) k) w k = um (um g 4 k (dLf g k)) 1 k (if dLf g k = 0 then 0 else dLv g k) w k
      rw [e1, e2]
      unfold um
      cases Nat.beq w 1 <;> cases Nat.beq w 4 <;> first | rfl | (show upd _ k _ k = upd _ k _ k; rw [pk_us, pk_us]) | (show dGo g k w k = g w k; exact dGo_o k w (Nat.le_refl k))
    · rw [dSt_o e]
      exact dGo_i n (by omega) w
theorem dSt_0 {g : Mx} {k : Nat} : dSt g k 0 k = g 0 k := rfl
theorem dSt_1 {g : Mx} {k : Nat} : dSt g k 1 k = if dLf g k = 0 then 0 else dLv g k := pk_us
theorem dSt_2 {g : Mx} {k : Nat} : dSt g k 2 k = g 2 k := rfl
theorem dSt_3 {g : Mx} {k : Nat} : dSt g k 3 k = g 3 k := rfl
theorem dSt_4 {g : Mx} {k : Nat} : dSt g k 4 k = dLf g k := (show um g 4 k (dLf g k) 4 k = dLf g k from pk_us)
theorem lf_go {n : Nat} {g : Mx} (hg : gOK n g) (hl : lfOK n g) : lfOK n (dGo g n) := fun i hi => by
  rw [dGo_i n hi, dSt_4]
  exact (dLf_b hg hl hi).1
/-- comets behind a tick -/
theorem cGs_o {c : Mx} {i k w : Nat} (h : ¬ k = i) : cGs c i w k = c w k := by
  unfold cGs
  split
  · rfl
  · rw [um_o h, um_o h]
theorem cGo_o {c : Mx} {k : Nat} : ∀ (n : Nat) (w : Nat), n ≤ k → cGo c n w k = c w k
  | 0, _, _ => rfl
  | n + 1, w, h => by
    show cGs (cGo c n) n w k = c w k
    rw [cGs_o (by omega)]
    exact cGo_o n w (by omega)
theorem cGo_i {c : Mx} {k : Nat} : ∀ (n : Nat), k < n → ∀ w, cGo c n w k = cGs (cGo c k) k w k
  | 0, h, _ => absurd h (Nat.not_lt_zero k)
  | n + 1, h, w => by
    show cGs (cGo c n) n w k = _
    by_cases e : k = n
    · subst e; rfl
    · rw [cGs_o e]
      exact cGo_i n (by omega) w
theorem cGo_z {c : Mx} {k n : Nat} (h : k < n) (hz : c 2 k ≤ 0) (w : Nat) : cGo c n w k = c w k := by
  rw [cGo_i n h, cGs, if_pos (by rw [cGo_o k 2 (Nat.le_refl k)]; exact hz)]
  exact cGo_o k w (Nat.le_refl k)
theorem cGo_p {c : Mx} {k n : Nat} (h : k < n) (hz : ¬ c 2 k ≤ 0) : cGo c n 0 k = tnd (c 0 k) (c 1 k) ∧ cGo c n 1 k = c 1 k ∧ cGo c n 2 k = c 2 k - 1 := by
  have o := fun w => cGo_o (c := c) (k := k) k w (Nat.le_refl k)
  have e : cGs (cGo c k) k = um (um (cGo c k) 0 k (tnd (c 0 k) (c 1 k))) 2 k (c 2 k - 1) := by
    rw [cGs, if_neg (by rw [o 2]; exact hz), o 0, o 1, o 2]
  rw [cGo_i n h, cGo_i n h, cGo_i n h, e]
  exact ⟨(show um (cGo c k) 0 k _ 0 k = _ from pk_us), o 1, pk_us⟩
/-- what the cues of one tick leave as it was -/
theorem ob_5 (S : SH) (k a b : Int32) : (obF S k a b).1 5 = S.1 5 := by
  unfold obF
  repeat (first | rfl | split)
theorem ob_g (S : SH) (k a b : Int32) (w d : Nat) (hw : ¬ w = 2) : (obF S k a b).2.1 w d = S.2.1 w d := by
  unfold obF
  split
  · show um S.2.1 2 _ b w d = S.2.1 w d
    unfold um
    rw [nbf hw]
    rfl
  · repeat (first | rfl | split)
theorem ob_n (S : SH) (k a b : Int32) : S.2.2.1 ≤ (obF S k a b).2.2.1 := by
  unfold obF
  split
  · exact Nat.le_refl _
  · split
    · exact Nat.le_refl _
    · split
      · show S.2.2.1 ≤ cN S.2.2.1
        unfold cN
        split <;> omega
      · repeat (first | exact Nat.le_refl _ | split)
theorem ob_c (S : SH) (k a b : Int32) (w d : Nat) (hd : d < S.2.2.1) : (obF S k a b).2.2.2 w d = S.2.2.2 w d := by
  unfold obF
  split
  · rfl
  · split
    · rfl
    · split
      · show cAdd S.2.2.1 S.2.2.2 a b w d = S.2.2.2 w d
        unfold cAdd
        split
        · rfl
        · rw [um_o (by omega), um_o (by omega), um_o (by omega)]
      · repeat (first | rfl | split)
theorem rc_all (cu : Mx) (t : Int32) (S : SH) : ∀ i : Nat, (rcS cu t S i).1 5 = S.1 5 ∧ (∀ w d : Nat, ¬ w = 2 → (rcS cu t S i).2.1 w d = S.2.1 w d) ∧ S.2.2.1 ≤ (rcS cu t S i).2.2.1 ∧ (∀ w d : Nat, d < S.2.2.1 → (rcS cu t S i).2.2.2 w d = S.2.2.2 w d)
  | 0 => ⟨rfl, fun _ _ _ => rfl, Nat.le_refl _, fun _ _ _ => rfl⟩
  | i + 1 => by
    obtain ⟨a, b, c, d⟩ := rc_all cu t S i
    rw [rcS]
    split
    · refine ⟨(ob_5 _ _ _ _).trans a, fun w x h => (ob_g _ _ _ _ w x h).trans (b w x h), Nat.le_trans c (ob_n _ _ _ _), fun w x h => (ob_c _ _ _ _ w x (by omega)).trans (d w x h)⟩
    · exact ⟨a, b, c, d⟩
theorem rc_none {cu : Mx} {t : Int32} {S : SH} : ∀ i : Nat, rcN cu t i = 0 → rcS cu t S i = S
  | 0, _ => rfl
  | i + 1, h => by
    rw [rcN] at h
    rw [rcS]
    by_cases e : cu 0 i = t
    · rw [if_pos e] at h; omega
    · rw [if_neg e] at h ⊢
      exact rc_none i h
theorem tk1_all (nC : Nat) (cu : Mx) (S : SH) : (tk1 nC cu S).1 5 = S.1 5 ∧ (∀ w d : Nat, ¬ w = 2 → (tk1 nC cu S).2.1 w d = S.2.1 w d) ∧ S.2.2.1 ≤ (tk1 nC cu S).2.2.1 ∧ (∀ w d : Nat, d < S.2.2.1 → (tk1 nC cu S).2.2.2 w d = S.2.2.2 w d) := by
  unfold tk1
  split
  · exact ⟨rfl, fun _ _ _ => rfl, Nat.le_refl _, fun _ _ _ => rfl⟩
  · exact rc_all cu (S.1 1) S nC
theorem tk1_none {nC : Nat} {cu : Mx} {S : SH} (h : tkN nC cu S = 0) : (tk1 nC cu S).1 3 = S.1 3 ∧ (tk1 nC cu S).1 4 = S.1 4 ∧ (tk1 nC cu S).2 = S.2 := by
  unfold tk1
  unfold tkN at h
  by_cases e : S.1 2 = 0
  · rw [if_pos e]; exact ⟨rfl, rfl, rfl⟩
  · rw [if_neg e] at h ⊢
    have h2 := rc_none (S := S) nC h
    show (rcS cu (S.1 1) S nC).1 3 = _ ∧ (rcS cu (S.1 1) S nC).1 4 = _ ∧ (rcS cu (S.1 1) S nC).2 = _
    rw [h2]
    exact ⟨rfl, rfl, rfl⟩
/-- the narrator -/
theorem ob_sp {nC : Nat} {cu : Mx} {S : SH} (h3 : q3OK nC cu) {i : Nat} (hi : i < nC) (hs : spOK S.1) : spOK (obF S (cu 1 i) (cu 2 i) (cu 3 i)).1 := by
  unfold obF
  split
  · exact hs
  · split
    · exact hs
    · split
      · exact hs
      · split
        · rename_i e
          obtain ⟨a, b⟩ := h3 i hi e
          refine ⟨⟨by have := b.1; show (0 : Int) ≤ (cu 3 i).toInt; omega, b.2⟩, fun z => ?_, fun _ => a⟩
          have z : cu 3 i = 0 := z
          have := b.1
          rw [z, t0] at this
          omega
        · split
          · exact hs
          · exact hs
theorem rc_sp {nC : Nat} {cu : Mx} {S : SH} (h3 : q3OK nC cu) (hs : spOK S.1) (t : Int32) : ∀ i : Nat, i ≤ nC → spOK (rcS cu t S i).1
  | 0, _ => hs
  | i + 1, hi => by
    rw [rcS]
    split
    · exact ob_sp h3 (by omega) (rc_sp h3 hs t i (by omega))
    · exact rc_sp h3 hs t i (by omega)
theorem tk1_sp {nC : Nat} {cu : Mx} {S : SH} (h3 : q3OK nC cu) (hs : spOK S.1) : spOK (tk1 nC cu S).1 := by
  unfold tk1
  split
  · exact hs
  · exact rc_sp h3 hs (S.1 1) nC (Nat.le_refl _)
theorem spk_sp {nu : Nat → Int32} (h : spOK nu) : spOK (spk nu) := by
  obtain ⟨⟨a1, a2⟩, b, c⟩ := h
  have h4 : (spk nu) 4 = sp4 nu := rfl
  have h3 : (spk nu) 3 = sp3 nu := rfl
  have hs : bnd (sp4 nu) 0 60 := by
    unfold sp4
    split
    · exact ⟨a1, a2⟩
    · rename_i z
      have z2 : ¬ (nu 4).toInt ≤ 0 := fun q => z (tl.mpr (by rw [t0]; exact q))
      have := i_sub (x := nu 4) (y := 1) (by rw [t1]; omega) (by rw [t1]; omega)
      rw [t1] at this
      exact ⟨by omega, by omega⟩
  refine ⟨hs, fun z => ?_, fun z => ?_⟩
  · rw [h3, sp3, if_pos (by rw [← h4]; exact z)]
  · have z2 : ¬ sp4 nu = 0 := fun q => z (by rw [h4]; exact q)
    rw [h3, sp3, if_neg z2]
    refine c (fun q => z2 ?_)
    rw [sp4, if_pos (by rw [q]; decide)]
    exact q
theorem tk_sp {nD nC : Nat} {cu : Mx} {S : SH} (h3 : q3OK nC cu) (hs : spOK S.1) : spOK (tk nD nC cu S).1 := by
  have h1 : spOK (tk2 (tk1 nC cu S).1) := tk1_sp h3 hs
  exact spk_sp h1
theorem rc_lf {nD nC : Nat} {cu : Mx} {S : SH} (h : lfOK nD S.2.1) : lfOK nD (tk1 nC cu S).2.1 := fun i hi => by
  rw [(tk1_all nC cu S).2.1 4 i (by decide)]
  exact h i hi
theorem tk_clock (nD nC : Nat) (cu : Mx) (S : SH) : (tk nD nC cu S).1 1 = if S.1 2 = 0 then S.1 1 else S.1 1 + 1 := by
  show (tk1 nC cu S).1 1 = _
  unfold tk1
  split
  · rfl
  · rfl
theorem tk_pOK {tm nD nT nC : Nat} {st cu : Mx} {S : SH} (ht : tm < 1000) (h : pOK tm nD nT nC st cu S) : pOK (tm + 1) nD nT nC st cu (tk nD nC cu S) := by
  obtain ⟨⟨h1, h2, h3, h4, h5, h6⟩, hl, hs, hq, hc⟩ := h
  refine ⟨⟨h1, h2, h3, tk_OK h4 h6, h5, h6⟩, ?_, tk_sp hq hs, hq, ?_⟩
  · exact lf_go (tk1_OK h4 h6).2.1 (rc_lf hl)
  · rw [tk_clock]
    unfold bnd at *
    split
    · omega
    · have := i_add (x := S.1 1) (y := 1) (by rw [t1]; omega) (by rw [t1]; omega)
      rw [t1] at this
      omega
theorem pOK.up {tm tm' nD nT nC : Nat} {st cu : Mx} {S : SH} (h : pOK tm nD nT nC st cu S) (ht : tm ≤ tm') : pOK tm' nD nT nC st cu S := by
  obtain ⟨a, b, c, d, e⟩ := h
  exact ⟨a, b, c, d, e.1, by have := e.2; omega⟩
