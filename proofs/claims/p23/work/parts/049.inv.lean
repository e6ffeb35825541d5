/-! the reference's rows of numbers, and what stays true of the show -/
theorem nbf {a b : Nat} (h : ¬ a = b) : Nat.beq a b = false := by
  cases hb : Nat.beq a b with
  | false => rfl
  | true => exact absurd (Nat.eq_of_beq_eq_true hb) h
theorem nbt (a : Nat) : Nat.beq a a = true := Nat.beq_refl a
def fl (b : Nat) (g : Mx) : Nat → Int32 := fun j => g (j % b) (j / b)
theorem fl_m {b d w : Nat} (h : w < b) : (b * d + w) % b = w ∧ (b * d + w) / b = d := by
  refine ⟨?_, ?_⟩
  · rw [Nat.mul_add_mod, Nat.mod_eq_of_lt h]
  · rw [Nat.mul_add_div (by omega), Nat.div_eq_of_lt h, Nat.add_zero]
theorem fl_r {b : Nat} {g : Mx} {d w : Nat} (h : w < b) : fl b g (b * d + w) = g w d := by
  unfold fl
  rw [(fl_m h).1, (fl_m h).2]
theorem fl_w {b : Nat} {g : Mx} {d w : Nat} {x : Int32} (h : w < b) : upd (fl b g) (b * d + w) x = fl b (um g w d x) := by
  funext j
  have hm := Nat.div_add_mod j b
  unfold upd fl um
  by_cases e : j = b * d + w
  · subst e
    rw [if_pos rfl, (fl_m h).1, (fl_m h).2, nbt]
    exact pk_us.symm
  · rw [if_neg e]
    by_cases hw : j % b = w
    · have hd : ¬ j / b = d := fun q => e (by rw [← hm, q, hw])
      rw [hw, nbt]
      exact (pk_un hd).symm
    · rw [nbf hw]
      rfl
theorem fl_r0 {b : Nat} {g : Mx} {d : Nat} (h : 0 < b) : fl b g (b * d) = g 0 d := fl_r (w := 0) h
theorem fl_w0 {b : Nat} {g : Mx} {d : Nat} {x : Int32} (h : 0 < b) : upd (fl b g) (b * d) x = fl b (um g 0 d x) := fl_w (w := 0) h
def numA (nu : Nat → Int32) (n : Nat) : Nat → Int32 := fun j => cond (Nat.beq j 7) (nI n) (nu j)
theorem nu_w {nu : Nat → Int32} {n k : Nat} {x : Int32} (h : Nat.beq k 7 = false) : upd (numA nu n) k x = numA (un nu k x) n := by
  funext j
  unfold upd numA un
  by_cases e : j = k
  · subst e
    rw [if_pos rfl, h, nbt]
    rfl
  · rw [if_neg e, nbf e]
    rfl
theorem nu_7 {nu : Nat → Int32} {n m : Nat} : upd (numA nu n) 7 (nI m) = numA nu m := by
  funext j
  unfold upd numA
  by_cases e : j = 7
  · subst e; rfl
  · rw [if_neg e, nbf e]
    rfl
theorem un_self {nu : Nat → Int32} {k : Nat} : un nu k (nu k) = nu := by
  funext j
  unfold un
  by_cases e : j = k
  · subst e; rw [nbt]; rfl
  · rw [nbf e]; rfl
theorem wi_has {n : Nat} {d : Int32} (hn : n ≤ 1000) : wiI d 0 (nI n - 1) = hasI n d := by
  unfold wiI hasI
  by_cases h : d < 0
  · rw [if_pos h, if_pos h]
  · rw [if_neg h, if_neg h]
    have h1 : (1 : Int32).toInt = 1 := by decide
    have h2 := nI_toInt (show n < 2 ^ 31 by omega)
    have h3 := i_sub (x := nI n) (y := 1) (by omega) (by omega)
    by_cases h4 : nI n ≤ d
    · rw [if_pos h4, if_pos]
      have := Int32.le_iff_toInt_le.mp h4
      exact Int32.lt_iff_toInt_lt.mpr (by omega)
    · rw [if_neg h4, if_neg]
      intro q
      have q2 := Int32.lt_iff_toInt_lt.mp q
      exact h4 (Int32.le_iff_toInt_le.mpr (by omega))
theorem bnd0 {lo hi : Int} (h1 : lo ≤ 0) (h2 : 0 ≤ hi) : bnd 0 lo hi := ⟨h1, h2⟩
theorem dSt_OK {n : Nat} {g : Mx} (h : gOK n g) {i : Nat} (hi : i < n) : gOK n (dSt g i) := by
  intro k hk
  obtain ⟨a, b, c, d⟩ := h k hk
  refine ⟨a, ?_, c, d⟩
  show bnd (upd (g 1) i (if dLf g i = 0 then 0 else dLv g i) k) 0 100
  unfold upd
  split
  · split
    · exact bnd0 (by decide) (by decide)
    · obtain ⟨-, b2, c2, d2⟩ := h i hi
      exact (ap_rd b2 c2 d2).2
  · exact b
theorem dGo_OK {n : Nat} {g : Mx} (h : gOK n g) : ∀ i : Nat, i ≤ n → gOK n (dGo g i)
  | 0, _ => h
  | i + 1, hi => dSt_OK (dGo_OK h i (by omega)) (by omega)
theorem cGs_OK {n : Nat} {c : Mx} (h : cOK n c) {i : Nat} (hi : i < n) : cOK n (cGs c i) := by
  unfold cGs
  split
  · exact h
  · rename_i hz
    intro k hk
    obtain ⟨a, b, e⟩ := h k hk
    obtain ⟨a2, b2, e2⟩ := h i hi
    refine ⟨?_, b, ?_⟩
    · show bnd (upd (c 0) i (tnd (c 0 i) (c 1 i)) k) 0 359
      unfold upd
      split
      · exact (tnd_rd a2 ⟨by have := b2.1; omega, by have := b2.2; omega⟩).2
      · exact a
    · show bnd (upd (c 2) i (c 2 i - 1) k) 0 20
      unfold upd
      split
      · have h1 : (1 : Int32).toInt = 1 := by decide
        have h0 : (0 : Int32).toInt = 0 := by decide
        have hz2 : ¬ (c 2 i).toInt ≤ 0 := fun q => hz (Int32.le_iff_toInt_le.mpr (by omega))
        obtain ⟨e3, e4⟩ := e2
        have h3 := i_sub (x := c 2 i) (y := 1) (by omega) (by omega)
        exact ⟨by omega, by omega⟩
      · exact e
theorem cGo_OK {n : Nat} {c : Mx} (h : cOK n c) : ∀ i : Nat, i ≤ n → cOK n (cGo c i)
  | 0, _ => h
  | i + 1, hi => cGs_OK (cGo_OK h i (by omega)) (by omega)
theorem cAdd_OK {n : Nat} {c : Mx} (h : cOK n c) {a b : Int32} (ha : bnd a 0 359) (hb : bnd b (-20) 20) : cOK (cN n) (cAdd n c a b) := by
  unfold cN cAdd
  split
  · exact h
  · intro k hk
    show bnd (upd (c 0) n a k) 0 359 ∧ bnd (upd (c 1) n b k) (-20) 20 ∧ bnd (upd (c 2) n 20 k) 0 20
    unfold upd
    by_cases e : k = n
    · rw [if_pos e, if_pos e, if_pos e]
      exact ⟨ha, hb, ⟨by decide, by decide⟩⟩
    · rw [if_neg e, if_neg e, if_neg e]
      exact h k (by omega)
theorem gaim_OK {n : Nat} {g : Mx} (h : gOK n g) {j : Nat} {b : Int32} (hb : bnd b 0 100) : gOK n (um g 2 j b) := by
  intro k hk
  obtain ⟨a, b1, c, d⟩ := h k hk
  refine ⟨a, b1, ?_, d⟩
  show bnd (upd (g 2) j b k) 0 100
  unfold upd
  split
  · exact hb
  · exact c
theorem kind4 {x : Int32} (h : bnd x 0 4) (h0 : ¬ x = 0) (h1 : ¬ x = 1) (h2 : ¬ x = 2) (h3 : ¬ x = 3) : x = 4 := by
  obtain ⟨a, b⟩ := h
  have e0 : ¬ x.toInt = 0 := fun q => h0 (Int32.toInt_inj.mp q)
  have e1 : ¬ x.toInt = 1 := fun q => h1 (Int32.toInt_inj.mp q)
  have e2 : ¬ x.toInt = 2 := fun q => h2 (Int32.toInt_inj.mp q)
  have e3 : ¬ x.toInt = 3 := fun q => h3 (Int32.toInt_inj.mp q)
  exact Int32.toInt_inj.mp (show x.toInt = 4 by omega)
theorem obF_OK {nD nC : Nat} {cu : Mx} {S : SH} (hS : SOK nD S) (hq : qOK nD nC cu) {i : Nat} (hi : i < nC) : SOK nD (obF S (cu 1 i) (cu 2 i) (cu 3 i)) := by
  obtain ⟨h1, h2, h3, h4, h5, h6⟩ := hS
  obtain ⟨-, q1, q2, q3, q4⟩ := hq i hi
  unfold obF
  by_cases e0 : cu 1 i = 0
  · rw [if_pos e0]
    exact ⟨h1, gaim_OK h2 (q2 e0).2, h3, h4, h5, h6⟩
  · rw [if_neg e0]
    by_cases e1 : cu 1 i = 1
    · rw [if_pos e1]
      exact ⟨h1, h2, h3, h4, h5, q3 e1⟩
    · rw [if_neg e1]
      by_cases e2 : cu 1 i = 2
      · rw [if_pos e2]
        exact ⟨cN_le h1, h2, cAdd_OK h3 (q4 e2).1 (q4 e2).2, h4, h5, h6⟩
      · rw [if_neg e2]
        by_cases e3 : cu 1 i = 3
        · rw [if_pos e3]
          exact ⟨h1, h2, h3, h4, h5, h6⟩
        · rw [if_neg e3]
          by_cases e4 : cu 1 i = 4
          · rw [if_pos e4]
            exact ⟨h1, h2, h3, Or.inl rfl, h5, h6⟩
          · rw [if_neg e4]
            exact ⟨h1, h2, h3, h4, h5, h6⟩
theorem rcS_OK {nD nC : Nat} {cu : Mx} {S : SH} (hS : SOK nD S) (hq : qOK nD nC cu) (t : Int32) : ∀ i : Nat, i ≤ nC → SOK nD (rcS cu t S i)
  | 0, _ => hS
  | i + 1, hi => by
    rw [rcS]
    split
    · exact obF_OK (rcS_OK hS hq t i (by omega)) hq (by omega)
    · exact rcS_OK hS hq t i (by omega)
theorem rnS_OK {nD nC : Nat} {cu : Mx} {S : SH} (hS : SOK nD S) (hq : qOK nD nC cu) : SOK nD (rnS nC cu S) := rcS_OK hS hq (S.1 1) nC (Nat.le_refl _)
theorem tk1_OK {nD nC : Nat} {cu : Mx} {S : SH} (hS : SOK nD S) (hq : qOK nD nC cu) : SOK nD (tk1 nC cu S) := by
  unfold tk1
  split
  · exact hS
  · exact rnS_OK hS hq
theorem tkE_OK {nD : Nat} {S : SH} (hS : SOK nD S) : SOK nD (tkE nD S) := by
  obtain ⟨h1, h2, h3, h4, h5, h6⟩ := hS
  exact ⟨h1, dGo_OK h2 nD (Nat.le_refl _), cGo_OK h3 _ (Nat.le_refl _), h4, (tnd_rd h5 h6).2, h6⟩
theorem tk_OK {nD nC : Nat} {cu : Mx} {S : SH} (hS : SOK nD S) (hq : qOK nD nC cu) : SOK nD (tk nD nC cu S) := tkE_OK (tk1_OK hS hq)
theorem tkI_OK {nD nC : Nat} {cu : Mx} {S : SH} (hS : SOK nD S) (hq : qOK nD nC cu) : ∀ i : Nat, SOK nD (tkI nD nC cu S i)
  | 0 => hS
  | i + 1 => tk_OK (tkI_OK hS hq i) hq
theorem ss_add (n : Nat) (g st : Mx) (ball : Int32) (i : Nat) : nI (ssN n g st ball i) + fcS n g st ball i 3 = nI (ssN n g st ball (i + 1)) := by
  show nI (ssN n g st ball i) + ssI n g st ball i = nI (if ssI n g st ball i = 0 then ssN n g st ball i else ssN n g st ball i + 1)
  rcases ssI_b n g st ball i with h | h
  · rw [h, if_pos rfl]; exact Int32.add_zero _
  · rw [h, if_neg (by decide)]; exact nI_1 _
theorem cs_add (n : Nat) (g ct : Mx) (i : Nat) : nI (csN n g ct i) + fcK n g ct i 3 = nI (csN n g ct (i + 1)) := by
  show nI (csN n g ct i) + csI n g ct i = nI (if csI n g ct i = 0 then csN n g ct i else csN n g ct i + 1)
  rcases csI_b n g ct i with h | h
  · rw [h, if_pos rfl]; exact Int32.add_zero _
  · rw [h, if_neg (by decide)]; exact nI_1 _
theorem jN_fl (b : Nat) (g : Mx) (hb : 0 < b) (d : Int64) : ∀ n : Nat, jN (fl b g) (b * n) d = jM (fun i w => g w i) b n d
  | 0 => rfl
  | n + 1 => by
    have h : ∀ m : Nat, m ≤ b → jN (fl b g) (b * n + m) d = jN (fun w => g w n) m (jM (fun i w => g w i) b n d) := by
      intro m
      induction m with
      | zero => intro _; exact jN_fl b g hb d n
      | succ m ih =>
        intro hm
        show jo (jN (fl b g) (b * n + m) d) (fl b g (b * n + m)) = jo (jN (fun w => g w n) m (jM (fun i w => g w i) b n d)) (g m n)
        rw [ih (by omega), fl_r (by omega)]
    have h2 := h b (Nat.le_refl _)
    rw [Nat.mul_succ]
    exact h2
