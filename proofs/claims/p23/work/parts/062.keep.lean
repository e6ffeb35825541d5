/-! what the law's walk keeps between its calls -/
def nOK (nD nT nC : Nat) (st cu : Mx) (S : SH) : Prop := nD ≤ 8 ∧ nT ≤ 20 ∧ nC ≤ 24 ∧ SOK nD S ∧ tOK nT st ∧ qOK nD nC cu
theorem sel_0 {α : Type} {k : Int32} {a b : α} (h : k = 0) : sel k a b = a := if_pos h
theorem sel_1 {α : Type} {k : Int32} {a b : α} (h : ¬ k = 0) : sel k a b = b := if_neg h
theorem qOK.mono {nD n' nC : Nat} {cu : Mx} (h : qOK nD nC cu) (hn : nD ≤ n') : qOK n' nC cu := fun i hi => by
  obtain ⟨a, b, c, d⟩ := h i hi
  refine ⟨a, b, fun e => ?_, d⟩
  obtain ⟨⟨j, hj, e1⟩, e2⟩ := c e
  exact ⟨⟨j, by omega, e1⟩, e2⟩
theorem dAdd_OK {n : Nat} {g : Mx} (h : gOK n g) {a b x : Int32} (ha : bnd a 0 11) (hb : bnd b 1 50) : gOK (n + 1) (dAdd g n a b x) := by
  intro k hk
  show bnd (upd (g 0) n a k) 0 11 ∧ bnd (upd (g 1) n 0 k) 0 100 ∧ bnd (upd (g 2) n 0 k) 0 100 ∧ bnd (upd (g 3) n b k) 1 50
  unfold upd
  by_cases e : k = n
  · rw [if_pos e, if_pos e, if_pos e, if_pos e]
    exact ⟨ha, ⟨by decide, by decide⟩, ⟨by decide, by decide⟩, hb⟩
  · rw [if_neg e, if_neg e, if_neg e, if_neg e]
    exact h k (by omega)
theorem nOK_dim {nD nT nC : Nat} {st cu : Mx} {S : SH} {a b x : Int32} (h : nOK nD nT nC st cu S) : nOK (sel (kDim nD a b x) (nD + 1) nD) nT nC st cu (S.1, sel (kDim nD a b x) (dAdd S.2.1 nD a b x) S.2.1, S.2.2.1, S.2.2.2) := by
  obtain ⟨h1, h2, h3, ⟨s1, s2, s3, s4⟩, h5, h6⟩ := h
  by_cases hk : kDim nD a b x = 0
  · rw [sel_0 hk, sel_0 hk]
    unfold kDim at hk
    by_cases c1 : wiI a 0 11 = 0
    · rw [if_pos c1] at hk; exact absurd hk (by decide)
    rw [if_neg c1] at hk
    by_cases c2 : wiI b 1 50 = 0
    · rw [if_pos c2] at hk; exact absurd hk (by decide)
    rw [if_neg c2] at hk
    by_cases c3 : wiI x 0 9999 = 0
    · rw [if_pos c3] at hk; exact absurd hk (by decide)
    rw [if_neg c3] at hk
    by_cases c4 : 8 ≤ nD
    · rw [if_pos c4] at hk; exact absurd hk (by decide)
    exact ⟨by omega, h2, h3, ⟨s1, dAdd_OK s2 (wi_bnd c1 (by decide) (by decide)) (wi_bnd c2 (by decide) (by decide)), s3, s4⟩, h5, h6.mono (by omega)⟩
  · rw [sel_1 hk, sel_1 hk]
    exact ⟨h1, h2, h3, ⟨s1, s2, s3, s4⟩, h5, h6⟩
theorem laF_OK {n : Nat} {g : Mx} (h : gOK n g) (j : Nat) (x : Int32) : gOK n (laF g j x) := by
  unfold laF
  split
  · intro k hk
    obtain ⟨a, b, c⟩ := h k hk
    refine ⟨a, ?_, c⟩
    show bnd (upd (g 1) j 0 k) 0 100
    unfold upd
    split
    · exact ⟨by decide, by decide⟩
    · exact b
  · exact fun k hk => h k hk
theorem nOK_lamp {nD nT nC : Nat} {st cu : Mx} {S : SH} {k : Int32} {j : Nat} {x : Int32} (h : nOK nD nT nC st cu S) : nOK nD nT nC st cu (S.1, sel k (laF S.2.1 j x) S.2.1, S.2.2.1, S.2.2.2) := by
  obtain ⟨h1, h2, h3, ⟨s1, s2, s3, s4⟩, h5, h6⟩ := h
  by_cases hk : k = 0
  · rw [sel_0 hk]
    exact ⟨h1, h2, h3, ⟨s1, laF_OK s2 j x, s3, s4⟩, h5, h6⟩
  · rw [sel_1 hk]
    exact ⟨h1, h2, h3, ⟨s1, s2, s3, s4⟩, h5, h6⟩
theorem nOK_star {nD nT nC : Nat} {st cu : Mx} {S : SH} {a b : Int32} (h : nOK nD nT nC st cu S) : nOK nD (sel (kStar nT a b) (nT + 1) nT) nC (sel (kStar nT a b) (sAdd st nT a b) st) cu S := by
  obtain ⟨h1, h2, h3, h4, h5, h6⟩ := h
  by_cases hk : kStar nT a b = 0
  · rw [sel_0 hk, sel_0 hk]
    unfold kStar at hk
    by_cases c1 : wiI a 0 359 = 0
    · rw [if_pos c1] at hk; exact absurd hk (by decide)
    rw [if_neg c1] at hk
    by_cases c2 : wiI b 1 9 = 0
    · rw [if_pos c2] at hk; exact absurd hk (by decide)
    rw [if_neg c2] at hk
    by_cases c4 : 20 ≤ nT
    · rw [if_pos c4] at hk; exact absurd hk (by decide)
    refine ⟨h1, by omega, h3, h4, fun k hk => ?_, h6⟩
    show bnd (upd (st 0) nT a k) 0 359
    unfold upd
    split
    · exact wi_bnd c1 (by decide) (by decide)
    · exact h5 k (by omega)
  · rw [sel_1 hk, sel_1 hk]
    exact ⟨h1, h2, h3, h4, h5, h6⟩
theorem su_ok {n : Nat} {k a b : Int32} (h : ¬ suI n k a b = 0) : (k = 0 → (∃ j : Nat, j < n ∧ a = nI j) ∧ bnd b 0 100) ∧ (k = 1 → bnd b (-30) 30) ∧ (k = 2 → bnd a 0 359 ∧ bnd b (-20) 20) := by
  refine ⟨fun e => ?_, fun e => ?_, fun e => ?_⟩
  · subst e
    rw [suI, if_pos rfl] at h
    by_cases c1 : hasI n a = 0
    · rw [if_pos c1] at h; exact absurd rfl h
    rw [if_neg c1] at h
    by_cases c2 : wiI b 0 100 = 0
    · rw [if_pos c2] at h; exact absurd rfl h
    exact ⟨hasI_k c1, wi_bnd c2 (by decide) (by decide)⟩
  · subst e
    rw [suI, if_neg (by decide), if_pos rfl] at h
    by_cases c1 : a = 0
    · rw [if_pos c1] at h
      by_cases c2 : wiI b (-30) 30 = 0
      · rw [if_pos c2] at h; exact absurd rfl h
      exact wi_bnd c2 (by decide) (by decide)
    · rw [if_neg c1] at h; exact absurd rfl h
  · subst e
    rw [suI, if_neg (by decide), if_neg (by decide), if_pos rfl] at h
    by_cases c1 : wiI a 0 359 = 0
    · rw [if_pos c1] at h; exact absurd rfl h
    rw [if_neg c1] at h
    by_cases c2 : wiI b (-20) 20 = 0
    · rw [if_pos c2] at h; exact absurd rfl h
    exact ⟨wi_bnd c1 (by decide) (by decide), wi_bnd c2 (by decide) (by decide)⟩
theorem nOK_cue {nD nT nC : Nat} {st cu : Mx} {S : SH} {t k a b : Int32} (h : nOK nD nT nC st cu S) : nOK nD nT (sel (kCue nD nC t k a b) (nC + 1) nC) st (sel (kCue nD nC t k a b) (uAdd cu nC t k a b) cu) S := by
  obtain ⟨h1, h2, h3, h4, h5, h6⟩ := h
  by_cases hk : kCue nD nC t k a b = 0
  · rw [sel_0 hk, sel_0 hk]
    unfold kCue at hk
    by_cases c1 : wiI t 0 999 = 0
    · rw [if_pos c1] at hk; exact absurd hk (by decide)
    rw [if_neg c1] at hk
    by_cases c2 : wiI k 0 4 = 0
    · rw [if_pos c2] at hk; exact absurd hk (by decide)
    rw [if_neg c2] at hk
    by_cases c3 : suI nD k a b = 0
    · rw [if_pos c3] at hk; exact absurd hk (by decide)
    rw [if_neg c3] at hk
    by_cases c4 : 24 ≤ nC
    · rw [if_pos c4] at hk; exact absurd hk (by decide)
    refine ⟨h1, h2, by omega, h4, h5, fun i hi => ?_⟩
    show bnd (upd (cu 0) nC t i) 0 999 ∧ bnd (upd (cu 1) nC k i) 0 4 ∧ (upd (cu 1) nC k i = 0 → (∃ j : Nat, j < nD ∧ upd (cu 2) nC a i = nI j) ∧ bnd (upd (cu 3) nC b i) 0 100) ∧ (upd (cu 1) nC k i = 1 → bnd (upd (cu 3) nC b i) (-30) 30) ∧ (upd (cu 1) nC k i = 2 → bnd (upd (cu 2) nC a i) 0 359 ∧ bnd (upd (cu 3) nC b i) (-20) 20)
    unfold upd
    by_cases e : i = nC
    · simp only [if_pos e]
      exact ⟨wi_bnd c1 (by decide) (by decide), wi_bnd c2 (by decide) (by decide), su_ok c3⟩
    · simp only [if_neg e]
      exact h6 i (by omega)
  · rw [sel_1 hk, sel_1 hk]
    exact ⟨h1, h2, h3, h4, h5, h6⟩
theorem nOK_run {nD nT nC : Nat} {st cu : Mx} {S : SH} (h : nOK nD nT nC st cu S) : nOK nD nT nC st cu (un S.1 2 (swI (S.1 2)), S.2) := by
  obtain ⟨h1, h2, h3, ⟨s1, s2, s3, s4, s5⟩, h5, h6⟩ := h
  refine ⟨h1, h2, h3, ⟨s1, s2, s3, ?_, s5⟩, h5, h6⟩
  show swI (S.1 2) = 0 ∨ swI (S.1 2) = 1
  unfold swI
  split
  · exact Or.inr rfl
  · exact Or.inl rfl
theorem nOK_jump {nD nT nC : Nat} {st cu : Mx} {S : SH} {k x : Int32} (h : nOK nD nT nC st cu S) : nOK nD nT nC st cu (sel k (un S.1 1 x) S.1, S.2) := by
  by_cases hk : k = 0
  · rw [sel_0 hk]
    obtain ⟨h1, h2, h3, ⟨s1, s2, s3, s4, s5⟩, h5, h6⟩ := h
    exact ⟨h1, h2, h3, ⟨s1, s2, s3, s4, s5⟩, h5, h6⟩
  · rw [sel_1 hk]
    exact h
theorem nOK_fade {nD nT nC : Nat} {st cu : Mx} {S : SH} {d x : Int32} {j : Nat} (h : nOK nD nT nC st cu S) : nOK nD nT nC st cu (S.1, sel (kFade nD d x) (um S.2.1 2 j x) S.2.1, S.2.2.1, S.2.2.2) := by
  obtain ⟨h1, h2, h3, ⟨s1, s2, s3, s4⟩, h5, h6⟩ := h
  by_cases hk : kFade nD d x = 0
  · rw [sel_0 hk]
    unfold kFade at hk
    by_cases c1 : hasI nD d = 0
    · rw [if_pos c1] at hk; exact absurd hk (by decide)
    rw [if_neg c1] at hk
    by_cases c2 : wiI x 0 100 = 0
    · rw [if_pos c2] at hk; exact absurd hk (by decide)
    exact ⟨h1, h2, h3, ⟨s1, gaim_OK s2 (wi_bnd c2 (by decide) (by decide)), s3, s4⟩, h5, h6⟩
  · rw [sel_1 hk]
    exact ⟨h1, h2, h3, ⟨s1, s2, s3, s4⟩, h5, h6⟩
theorem nOK_pass {nD nT nC : Nat} {st cu : Mx} {S : SH} {k : Int32} {i : Nat} (h : nOK nD nT nC st cu S) : nOK nD nT nC st cu (sel k (tkI nD nC cu S i) S) := by
  by_cases hk : k = 0
  · rw [sel_0 hk]
    obtain ⟨h1, h2, h3, h4, h5, h6⟩ := h
    exact ⟨h1, h2, h3, tkI_OK h4 h6 i, h5, h6⟩
  · rw [sel_1 hk]
    exact h
