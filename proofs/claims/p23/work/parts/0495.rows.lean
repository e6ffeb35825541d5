/-! small rows for the reference's face -/
theorem wi_bnd {x l h : Int32} {lo hi : Int} (hw : ¬ wiI x l h = 0) (h1 : l.toInt = lo) (h2 : h.toInt = hi) : bnd x lo hi := by
  unfold wiI at hw
  by_cases a : x < l
  · rw [if_pos a] at hw; exact absurd rfl hw
  · rw [if_neg a] at hw
    by_cases b : h < x
    · rw [if_pos b] at hw; exact absurd rfl hw
    · have a2 : ¬ x.toInt < l.toInt := fun q => a (Int32.lt_iff_toInt_lt.mpr q)
      have b2 : ¬ h.toInt < x.toInt := fun q => b (Int32.lt_iff_toInt_lt.mpr q)
      exact ⟨by omega, by omega⟩
theorem dkB_le (f : Nat → Int32) : ∀ i : Nat, dkB f i ≤ i
  | 0 => Nat.le_refl _
  | i + 1 => by
    have h := dkB_le f i
    rw [dkB]
    split <;> omega
theorem wi_hw {cu : Mx} {f t : Int32} {i : Nat} (ht : bnd t 0 999) (h : cu 1 i = 4) : wiI (cu 0 i) f (t - 1) = hw1 cu f t i := by
  unfold wiI hw1
  rw [if_pos h]
  have h1 : (1 : Int32).toInt = 1 := by decide
  have h2 := i_sub (x := t) (y := 1) (by have := ht.1; omega) (by have := ht.2; omega)
  by_cases a : cu 0 i < f
  · rw [if_pos a, if_pos a]
  · rw [if_neg a, if_neg a]
    by_cases b : t ≤ cu 0 i
    · rw [if_pos b, if_pos]
      have := Int32.le_iff_toInt_le.mp b
      exact Int32.lt_iff_toInt_lt.mpr (by omega)
    · rw [if_neg b, if_neg]
      intro q
      have q2 := Int32.lt_iff_toInt_lt.mp q
      exact b (Int32.le_iff_toInt_le.mpr (by omega))
theorem su_kd {n : Nat} {k a b : Int32} (h : ¬ suI n k a b = 0) : ¬ wiI k 0 4 = 0 := by
  intro hw
  apply h
  have e : ¬ (k = 0 ∨ k = 1 ∨ k = 2 ∨ k = 3 ∨ k = 4) := by
    rintro (rfl | rfl | rfl | rfl | rfl) <;> exact absurd hw (by decide)
  simp only [not_or] at e
  rw [suI, if_neg e.1, if_neg e.2.1, if_neg e.2.2.1, if_neg e.2.2.2.1, if_neg e.2.2.2.2]
