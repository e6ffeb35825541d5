/-! the face: which exception (0: none; the first or the second that its head names), and what it does to the state -/
def sel {α : Type} (k : Int32) (a b : α) : α := if k = 0 then a else b
theorem hasI_k {n : Nat} {i : Int32} (h : ¬ hasI n i = 0) : ∃ k, k < n ∧ i = nI k := by
  rcases hasI_c n i with ⟨-, k, hk, e⟩ | ⟨e, -⟩
  · exact ⟨k, hk, e⟩
  · exact absurd e h
theorem wi_n {x lo hi : Int32} {n : Nat} (h : ¬ wiI x lo hi = 0) (h0 : 0 ≤ lo) (hh : hi.toInt = n) : ∃ j, j ≤ n ∧ x = nI j := by
  unfold wiI at h
  by_cases h1 : x < lo
  · rw [if_pos h1] at h; exact absurd rfl h
  · rw [if_neg h1] at h
    by_cases h2 : hi < x
    · rw [if_pos h2] at h; exact absurd rfl h
    · have h3 := Int32.le_iff_toInt_le.mp h0
      have h4 : ¬ x.toInt < lo.toInt := fun q => h1 (Int32.lt_iff_toInt_lt.mpr q)
      have h5 : ¬ hi.toInt < x.toInt := fun q => h2 (Int32.lt_iff_toInt_lt.mpr q)
      have h6 : (0 : Int32).toInt = 0 := by decide
      exact nI_of2 hh (fun q => by have := Int32.lt_iff_toInt_lt.mp q; omega) (Int32.le_iff_toInt_le.mpr (by omega))
def kDim (n : Nat) (a b c : Int32) : Int32 := if wiI a 0 11 = 0 then 1 else if wiI b 1 50 = 0 then 1 else if wiI c 0 9999 = 0 then 1 else if 8 ≤ n then 2 else 0
def kLamp (n : Nat) (d x : Int32) : Int32 := if hasI n d = 0 then 1 else if wiI x 0 9999 = 0 then 2 else 0
def kStar (n : Nat) (a b : Int32) : Int32 := if wiI a 0 359 = 0 then 1 else if wiI b 1 9 = 0 then 1 else if 20 ≤ n then 2 else 0
def kCue (nD nC : Nat) (t k a b : Int32) : Int32 := if wiI t 0 999 = 0 then 1 else if wiI k 0 4 = 0 then 1 else if suI nD k a b = 0 then 1 else if 24 ≤ nC then 2 else 0
def kJump (t : Int32) : Int32 := if wiI t 0 1000 = 0 then 1 else 0
def kFade (n : Nat) (d x : Int32) : Int32 := if hasI n d = 0 then 1 else if wiI x 0 100 = 0 then 2 else 0
def kPass (t : Int32) : Int32 := if wiI t 1 500 = 0 then 1 else 0
def kTold (n : Nat) (d w : Int32) : Int32 := if hasI n d = 0 then 1 else if wiI w 0 4 = 0 then 1 else 0
def kGlare (p : Int32) : Int32 := if wiI p 0 11 = 0 then 1 else 0
def kThree (n : Nat) (d w : Int32) : Int32 := if hasI n d = 0 then 1 else if wiI w 0 3 = 0 then 1 else 0
def kCount (w : Int32) : Int32 := if wiI w 0 12 = 0 then 1 else 0
def kHas (n : Nat) (d : Int32) : Int32 := if hasI n d = 0 then 1 else 0
def kFore (t w : Int32) : Int32 := if wiI t 1 500 = 0 then 1 else if fsI w = 0 then 2 else 0
def ix (d : Int32) : Nat := d.toNatClampNeg
theorem ix_n {k : Nat} (h : k < 1000) : ix (nI k) = k := nI_clamp (by omega)
def whI (nC : Nat) (cu : Mx) (nu : Nat → Int32) (c : Nat) : Int32 := if nu 2 = 0 then -1 else if cu 0 c < nu 1 then -1 else if hwI cu (nu 1) (cu 0 c) nC = 0 then cu 0 c - nu 1 + 1 else -1
def lsH (nD nC : Nat) (cu : Mx) (S : SH) (d : Nat) : Nat → Int32 := fun i => (tkI nD nC cu S i).2.1 4 d
theorem lsG_e (h : Nat → Int32) (m i : Nat) : lsG h (m + 1) i = if h i ≤ 0 then nI i else lsG h m (i + 1) := rfl
theorem hlI_0 {g : Mx} {k : Nat} : hlI g k = 0 ↔ g 4 k ≤ 0 := by
  unfold hlI
  constructor
  · intro h
    by_cases e : g 4 k ≤ 0
    · exact e
    · rw [if_neg e] at h; exact absurd h (by decide)
  · intro e; exact if_pos e
theorem suI_b (n : Nat) (k a b : Int32) : suI n k a b = 0 ∨ suI n k a b = 1 := by
  unfold suI
  repeat (first | exact Or.inl rfl | exact Or.inr rfl | split)
theorem fsI_b (x : Int32) : fsI x = 0 ∨ fsI x = 1 := by
  unfold fsI
  repeat (first | exact Or.inl rfl | exact Or.inr rfl | split)
