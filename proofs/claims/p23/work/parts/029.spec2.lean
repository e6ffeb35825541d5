/-! the show: what a tick does -/
abbrev SH : Type := (Nat → Int32) × Mx × Nat × Mx
def obF (S : SH) (k a b : Int32) : SH := if k = 0 then (S.1, um S.2.1 2 a.toNatClampNeg b, S.2.2) else if k = 1 then (un S.1 6 b, S.2) else if k = 2 then (S.1, S.2.1, cN S.2.2.1, cAdd S.2.2.1 S.2.2.2 a b) else if k = 3 then (un (un S.1 3 a) 4 b, S.2) else if k = 4 then (un S.1 2 0, S.2) else S
def rcS (cu : Mx) (t : Int32) (S : SH) : Nat → SH
  | 0 => S
  | i + 1 => if cu 0 i = t then obF (rcS cu t S i) (cu 1 i) (cu 2 i) (cu 3 i) else rcS cu t S i
def rcN (cu : Mx) (t : Int32) : Nat → Nat
  | 0 => 0
  | i + 1 => if cu 0 i = t then rcN cu t i + 1 else rcN cu t i
def rnS (nC : Nat) (cu : Mx) (S : SH) : SH := (un (rcS cu (S.1 1) S nC).1 1 (S.1 1 + 1), (rcS cu (S.1 1) S nC).2)
def tk1 (nC : Nat) (cu : Mx) (S : SH) : SH := if S.1 2 = 0 then S else rnS nC cu S
def tk2 (nu : Nat → Int32) : Nat → Int32 := un nu 5 (tnd (nu 5) (nu 6))
def sp4 (nu : Nat → Int32) : Int32 := if nu 4 ≤ 0 then nu 4 else nu 4 - 1
def sp3 (nu : Nat → Int32) : Int32 := if sp4 nu = 0 then -1 else nu 3
def spk (nu : Nat → Int32) : Nat → Int32 := un (un nu 4 (sp4 nu)) 3 (sp3 nu)
def tk0 (nu : Nat → Int32) : Nat → Int32 := un nu 0 (nu 0 + 1)
def tkE (nD : Nat) (S : SH) : SH := (tk0 (spk (tk2 S.1)), dGo S.2.1 nD, S.2.2.1, cGo S.2.2.2 S.2.2.1)
def tk (nD nC : Nat) (cu : Mx) (S : SH) : SH := tkE nD (tk1 nC cu S)
def tkN (nC : Nat) (cu : Mx) (S : SH) : Nat := if S.1 2 = 0 then 0 else rcN cu (S.1 1) nC
def tkI (nD nC : Nat) (cu : Mx) (S : SH) : Nat → SH
  | 0 => S
  | i + 1 => tk nD nC cu (tkI nD nC cu S i)
def tkC (nD nC : Nat) (cu : Mx) (S : SH) : Nat → Nat
  | 0 => 0
  | i + 1 => tkC nD nC cu S i + tkN nC cu (tkI nD nC cu S i)
def cuOK (nD nC : Nat) (cu : Mx) : Prop := ∀ i : Nat, i < nC → cu 1 i = 0 → ∃ j : Nat, j < nD ∧ cu 2 i = nI j
theorem cN_le {n : Nat} (h : n ≤ 12) : cN n ≤ 12 := by unfold cN; split <;> omega
theorem ob_clock (S : SH) (k a b : Int32) : (obF S k a b).1 1 = S.1 1 := by
  unfold obF
  repeat (first | rfl | split)
theorem ob_K {S : SH} (h : S.2.2.1 ≤ 12) (k a b : Int32) : (obF S k a b).2.2.1 ≤ 12 := by
  unfold obF
  repeat (first | exact h | exact cN_le h | split)
theorem rc_clock (cu : Mx) (t : Int32) (S : SH) : ∀ i : Nat, (rcS cu t S i).1 1 = S.1 1
  | 0 => rfl
  | i + 1 => by
    rw [rcS]
    split
    · rw [ob_clock]; exact rc_clock cu t S i
    · exact rc_clock cu t S i
theorem rc_K {S : SH} (h : S.2.2.1 ≤ 12) (cu : Mx) (t : Int32) : ∀ i : Nat, (rcS cu t S i).2.2.1 ≤ 12
  | 0 => h
  | i + 1 => by
    rw [rcS]
    split
    · exact ob_K (rc_K h cu t i) _ _ _
    · exact rc_K h cu t i
theorem tk1_K {S : SH} (h : S.2.2.1 ≤ 12) (nC : Nat) (cu : Mx) : (tk1 nC cu S).2.2.1 ≤ 12 := by
  unfold tk1
  split
  · exact h
  · exact rc_K h cu _ nC
theorem tk_K {S : SH} (h : S.2.2.1 ≤ 12) (nD nC : Nat) (cu : Mx) : (tk nD nC cu S).2.2.1 ≤ 12 := tk1_K h nC cu
theorem tkI_K {S : SH} (h : S.2.2.1 ≤ 12) (nD nC : Nat) (cu : Mx) : ∀ i : Nat, (tkI nD nC cu S i).2.2.1 ≤ 12
  | 0 => h
  | i + 1 => tk_K (tkI_K h nD nC cu i) nD nC cu
def laF (g : Mx) (k : Nat) (x : Int32) : Mx := if x = 0 then um (um g 4 k x) 1 k 0 else um g 4 k x
def hlI (g : Mx) (k : Nat) : Int32 := if g 4 k ≤ 0 then 0 else 1
def dAdd (g : Mx) (n : Nat) (a b c : Int32) : Mx := um (um (um (um (um g 0 n a) 1 n 0) 2 n 0) 3 n b) 4 n c
def sAdd (f : Mx) (n : Nat) (a b : Int32) : Mx := um (um f 0 n a) 1 n b
def uAdd (f : Mx) (n : Nat) (a b c d : Int32) : Mx := um (um (um (um f 0 n a) 1 n b) 2 n c) 3 n d
def osI (n : Nat) (g : Mx) (an li : Int32) : Int32 := if 10 * li ≤ glS (g 0) (g 1) (an / 30) n then 0 else 1
theorem osI_b (n : Nat) (g : Mx) (an li : Int32) : osI n g an li = 0 ∨ osI n g an li = 1 := by
  unfold osI
  split
  · exact Or.inl rfl
  · exact Or.inr rfl
def ssI (n : Nat) (g st : Mx) (ball : Int32) (k : Nat) : Int32 := if osI n g (tnd (st 0 k) ball) (st 1 k) = 0 then 0 else 1
def csI (n : Nat) (g ct : Mx) (k : Nat) : Int32 := if ct 2 k ≤ 0 then 0 else if osI n g (ct 0 k) 6 = 0 then 0 else 1
theorem ssI_b (n : Nat) (g st : Mx) (ball : Int32) (k : Nat) : ssI n g st ball k = 0 ∨ ssI n g st ball k = 1 := by
  unfold ssI
  split
  · exact Or.inl rfl
  · exact Or.inr rfl
theorem csI_b (n : Nat) (g ct : Mx) (k : Nat) : csI n g ct k = 0 ∨ csI n g ct k = 1 := by
  unfold csI
  split
  · exact Or.inl rfl
  · split
    · exact Or.inl rfl
    · exact Or.inr rfl
def ssN (n : Nat) (g st : Mx) (ball : Int32) : Nat → Nat
  | 0 => 0
  | i + 1 => if ssI n g st ball i = 0 then ssN n g st ball i else ssN n g st ball i + 1
def csN (n : Nat) (g ct : Mx) : Nat → Nat
  | 0 => 0
  | i + 1 => if csI n g ct i = 0 then csN n g ct i else csN n g ct i + 1
def fcS (n : Nat) (g st : Mx) (ball : Int32) (k : Nat) (w : Int32) : Int32 := if w = 0 then st 0 k else if w = 1 then st 1 k else if w = 2 then tnd (st 0 k) ball else ssI n g st ball k
def fcK (n : Nat) (g ct : Mx) (k : Nat) (w : Int32) : Int32 := if w = 0 then ct 0 k else if w = 1 then ct 1 k else if w = 2 then ct 2 k else csI n g ct k
/-- what count() tells -/
def fcN (nD nT nC : Nat) (st : Mx) (S : SH) (w : Int32) : Int32 := if w = 0 then S.1 0 else if w = 1 then S.1 1 else if w = 2 then S.1 2 else if w = 3 then nI nD else if w = 4 then nI nT else if w = 5 then nI S.2.2.1 else if w = 6 then nI nC else if w = 7 then nI (ssN nD S.2.1 st (S.1 5) nT) else if w = 8 then nI (csN nD S.2.1 S.2.2.2 S.2.2.1) else if w = 9 then S.1 3 else if w = 10 then S.1 4 else if w = 11 then S.1 5 else S.1 6
theorem tsw5 {x : Int32} (h0 : ¬ x = 0) (h1 : ¬ x = 1) (h2 : ¬ x = 2) (h3 : ¬ x = 3) (h4 : ¬ x = 4) : x.toInt < 0 ∨ 4 < x.toInt := tsw_out (m := 4) (fun k hk => by
  rcases (show k = 0 ∨ k = 1 ∨ k = 2 ∨ k = 3 ∨ k = 4 by omega) with rfl | rfl | rfl | rfl | rfl
  · exact h0
  · exact h1
  · exact h2
  · exact h3
  · exact h4) (by decide)
theorem tsw12 {x : Int32} (h0 : ¬ x = 0) (h1 : ¬ x = 1) (h2 : ¬ x = 2) (h3 : ¬ x = 3) (h4 : ¬ x = 4) (h5 : ¬ x = 5) (h6 : ¬ x = 6) (h7 : ¬ x = 7) (h8 : ¬ x = 8) (h9 : ¬ x = 9) (h10 : ¬ x = 10) (h11 : ¬ x = 11) : x.toInt < 0 ∨ 11 < x.toInt := tsw_out (m := 11) (fun k hk => by
  rcases (show k = 0 ∨ k = 1 ∨ k = 2 ∨ k = 3 ∨ k = 4 ∨ k = 5 ∨ k = 6 ∨ k = 7 ∨ k = 8 ∨ k = 9 ∨ k = 10 ∨ k = 11 by omega) with rfl | rfl | rfl | rfl | rfl | rfl | rfl | rfl | rfl | rfl | rfl | rfl
  · exact h0
  · exact h1
  · exact h2
  · exact h3
  · exact h4
  · exact h5
  · exact h6
  · exact h7
  · exact h8
  · exact h9
  · exact h10
  · exact h11) (by decide)
/-- a row of numbers is told by its first n -/
theorem ext_P {D : va_G} {cI : ClassId} {w : va_W} {H : Heap} (hP : va_P D vwCl w H) (q : Nat) {a n : Nat} {f f' : Nat → Int32} (ha : w[q]? = some (a, .inl (cI, n, .inl f))) (he : ∀ j : Nat, j < n → f j = f' j) : va_P D vwCl (w.set q (a, .inl (cI, n, .inl f'))) H := by
  have hc : vp_cell cI (n, .inl f) = vp_cell cI (n, .inl f') := by
    rw [vp_cell_i, vp_cell_i]
    exact congrArg (fun (z : Fin n → Value) => ({ cls := cI, slots := Array.ofFn z, vm := .none } : Cell)) (funext fun j => by
      show Value.int (f j.val) = Value.int (f' j.val)
      rw [he j.val j.isLt])
  intro k x hk
  by_cases hkq : k = q
  · subst hkq
    have hlt : k < w.length := (List.getElem?_eq_some_iff.mp ha).1
    rw [List.getElem?_set_self hlt] at hk
    cases hk
    have h0 := hP k _ ha
    show H[a]? = some (vp_cell cI (n, .inl f'))
    rw [← hc]
    exact h0
  · rw [List.getElem?_set_ne (fun e => hkq e.symm)] at hk
    exact hP k x hk
def cpL (f g : Nat → Int32) (i : Nat) : Nat → Int32 := fun j => if j < i then g j else f j
theorem cpL_s (f g : Nat → Int32) (i : Nat) : upd (cpL f g i) i (g i) = cpL f g (i + 1) := by
  funext j
  unfold upd cpL
  by_cases h : j = i
  · subst h; simp
  · rw [if_neg h]
    by_cases h2 : j < i
    · rw [if_pos h2, if_pos (by omega)]
    · rw [if_neg h2, if_neg (by omega)]
theorem cpL_n (f g : Nat → Int32) (n : Nat) : ∀ j : Nat, j < n → cpL f g n j = g j := fun j h => if_pos h
theorem cpL_0 (f g : Nat → Int32) : cpL f g 0 = f := by
  funext j
  exact if_neg (Nat.not_lt_zero j)
def cpM (f g : Mx) (i : Nat) : Mx := fun w => cpL (f w) (g w) i
