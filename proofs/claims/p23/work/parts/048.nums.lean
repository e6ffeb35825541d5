/-! numbers: where the class and the reference reckon in two ways -/
theorem i_add {x y : Int32} (h1 : -2147483648 ≤ x.toInt + y.toInt) (h2 : x.toInt + y.toInt < 2147483648) : (x + y).toInt = x.toInt + y.toInt := by
  rw [Int32.toInt_add]
  exact Int.bmod_eq_of_le (by omega) (by omega)
theorem i_sub {x y : Int32} (h1 : -2147483648 ≤ x.toInt - y.toInt) (h2 : x.toInt - y.toInt < 2147483648) : (x - y).toInt = x.toInt - y.toInt := by
  rw [Int32.toInt_sub]
  exact Int.bmod_eq_of_le (by omega) (by omega)
theorem i_neg {x : Int32} (h1 : -2147483648 < x.toInt) : (-x).toInt = -x.toInt := by
  have h2 : x.toInt < 2147483648 := Int32.toInt_lt x
  rw [Int32.toInt_neg]
  exact Int.bmod_eq_of_le (by omega) (by omega)
/-- what holds of each int out of a short stretch -/
theorem i_all {P : Int32 → Prop} (lo : Int) (n : Nat) (h : ∀ k : Fin n, P (Int32.ofInt (lo + (k.val : Int)))) {x : Int32} (h1 : lo ≤ x.toInt) (h2 : x.toInt < lo + n) : P x := by
  have e : x = Int32.ofInt (lo + (((⟨(x.toInt - lo).toNat, by omega⟩ : Fin n).val : Nat) : Int)) := by
    have e2 : lo + ((((x.toInt - lo).toNat : Nat)) : Int) = x.toInt := by omega
    show x = Int32.ofInt (lo + (((x.toInt - lo).toNat : Nat) : Int))
    rw [e2, Int32.ofInt_toInt]
  rw [e]
  exact h _
set_option maxRecDepth 100000 in
theorem rd_all : ∀ k : Fin 800, (fun x : Int32 => irm (x + 360) 360 = fmod x 360 ∧ 0 ≤ (fmod x 360).toInt ∧ (fmod x 360).toInt < 360) (Int32.ofInt (-30 + (k.val : Int))) := by decide +kernel
set_option maxRecDepth 100000 in
theorem st_all : ∀ k : Fin 800, (fun x : Int32 => irm x 360 = fmod x 360) (Int32.ofInt (0 + (k.val : Int))) := by decide +kernel
set_option maxRecDepth 100000 in
theorem gl_all : ∀ k : Fin 40, (fun x : Int32 => irm (x + 12) 12 = fmod x 12) (Int32.ofInt (-12 + (k.val : Int))) := by decide +kernel
set_option maxRecDepth 100000 in
theorem pt_all : ∀ k : Fin 360, (fun x : Int32 => 0 ≤ (x / 30).toInt ∧ (x / 30).toInt < 12) (Int32.ofInt (0 + (k.val : Int))) := by decide +kernel
def bnd (x : Int32) (lo hi : Int) : Prop := lo ≤ x.toInt ∧ x.toInt ≤ hi
theorem tnd_rd {a b : Int32} (ha : bnd a 0 359) (hb : bnd b (-30) 30) : irm (a + b + 360) 360 = tnd a b ∧ bnd (tnd a b) 0 359 := by
  unfold bnd at *
  have h := i_add (x := a) (y := b) (by omega) (by omega)
  have k := i_all (P := fun x : Int32 => irm (x + 360) 360 = fmod x 360 ∧ 0 ≤ (fmod x 360).toInt ∧ (fmod x 360).toInt < 360) (-30) 800 rd_all (x := a + b) (by omega) (by omega)
  exact ⟨k.1, k.2.1, by have := k.2.2; unfold tnd; omega⟩
theorem tnd_st {a b : Int32} (ha : bnd a 0 359) (hb : bnd b 0 359) : irm (a + b) 360 = tnd a b ∧ bnd (tnd a b) 0 359 := by
  unfold bnd at *
  have h := i_add (x := a) (y := b) (by omega) (by omega)
  have k := i_all (P := fun x : Int32 => irm x 360 = fmod x 360) 0 800 st_all (x := a + b) (by omega) (by omega)
  have k2 := i_all (P := fun x : Int32 => irm (x + 360) 360 = fmod x 360 ∧ 0 ≤ (fmod x 360).toInt ∧ (fmod x 360).toInt < 360) (-30) 800 rd_all (x := a + b) (by omega) (by omega)
  exact ⟨k, k2.2.1, by have := k2.2.2; unfold tnd; omega⟩
theorem gl_rd {a b : Int32} (ha : bnd a 0 11) (hb : bnd b 0 11) : irm (a - b + 12) 12 = fmod (a - b) 12 := by
  unfold bnd at *
  have h := i_sub (x := a) (y := b) (by omega) (by omega)
  exact i_all (P := fun x : Int32 => irm (x + 12) 12 = fmod x 12) (-12) 40 gl_all (x := a - b) (by omega) (by omega)
theorem pt_rd {a : Int32} (ha : bnd a 0 359) : bnd (a / 30) 0 11 := by
  unfold bnd at *
  have k := i_all (P := fun x : Int32 => 0 ≤ (x / 30).toInt ∧ (x / 30).toInt < 12) 0 360 pt_all (x := a) (by omega) (by omega)
  exact ⟨k.1, by have := k.2; omega⟩
theorem imax_i (x y : Int32) : (imax x y).toInt = max x.toInt y.toInt := by
  unfold imax
  split
  · rename_i h; have := Int32.lt_iff_toInt_lt.mp h; omega
  · rename_i h; have : ¬ x.toInt < y.toInt := fun q => h (Int32.lt_iff_toInt_lt.mpr q); omega
theorem imin_i (x y : Int32) : (imin x y).toInt = min x.toInt y.toInt := by
  unfold imin
  split
  · rename_i h; have := Int32.lt_iff_toInt_lt.mp h; omega
  · rename_i h; have : ¬ y.toInt < x.toInt := fun q => h (Int32.lt_iff_toInt_lt.mpr q); omega
theorem ap_rd {l a p : Int32} (hl : bnd l 0 100) (ha : bnd a 0 100) (hp : bnd p 1 50) : l + imax (-p) (imin p (a - l)) = ap l a p ∧ bnd (ap l a p) 0 100 := by
  unfold bnd at *
  have h1 := i_sub (x := a) (y := l) (by omega) (by omega)
  have h2 := imin_i p (a - l)
  have h3 := i_neg (x := p) (by omega)
  have h4 := imax_i (-p) (imin p (a - l))
  have h5 := i_add (x := l) (y := imax (-p) (imin p (a - l))) (by omega) (by omega)
  have h6 : (ap l a p).toInt = (l + imax (-p) (imin p (a - l))).toInt ∧ 0 ≤ (ap l a p).toInt ∧ (ap l a p).toInt ≤ 100 := by
    unfold ap
    have g1 := i_sub (x := l) (y := p) (by omega) (by omega)
    have g2 := i_add (x := l) (y := p) (by omega) (by omega)
    split
    · rename_i h
      have h' := Int32.le_iff_toInt_le.mp h
      have g3 := imax_i (l - p) a
      omega
    · rename_i h
      have h' : ¬ a.toInt ≤ l.toInt := fun q => h (Int32.le_iff_toInt_le.mpr q)
      have g3 := imin_i (l + p) a
      omega
  exact ⟨Int32.toInt_inj.mp h6.1.symm, h6.2⟩
/-! what holds of every state of the console -/
def gOK (n : Nat) (g : Mx) : Prop := ∀ i : Nat, i < n → bnd (g 0 i) 0 11 ∧ bnd (g 1 i) 0 100 ∧ bnd (g 2 i) 0 100 ∧ bnd (g 3 i) 1 50
def cOK (n : Nat) (c : Mx) : Prop := ∀ i : Nat, i < n → bnd (c 0 i) 0 359 ∧ bnd (c 1 i) (-20) 20 ∧ bnd (c 2 i) 0 20
def tOK (n : Nat) (st : Mx) : Prop := ∀ i : Nat, i < n → bnd (st 0 i) 0 359
def qOK (nD nC : Nat) (cu : Mx) : Prop := ∀ i : Nat, i < nC → bnd (cu 0 i) 0 999 ∧ bnd (cu 1 i) 0 4 ∧ (cu 1 i = 0 → (∃ j : Nat, j < nD ∧ cu 2 i = nI j) ∧ bnd (cu 3 i) 0 100) ∧ (cu 1 i = 1 → bnd (cu 3 i) (-30) 30) ∧ (cu 1 i = 2 → bnd (cu 2 i) 0 359 ∧ bnd (cu 3 i) (-20) 20)
def SOK (nD : Nat) (S : SH) : Prop := S.2.2.1 ≤ 12 ∧ gOK nD S.2.1 ∧ cOK S.2.2.1 S.2.2.2 ∧ (S.1 2 = 0 ∨ S.1 2 = 1) ∧ bnd (S.1 5) 0 359 ∧ bnd (S.1 6) (-30) 30
theorem qOK.cu {nD nC : Nat} {cu : Mx} (h : qOK nD nC cu) : cuOK nD nC cu := fun i hi e => ((h i hi).2.2.1 e).1
theorem bnd_c {x : Int32} {lo hi : Int} (h : lo ≤ x.toInt ∧ x.toInt ≤ hi) : bnd x lo hi := h
