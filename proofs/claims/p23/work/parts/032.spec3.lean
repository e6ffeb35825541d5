/-! what the console tells of itself and of what would be -/
def fbI : Nat → Int32
  | 0 => -1
  | j + 1 => nI j
def fbS (t : Nat → Int32) (ck : Int32) : Nat → Nat
  | 0 => 0
  | i + 1 => if t i < ck then fbS t ck i else if fbS t ck i = 0 then i + 1 else if t (fbS t ck i - 1) ≤ t i then fbS t ck i else i + 1
theorem fb_le (t : Nat → Int32) (ck : Int32) : ∀ i : Nat, fbS t ck i ≤ i
  | 0 => Nat.le_refl _
  | i + 1 => by
    have h := fb_le t ck i
    rw [fbS]
    repeat (first | omega | split)
theorem nI_nm1 {j : Nat} (h : j < 2 ^ 31) : ¬ nI j = -1 := fun e => by
  have h2 := congrArg Int32.toInt e
  rw [nI_toInt h] at h2
  have h3 : (-1 : Int32).toInt = -1 := by decide
  omega
def hw1 (cu : Mx) (f t : Int32) (i : Nat) : Int32 := if cu 1 i = 4 then (if cu 0 i < f then 0 else if t ≤ cu 0 i then 0 else 1) else 0
def hwI (cu : Mx) (f t : Int32) : Nat → Int32
  | 0 => 0
  | i + 1 => if hwI cu f t i = 0 then hw1 cu f t i else 1
theorem hw1_b (cu : Mx) (f t : Int32) (i : Nat) : hw1 cu f t i = 0 ∨ hw1 cu f t i = 1 := by
  unfold hw1
  repeat (first | exact Or.inl rfl | exact Or.inr rfl | split)
theorem hwI_b (cu : Mx) (f t : Int32) : ∀ i : Nat, hwI cu f t i = 0 ∨ hwI cu f t i = 1
  | 0 => Or.inl rfl
  | i + 1 => by
    rw [hwI]
    split
    · exact hw1_b cu f t i
    · exact Or.inr rfl
theorem hwI_hit {cu : Mx} {f t : Int32} {i : Nat} (h0 : hwI cu f t i = 0) (h : hw1 cu f t i = 1) : ∀ n : Nat, i < n → hwI cu f t n = 1
  | 0, hn => absurd hn (Nat.not_lt_zero _)
  | n + 1, hn => by
    by_cases e : i = n
    · subst e
      rw [hwI, if_pos h0]; exact h
    · have h2 := hwI_hit h0 h n (by omega)
      rw [hwI, h2]; exact if_neg (by decide)
def jo (d : Int64) (x : Int32) : Int64 := d * 31 + x.toInt64
def jN (f : Nat → Int32) : Nat → Int64 → Int64
  | 0, d => d
  | i + 1, d => jo (jN f i d) (f i)
def jM (f : Nat → Nat → Int32) (m : Nat) : Nat → Int64 → Int64
  | 0, d => d
  | i + 1, d => jN (f i) m (jM f m i d)
theorem fcD_w {g : Mx} {k w : Nat} (h : w < 5) : fcD g k (nI w) = g w k := by
  rcases (show w = 0 ∨ w = 1 ∨ w = 2 ∨ w = 3 ∨ w = 4 by omega) with rfl | rfl | rfl | rfl | rfl <;> rfl
theorem fcC_w {g : Mx} {k w : Nat} (h : w < 4) : fcC g k (nI w) = g w k := by
  rcases (show w = 0 ∨ w = 1 ∨ w = 2 ∨ w = 3 by omega) with rfl | rfl | rfl | rfl <;> rfl
def dgF (nD nT nC : Nat) (st cu : Mx) (S : SH) : Int64 := jM (fun i w => cu w i) 4 nC (jM (fun i w => fcK nD S.2.1 S.2.2.2 i (nI w)) 4 S.2.2.1 (jM (fun i w => fcS nD S.2.1 st (S.1 5) i (nI w)) 4 nT (jM (fun i w => S.2.1 w i) 5 nD (jN (fun p => glS (S.2.1 0) (S.2.1 1) (nI p) nD) 12 (jN (fun w => fcN nD nT nC st S (nI w)) 13 1109)))))
def dkB (f : Nat → Int32) : Nat → Nat
  | 0 => 0
  | i + 1 => if f (dkB f i) ≤ f i then dkB f i else i
theorem dkB_1 (f : Nat → Int32) : dkB f 1 = 0 := by
  show (if f 0 ≤ f 0 then 0 else 0) = 0
  split <;> rfl
def lsG (h : Nat → Int32) : Nat → Nat → Int32
  | 0, _ => -1
  | k + 1, i => if h i ≤ 0 then nI i else lsG h k (i + 1)
def lsE (h : Nat → Int32) : Nat → Nat → Nat
  | 0, i => i
  | k + 1, i => if h i ≤ 0 then i else lsE h k (i + 1)
def fsI (x : Int32) : Int32 := if x = 1 then 1 else if x = 5 then 1 else if x = 7 then 1 else if x = 8 then 1 else if x = 11 then 1 else 0
def suI (nD : Nat) (k a b : Int32) : Int32 := if k = 0 then (if hasI nD a = 0 then 0 else if wiI b 0 100 = 0 then 0 else 1) else if k = 1 then (if a = 0 then (if wiI b (-30) 30 = 0 then 0 else 1) else 0) else if k = 2 then (if wiI a 0 359 = 0 then 0 else if wiI b (-20) 20 = 0 then 0 else 1) else if k = 3 then (if wiI a 0 99 = 0 then 0 else if wiI b 1 60 = 0 then 0 else 1) else if k = 4 then (if a = 0 then (if b = 0 then 1 else 0) else 0) else 0
def rpL (f g : Nat → Int32) : Nat → Nat → Int32
  | 0 => f
  | i + 1 => upd (rpL f g i) i (g i)
theorem rpL_n (f g : Nat → Int32) : ∀ (n j : Nat), j < n → rpL f g n j = g j
  | 0, j, h => absurd h (Nat.not_lt_zero j)
  | n + 1, j, h => by
    show upd (rpL f g n) n (g n) j = g j
    unfold upd
    by_cases e : j = n
    · rw [if_pos e, e]
    · rw [if_neg e]; exact rpL_n f g n j (by omega)
def swI (x : Int32) : Int32 := if x = 0 then 1 else 0
theorem f_bool {v : Int32} (h : v = 0 ∨ v = 1) : fits .boolean (.int v) = true := by rcases h with rfl | rfl <;> rfl
