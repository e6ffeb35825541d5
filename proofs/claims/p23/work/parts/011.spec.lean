/-! the mathematics of the console: numbers and rows of numbers -/
abbrev Mx : Type := Nat → Nat → Int32
def um (g : Mx) (w d : Nat) (x : Int32) : Mx := fun w' => cond (Nat.beq w' w) (upd (g w') d x) (g w')
def un (nu : Nat → Int32) (k : Nat) (x : Int32) : Nat → Int32 := fun j => cond (Nat.beq j k) x (nu j)
def irm (x y : Int32) : Int32 := x - x / y * y
def fmod (x y : Int32) : Int32 := if 0 ≤ x ^^^ y then irm x y else if irm x y = 0 then irm x y else irm x y + y
def tnd (a b : Int32) : Int32 := fmod (a + b) 360
def hasI (n : Nat) (i : Int32) : Int32 := if i < 0 then 0 else if nI n ≤ i then 0 else 1
def wiI (x lo hi : Int32) : Int32 := if x < lo then 0 else if hi < x then 0 else 1
def ap (f t s : Int32) : Int32 := if t ≤ f then imax (f - s) t else imin (f + s) t
def dLv (g : Mx) (i : Nat) : Int32 := ap (g 1 i) (g 2 i) (g 3 i)
def dLf (g : Mx) (i : Nat) : Int32 := imax 0 (g 4 i - dLv g i / 10)
def dSt (g : Mx) (i : Nat) : Mx := um (um g 4 i (dLf g i)) 1 i (if dLf g i = 0 then 0 else dLv g i)
def dGo (g : Mx) : Nat → Mx
  | 0 => g
  | i + 1 => dSt (dGo g i) i
def dkL (lv lf : Nat → Int32) (k : Nat) : Nat → Int32 := if lf k = 0 then upd lv k 0 else lv
def glC (p lv lit s : Int32) : Int32 := if fmod (p - lit) 12 = 0 then s + lv else if fmod (p - lit) 12 = 1 then s + lv / 4 else if fmod (p - lit) 12 = 11 then s + lv / 4 else s
def glS (gp gl : Nat → Int32) (lit : Int32) : Nat → Int32
  | 0 => 0
  | i + 1 => glC (gp i) (gl i) lit (glS gp gl lit i)
def cGs (c : Mx) (i : Nat) : Mx := if c 2 i ≤ 0 then c else um (um c 0 i (tnd (c 0 i) (c 1 i))) 2 i (c 2 i - 1)
def cGo (c : Mx) : Nat → Mx
  | 0 => c
  | i + 1 => cGs (cGo c i) i
def cN (n : Nat) : Nat := if 12 ≤ n then n else n + 1
def cAdd (n : Nat) (c : Mx) (a b : Int32) : Mx := if 12 ≤ n then c else um (um (um c 0 n a) 1 n b) 2 n 20
def fcD (g : Mx) (k : Nat) (w : Int32) : Int32 := if w = 0 then g 0 k else if w = 1 then g 1 k else if w = 2 then g 2 k else if w = 3 then g 3 k else g 4 k
def fcC (g : Mx) (k : Nat) (w : Int32) : Int32 := if w = 0 then g 0 k else if w = 1 then g 1 k else if w = 2 then g 2 k else g 3 k
theorem uu_same {f : Nat → Int32} {k : Nat} {x y : Int32} : upd (upd f k x) k y = upd f k y := by
  funext j
  unfold upd
  by_cases h : j = k <;> simp [h]
theorem dk_eq {f h : Nat → Int32} {k : Nat} {lv lf : Int32} : dkL (upd f k lv) (upd h k lf) k = upd f k (if lf = 0 then 0 else lv) := by
  unfold dkL
  rw [pk_us]
  by_cases e : lf = 0
  · rw [if_pos e, if_pos e, uu_same]
  · rw [if_neg e, if_neg e]
theorem hasI_1 {n k : Nat} (h : k < n) (hn : n < 2 ^ 31) : hasI n (nI k) = 1 := by
  unfold hasI
  rw [if_neg (nI_pos (Nat.lt_trans h hn)), if_neg (nI_ge h hn)]
theorem hasI_c (n : Nat) (i : Int32) : (hasI n i = 1 ∧ ∃ k, k < n ∧ i = nI k) ∨ (hasI n i = 0 ∧ ∀ k, k < n → n < 2 ^ 31 → i ≠ nI k) := by
  by_cases h1 : hasI n i = 1
  · refine Or.inl ⟨h1, ?_⟩
    unfold hasI at h1
    by_cases h2 : i < 0
    · rw [if_pos h2] at h1; exact absurd h1 (by decide)
    · rw [if_neg h2] at h1
      obtain ⟨j, hj, rfl⟩ := nI_of h2
      by_cases h3 : nI n ≤ nI j
      · rw [if_pos h3] at h1; exact absurd h1 (by decide)
      · refine ⟨j, ?_, rfl⟩
        refine Nat.not_le.mp (fun q => h3 ?_)
        exact nI_le q hj
  · refine Or.inr ⟨?_, fun k hk hn e => h1 (by rw [e]; exact hasI_1 hk hn)⟩
    unfold hasI at h1 ⊢
    by_cases h2 : i < 0
    · rw [if_pos h2]
    · rw [if_neg h2] at h1 ⊢
      by_cases h3 : nI n ≤ i
      · rw [if_pos h3]
      · rw [if_neg h3] at h1; exact absurd rfl h1
theorem n_bool {v : Int32} (h : v = 0 ∨ v = 1) : narrow .boolean (.int v) = .int v := by rcases h with rfl | rfl <;> rfl
theorem hasI_b (n : Nat) (i : Int32) : hasI n i = 0 ∨ hasI n i = 1 := (hasI_c n i).elim (fun h => Or.inr h.1) (fun h => Or.inl h.1)
theorem wiI_b (x lo hi : Int32) : wiI x lo hi = 0 ∨ wiI x lo hi = 1 := by
  unfold wiI
  split
  · exact Or.inl rfl
  · split
    · exact Or.inl rfl
    · exact Or.inr rfl
theorem tsw_out {x : Int32} {m : Nat} (h : ∀ k : Nat, k ≤ m → x ≠ Int32.ofNat k) (hm : m < 2 ^ 31) : x.toInt < 0 ∨ (m : Int) < x.toInt := by
  by_cases h0 : x < 0
  · exact Or.inl (by have := Int32.lt_iff_toInt_lt.mp h0; simpa using this)
  · obtain ⟨j, hj, rfl⟩ := nI_of h0
    rw [nI_toInt hj]
    by_cases hjm : j ≤ m
    · exact absurd rfl (h j hjm)
    · exact Or.inr (by omega)
theorem tsw4 {x : Int32} (h0 : ¬ x = 0) (h1 : ¬ x = 1) (h2 : ¬ x = 2) (h3 : ¬ x = 3) : x.toInt < 0 ∨ 3 < x.toInt := tsw_out (m := 3) (fun k hk => by
  rcases (show k = 0 ∨ k = 1 ∨ k = 2 ∨ k = 3 by omega) with rfl | rfl | rfl | rfl
  · exact h0
  · exact h1
  · exact h2
  · exact h3) (by decide)
theorem tsw3 {x : Int32} (h0 : ¬ x = 0) (h1 : ¬ x = 1) (h2 : ¬ x = 2) : x.toInt < 0 ∨ 2 < x.toInt := tsw_out (m := 2) (fun k hk => by
  rcases (show k = 0 ∨ k = 1 ∨ k = 2 by omega) with rfl | rfl | rfl
  · exact h0
  · exact h1
  · exact h2) (by decide)
section ROWN
variable {p : Program} {l : Launch} {e : Env} {R : Room} {s : State} {m : MethodId} {args : Array Value} {below : List Frame} {meth : Method} {c : Code} {H : Heap} {locs : List Loc} {cells slots : Nat} {Q : State → Prop}
variable {cc : ByteArray} {pc : Nat} {ls : Array Slot} {rest : List Value}
theorem icgtN (hexec : p.tables.exec = Jvm.exec) (hb : c.code = cc) {i n : Nat} {off : Int} {tgt : Nat} (hi : i < 2 ^ 31) (hn : n < 2 ^ 31) (hdg : decode cc pc = .ok (.if_icmp .gt off, 3)) (ht : (pc : Int) + off = (tgt : Int))
    (kt : n < i → W p l e R s m args below meth c H locs cells slots Q (F0 m tgt ls rest)) (kf : i ≤ n → W p l e R s m args below meth c H locs cells slots Q (F0 m (pc + 3) ls rest)) : W p l e R s m args below meth c H locs cells slots Q (F0 m pc ls (.int (nI n) :: .int (nI i) :: rest)) :=
  lv_icmp_gt hexec hb hdg ht (fun h => kt ((nI_ltI hn hi).mp h)) (fun h => kf (Nat.not_lt.mp (fun q => h ((nI_ltI hn hi).mpr q))))
theorem iceqN (hexec : p.tables.exec = Jvm.exec) (hb : c.code = cc) {i n : Nat} {off : Int} {tgt : Nat} (hi : i < 2 ^ 31) (hn : n < 2 ^ 31) (hdg : decode cc pc = .ok (.if_icmp .eq off, 3)) (ht : (pc : Int) + off = (tgt : Int))
    (kt : i = n → W p l e R s m args below meth c H locs cells slots Q (F0 m tgt ls rest)) (kf : ¬ i = n → W p l e R s m args below meth c H locs cells slots Q (F0 m (pc + 3) ls rest)) : W p l e R s m args below meth c H locs cells slots Q (F0 m pc ls (.int (nI n) :: .int (nI i) :: rest)) :=
  lv_icmp_eq hexec hb hdg ht (fun h => kt ((nI_eq hi hn).mp h)) (fun h => kf (fun q => h ((nI_eq hi hn).mpr q)))
theorem icneN (hexec : p.tables.exec = Jvm.exec) (hb : c.code = cc) {i n : Nat} {off : Int} {tgt : Nat} (hi : i < 2 ^ 31) (hn : n < 2 ^ 31) (hdg : decode cc pc = .ok (.if_icmp .ne off, 3)) (ht : (pc : Int) + off = (tgt : Int))
    (kt : ¬ i = n → W p l e R s m args below meth c H locs cells slots Q (F0 m tgt ls rest)) (kf : i = n → W p l e R s m args below meth c H locs cells slots Q (F0 m (pc + 3) ls rest)) : W p l e R s m args below meth c H locs cells slots Q (F0 m pc ls (.int (nI n) :: .int (nI i) :: rest)) :=
  lv_icmp_ne hexec hb hdg ht (fun h => kt (fun q => h ((nI_eq hi hn).mpr q))) (fun h => kf ((nI_eq hi hn).mp h))
end ROWN
