/-! worlds in pieces: a world is its cells, in any order; a call's frame by pieces -/
theorem pd_P {D : va_G} {w : va_W} {H : Heap} : va_P D vwCl w H ↔ ∀ x ∈ w, va_at D vwCl x H := by
  constructor
  · intro h x hx
    obtain ⟨i, hi⟩ := List.getElem?_of_mem hx
    exact h i x hi
  · intro h k x hk
    exact h x (List.mem_of_getElem? hk)
theorem pd_D {A : Nat → Prop} {w : va_W} : va_D A w ↔ (w.map Prod.fst).Nodup ∧ ∀ x ∈ w, A x.1 := by
  constructor
  · intro h
    refine ⟨?_, fun x hx => ?_⟩
    · rw [List.Nodup, List.pairwise_iff_getElem]
      intro i j hi hj hij e
      rw [List.length_map] at hi hj
      rw [List.getElem_map, List.getElem_map] at e
      have := h.1 i j _ _ (List.getElem?_eq_getElem hi) (List.getElem?_eq_getElem hj) e
      omega
    · obtain ⟨i, hi⟩ := List.getElem?_of_mem hx
      exact h.2 i x hi
  · intro h
    refine ⟨fun i j p q hp hq e => ?_, fun k x hk => h.2 x (List.mem_of_getElem? hk)⟩
    have h1 := h.1
    rw [List.Nodup, List.pairwise_iff_getElem] at h1
    obtain ⟨hi, rfl⟩ := List.getElem?_eq_some_iff.mp hp
    obtain ⟨hj, rfl⟩ := List.getElem?_eq_some_iff.mp hq
    rcases Nat.lt_trichotomy i j with c | c | c
    · have := h1 i j (by rw [List.length_map]; exact hi) (by rw [List.length_map]; exact hj) c
      rw [List.getElem_map, List.getElem_map] at this
      exact absurd e this
    · exact c
    · have := h1 j i (by rw [List.length_map]; exact hj) (by rw [List.length_map]; exact hi) c
      rw [List.getElem_map, List.getElem_map] at this
      exact absurd e.symm this
theorem P_perm {D : va_G} {w w' : va_W} {H : Heap} (h : w.Perm w') (hP : va_P D vwCl w H) : va_P D vwCl w' H := pd_P.mpr fun x hx => pd_P.mp hP x (h.mem_iff.mpr hx)
theorem D_perm {A : Nat → Prop} {w w' : va_W} (h : w.Perm w') (hD : va_D A w) : va_D A w' := by
  obtain ⟨h1, h2⟩ := pd_D.mp hD
  exact pd_D.mpr ⟨((h.map Prod.fst).nodup_iff).mp h1, fun x hx => h2 x (h.mem_iff.mpr hx)⟩
theorem P_subl {D : va_G} {w w' : va_W} {H : Heap} (h : w'.Sublist w) (hP : va_P D vwCl w H) : va_P D vwCl w' H := pd_P.mpr fun x hx => pd_P.mp hP x (h.subset hx)
theorem D_subl {A : Nat → Prop} {w w' : va_W} (h : w'.Sublist w) (hD : va_D A w) : va_D A w' := by
  obtain ⟨h1, h2⟩ := pd_D.mp hD
  exact pd_D.mpr ⟨h1.sublist (h.map Prod.fst), fun x hx => h2 x (h.subset hx)⟩
theorem D_self {A : Nat → Prop} {w : va_W} {sz : Nat} (hD : va_D A w) : va_D (va_A w sz) w := by
  refine hD.weaken (fun k q hk _ => Or.inl ⟨k, q.2, hk⟩)
/-- the frame rule over two pieces: the callee's lies behind -/
theorem fr_two {A : Nat → Prop} {D : va_G} {wr wc wc' : va_W} {H H1 : Heap} (hP : va_P D vwCl (wr ++ wc) H) (hD : va_D A (wr ++ wc)) (hf : ∀ q, va_A wc H.size q → A q) (hk : ∀ q : Nat, q < H.size → ¬ va_A wc H.size q → H1[q]? = H[q]?) (hP1 : va_P D vwCl wc' H1) (hD1 : va_D (va_A wc H.size) wc') : va_P D vwCl (wr ++ wc') H1 ∧ va_D A (wr ++ wc') := by
  have hP0 := pd_P.mp hP
  obtain ⟨n1, n2⟩ := pd_D.mp hD
  obtain ⟨m1, m2⟩ := pd_D.mp hD1
  rw [List.map_append] at n1
  obtain ⟨a1, a2, a3⟩ := List.nodup_append.mp n1
  have hn : ∀ x ∈ wr, ¬ va_A wc H.size x.1 := by
    intro x hx hv
    rcases hv with ⟨k, e, hk⟩ | hv
    · exact a3 x.1 (List.mem_map.mpr ⟨x, hx, rfl⟩) x.1 (List.mem_map.mpr ⟨(x.1, e), List.mem_of_getElem? hk, rfl⟩) rfl
    · have := (hP0 x (List.mem_append_left _ hx)).lt
      omega
  refine ⟨pd_P.mpr fun x hx => ?_, pd_D.mpr ⟨?_, fun x hx => ?_⟩⟩
  · rcases List.mem_append.mp hx with h | h
    · have h0 := hP0 x (List.mem_append_left _ h)
      exact h0.kept (hk x.1 h0.lt (hn x h))
    · exact pd_P.mp hP1 x h
  · rw [List.map_append]
    refine List.nodup_append.mpr ⟨a1, m1, fun a ha b hb e => ?_⟩
    obtain ⟨x, hx, rfl⟩ := List.mem_map.mp ha
    obtain ⟨y, hy, rfl⟩ := List.mem_map.mp hb
    exact hn x hx (by rw [e]; exact m2 y hy)
  · rcases List.mem_append.mp hx with h | h
    · exact n2 x (List.mem_append_left _ h)
    · exact hf x.1 (m2 x h)
theorem fr_free2 {A : Nat → Prop} {wr wc : va_W} {s : State} {H : Heap} {locs : List Loc} (hD : va_D A (wr ++ wc)) (hS : va_S A s.heap H locs) (hA : ∀ q : Nat, s.heap.size ≤ q → A q) : ∀ q, va_A wc H.size q → A q := by
  intro q hq
  rcases hq with ⟨k, e, hk⟩ | hq
  · exact (pd_D.mp hD).2 (q, e) (List.mem_append_right _ (List.mem_of_getElem? hk))
  · exact hA q (Nat.le_trans hS.1 hq)
theorem perm3 {wl wc wr : va_W} : (wl ++ (wc ++ wr)).Perm ((wl ++ wr) ++ wc) := by
  rw [List.append_assoc]
  exact List.Perm.append_left wl List.perm_append_comm
theorem P_back {D : va_G} {w : va_W} {c : Nat × va_E} {H : Heap} (hP : va_P D vwCl (w ++ [c]) H) : va_P D vwCl (c :: w) H := P_perm (List.perm_append_comm (l₁ := w) (l₂ := [c])) hP
theorem D_back {A : Nat → Prop} {w : va_W} {c : Nat × va_E} (hD : va_D A (w ++ [c])) : va_D A (c :: w) := D_perm (List.perm_append_comm (l₁ := w) (l₂ := [c])) hD
theorem app_r {E T : va_W} {i : Nat} {x : Nat × va_E} (h : T[i]? = some x) : (E ++ T)[E.length + i]? = some x := by
  rw [List.getElem?_append_right (by omega), Nat.add_sub_cancel_left]
  exact h
theorem app_l {T K : va_W} {i : Nat} {x : Nat × va_E} (h : T[i]? = some x) : (T ++ K)[i]? = some x := by
  rw [List.getElem?_append_left (List.getElem?_eq_some_iff.mp h).1]
  exact h
theorem set_r {E T : va_W} {i : Nat} {x : Nat × va_E} : (E ++ T).set (E.length + i) x = E ++ T.set i x := by
  rw [List.set_append_right _ _ (by omega), Nat.add_sub_cancel_left]
theorem set_l {T K : va_W} {i : Nat} {x : Nat × va_E} (h : i < T.length) : (T ++ K).set i x = T.set i x ++ K := List.set_append_left _ _ h
/-! rows of ints, as many as one likes -/
def RW (cI : ClassId) (p : Nat → Nat) (n len : Nat) (g : Mx) : va_W := (List.range n).map (fun i => (p i, .inl (cI, len, .inl (fun w => g w i))))
theorem RW_len {cI : ClassId} {p : Nat → Nat} {n len : Nat} {g : Mx} : (RW cI p n len g).length = n := by simp [RW]
theorem RW_get {cI : ClassId} {p : Nat → Nat} {n len i : Nat} {g : Mx} (h : i < n) : (RW cI p n len g)[i]? = some (p i, .inl (cI, len, .inl (fun w => g w i))) := by
  unfold RW
  rw [List.getElem?_map, List.getElem?_range h]
  rfl
theorem RW_cong {cI : ClassId} {p p' : Nat → Nat} {n len : Nat} {g g' : Mx} (h : ∀ i : Nat, i < n → p i = p' i ∧ ∀ w, g w i = g' w i) : RW cI p n len g = RW cI p' n len g' := by
  unfold RW
  apply List.map_congr_left
  intro i hi
  obtain ⟨h1, h2⟩ := h i (List.mem_range.mp hi)
  rw [h1, show (fun w => g w i) = (fun w => g' w i) from funext h2]
theorem RW_succ {cI : ClassId} {p : Nat → Nat} {n len : Nat} {g : Mx} : RW cI p (n + 1) len g = RW cI p n len g ++ [(p n, .inl (cI, len, .inl (fun w => g w n)))] := by
  unfold RW
  rw [List.range_succ, List.map_append]
  rfl
theorem um_row {g : Mx} {k i : Nat} {x : Int32} : (fun w => um g k i x w i) = upd (fun w => g w i) k x := by
  funext w
  unfold um upd
  by_cases h : w = k
  · subst h
    rw [nbt, if_pos rfl]
    exact pk_us
  · rw [nbf h, if_neg h]
    rfl
theorem RW_set {cI : ClassId} {p : Nat → Nat} {n len i k : Nat} {g : Mx} {x : Int32} : (RW cI p n len g).set i (p i, .inl (cI, len, .inl (upd (fun w => g w i) k x))) = RW cI p n len (um g k i x) := by
  apply List.ext_getElem?
  intro j
  by_cases hj : j < n
  · rw [RW_get hj]
    by_cases e : j = i
    · subst e
      rw [List.getElem?_set_self (by rw [RW_len]; exact hj), um_row]
    · rw [List.getElem?_set_ne (fun q => e q.symm), RW_get hj]
      rw [show (fun w => g w j) = (fun w => um g k i x w j) from funext fun w => (um_o e).symm]
  · rw [List.getElem?_eq_none (by rw [List.length_set, RW_len]; omega), List.getElem?_eq_none (by rw [RW_len]; omega)]
def upn (f : Nat → Nat) (k x : Nat) : Nat → Nat := fun j => if j = k then x else f j
theorem upn_s {f : Nat → Nat} {k x : Nat} : upn f k x k = x := if_pos rfl
theorem upn_n {f : Nat → Nat} {k x j : Nat} (h : ¬ j = k) : upn f k x j = f j := if_neg h
/-- all rows of the law's own console -/
def RO (cI : ClassId) (pd pt pk pu : Nat → Nat) (nD nT nK nC : Nat) (g st ct cu : Mx) : va_W := RW cI pd nD 5 g ++ (RW cI pt nT 2 st ++ (RW cI pk nK 3 ct ++ RW cI pu nC 4 cu))
theorem pm2 {x : Nat × va_E} {E A C : va_W} : (x :: (E ++ (A ++ C))).Perm (E ++ (A ++ x :: C)) := by
  have h := (List.perm_middle (a := x) (l₁ := E ++ A) (l₂ := C)).symm
  simpa only [List.append_assoc] using h
theorem pm3 {x : Nat × va_E} {E A B C : va_W} : (x :: (E ++ (A ++ (B ++ C)))).Perm (E ++ (A ++ (B ++ x :: C))) := by
  have h := (List.perm_middle (a := x) (l₁ := E ++ (A ++ B)) (l₂ := C)).symm
  simpa only [List.append_assoc] using h
theorem pm4 {x : Nat × va_E} {E A B F C : va_W} : (x :: (E ++ (A ++ (B ++ (F ++ C))))).Perm (E ++ (A ++ (B ++ (F ++ x :: C)))) := by
  have h := (List.perm_middle (a := x) (l₁ := E ++ (A ++ (B ++ F))) (l₂ := C)).symm
  simpa only [List.append_assoc] using h
theorem pm5 {x : Nat × va_E} {E A B F G C : va_W} : (x :: (E ++ (A ++ (B ++ (F ++ (G ++ C)))))).Perm (E ++ (A ++ (B ++ (F ++ (G ++ x :: C))))) := by
  have h := (List.perm_middle (a := x) (l₁ := E ++ (A ++ (B ++ (F ++ G)))) (l₂ := C)).symm
  simpa only [List.append_assoc] using h
section RO
variable {cI : ClassId} {pd pt pk pu : Nat → Nat} {nD nT nK nC i : Nat} {g st ct cu : Mx} {E K : va_W}
theorem ro_d (h : i < nD) : (E ++ RO cI pd pt pk pu nD nT nK nC g st ct cu)[E.length + i]? = some (pd i, .inl (cI, 5, .inl (fun w => g w i))) := app_r (app_l (RW_get h))
theorem ro_t (h : i < nT) : (E ++ RO cI pd pt pk pu nD nT nK nC g st ct cu)[E.length + (nD + i)]? = some (pt i, .inl (cI, 2, .inl (fun w => st w i))) := by
  have h1 := app_r (E := RW cI pd nD 5 g) (app_l (K := RW cI pk nK 3 ct ++ RW cI pu nC 4 cu) (RW_get (cI := cI) (p := pt) (len := 2) (g := st) h))
  rw [RW_len] at h1
  exact app_r h1
theorem ro_k (h : i < nK) : (E ++ RO cI pd pt pk pu nD nT nK nC g st ct cu)[E.length + (nD + (nT + i))]? = some (pk i, .inl (cI, 3, .inl (fun w => ct w i))) := by
  have h1 := app_r (E := RW cI pt nT 2 st) (app_l (K := RW cI pu nC 4 cu) (RW_get (cI := cI) (p := pk) (len := 3) (g := ct) h))
  have h2 := app_r (E := RW cI pd nD 5 g) h1
  rw [RW_len, RW_len] at h2
  exact app_r h2
theorem ro_u (h : i < nC) : (E ++ RO cI pd pt pk pu nD nT nK nC g st ct cu)[E.length + (nD + (nT + (nK + i)))]? = some (pu i, .inl (cI, 4, .inl (fun w => cu w i))) := by
  have h1 := app_r (E := RW cI pk nK 3 ct) (RW_get (cI := cI) (p := pu) (len := 4) (g := cu) h)
  have h2 := app_r (E := RW cI pd nD 5 g) (app_r (E := RW cI pt nT 2 st) h1)
  rw [RW_len, RW_len, RW_len] at h2
  exact app_r h2
theorem ro_ds {k : Nat} {x : Int32} (h : i < nD) : (E ++ RO cI pd pt pk pu nD nT nK nC g st ct cu).set (E.length + i) (pd i, .inl (cI, 5, .inl (upd (fun w => g w i) k x))) = E ++ RO cI pd pt pk pu nD nT nK nC (um g k i x) st ct cu := by
  rw [set_r, RO, set_l (by rw [RW_len]; exact h), RW_set]
  rfl
theorem ro_ks {k : Nat} {x : Int32} (h : i < nK) : (E ++ RO cI pd pt pk pu nD nT nK nC g st ct cu).set (E.length + (nD + (nT + i))) (pk i, .inl (cI, 3, .inl (upd (fun w => ct w i) k x))) = E ++ RO cI pd pt pk pu nD nT nK nC g st (um ct k i x) cu := by
  rw [set_r, RO]
  have e1 := set_r (E := RW cI pd nD 5 g) (T := RW cI pt nT 2 st ++ (RW cI pk nK 3 ct ++ RW cI pu nC 4 cu)) (i := nT + i) (x := (pk i, .inl (cI, 3, .inl (upd (fun w => ct w i) k x))))
  rw [RW_len] at e1
  have e2 := set_r (E := RW cI pt nT 2 st) (T := RW cI pk nK 3 ct ++ RW cI pu nC 4 cu) (i := i) (x := (pk i, .inl (cI, 3, .inl (upd (fun w => ct w i) k x))))
  rw [RW_len] at e2
  rw [e1, e2, set_l (by rw [RW_len]; exact h), RW_set]
  rfl
theorem ro_dK (h : i < nD) : (E ++ (RO cI pd pt pk pu nD nT nK nC g st ct cu ++ K))[E.length + i]? = some (pd i, .inl (cI, 5, .inl (fun w => g w i))) := by
  rw [← List.append_assoc]; exact app_l (ro_d h)
theorem ro_tK (h : i < nT) : (E ++ (RO cI pd pt pk pu nD nT nK nC g st ct cu ++ K))[E.length + (nD + i)]? = some (pt i, .inl (cI, 2, .inl (fun w => st w i))) := by
  rw [← List.append_assoc]; exact app_l (ro_t h)
theorem ro_kK (h : i < nK) : (E ++ (RO cI pd pt pk pu nD nT nK nC g st ct cu ++ K))[E.length + (nD + (nT + i))]? = some (pk i, .inl (cI, 3, .inl (fun w => ct w i))) := by
  rw [← List.append_assoc]; exact app_l (ro_k h)
theorem ro_uK (h : i < nC) : (E ++ (RO cI pd pt pk pu nD nT nK nC g st ct cu ++ K))[E.length + (nD + (nT + (nK + i)))]? = some (pu i, .inl (cI, 4, .inl (fun w => cu w i))) := by
  rw [← List.append_assoc]; exact app_l (ro_u h)
theorem ro_dsK {k : Nat} {x : Int32} (h : i < nD) : (E ++ (RO cI pd pt pk pu nD nT nK nC g st ct cu ++ K)).set (E.length + i) (pd i, .inl (cI, 5, .inl (upd (fun w => g w i) k x))) = E ++ (RO cI pd pt pk pu nD nT nK nC (um g k i x) st ct cu ++ K) := by
  rw [← List.append_assoc, set_l ?_, ro_ds h, List.append_assoc]
  rw [List.length_append, RO, List.length_append, RW_len]
  omega
/-- a new row, and where it belongs -/
theorem ro_addD {x : Nat} {g' : Mx} (h : ∀ i : Nat, i < nD → ∀ w, g w i = g' w i) : ((x, .inl (cI, 5, .inl (fun w => g' w nD))) :: (E ++ (RO cI pd pt pk pu nD nT nK nC g st ct cu ++ K)) : va_W).Perm (E ++ (RO cI (upn pd nD x) pt pk pu (nD + 1) nT nK nC g' st ct cu ++ K)) := by
  have e : RW cI (upn pd nD x) (nD + 1) 5 g' = RW cI pd nD 5 g ++ [(x, .inl (cI, 5, .inl (fun w => g' w nD)))] := by
    rw [RW_succ, RW_cong (p' := pd) (g' := g) (fun i hi => ⟨upn_n (by omega), fun w => (h i hi w).symm⟩), upn_s]
  rw [RO, RO, e]
  simp only [List.append_assoc, List.cons_append, List.nil_append]
  exact pm2
theorem ro_addT {x : Nat} {st' : Mx} (h : ∀ i : Nat, i < nT → ∀ w, st w i = st' w i) : ((x, .inl (cI, 2, .inl (fun w => st' w nT))) :: (E ++ (RO cI pd pt pk pu nD nT nK nC g st ct cu ++ K)) : va_W).Perm (E ++ (RO cI pd (upn pt nT x) pk pu nD (nT + 1) nK nC g st' ct cu ++ K)) := by
  have e : RW cI (upn pt nT x) (nT + 1) 2 st' = RW cI pt nT 2 st ++ [(x, .inl (cI, 2, .inl (fun w => st' w nT)))] := by
    rw [RW_succ, RW_cong (p' := pt) (g' := st) (fun i hi => ⟨upn_n (by omega), fun w => (h i hi w).symm⟩), upn_s]
  rw [RO, RO, e]
  simp only [List.append_assoc, List.cons_append, List.nil_append]
  exact pm3
theorem ro_addK {x : Nat} {ct' : Mx} (h : ∀ i : Nat, i < nK → ∀ w, ct w i = ct' w i) : ((x, .inl (cI, 3, .inl (fun w => ct' w nK))) :: (E ++ (RO cI pd pt pk pu nD nT nK nC g st ct cu ++ K)) : va_W).Perm (E ++ (RO cI pd pt (upn pk nK x) pu nD nT (nK + 1) nC g st ct' cu ++ K)) := by
  have e : RW cI (upn pk nK x) (nK + 1) 3 ct' = RW cI pk nK 3 ct ++ [(x, .inl (cI, 3, .inl (fun w => ct' w nK)))] := by
    rw [RW_succ, RW_cong (p' := pk) (g' := ct) (fun i hi => ⟨upn_n (by omega), fun w => (h i hi w).symm⟩), upn_s]
  rw [RO, RO, e]
  simp only [List.append_assoc, List.cons_append, List.nil_append]
  exact pm4
theorem ro_addU {x : Nat} {cu' : Mx} (h : ∀ i : Nat, i < nC → ∀ w, cu w i = cu' w i) : ((x, .inl (cI, 4, .inl (fun w => cu' w nC))) :: (E ++ (RO cI pd pt pk pu nD nT nK nC g st ct cu ++ K)) : va_W).Perm (E ++ (RO cI pd pt pk (upn pu nC x) nD nT nK (nC + 1) g st ct cu' ++ K)) := by
  have e : RW cI (upn pu nC x) (nC + 1) 4 cu' = RW cI pu nC 4 cu ++ [(x, .inl (cI, 4, .inl (fun w => cu' w nC)))] := by
    rw [RW_succ, RW_cong (p' := pu) (g' := cu) (fun i hi => ⟨upn_n (by omega), fun w => (h i hi w).symm⟩), upn_s]
  rw [RO, RO, e]
  simp only [List.append_assoc, List.cons_append, List.nil_append]
  exact pm5
end RO
/-- a row of references is told by its first n -/
theorem ext_R {D : va_G} {cA : ClassId} {w : va_W} {H : Heap} (hP : va_P D vwCl w H) (q : Nat) {a n : Nat} {f f' : Nat → Option Nat} (ha : w[q]? = some (a, .inl (cA, n, .inr (.inr (.inr (.inr f)))))) (he : ∀ j : Nat, j < n → f j = f' j) : va_P D vwCl (w.set q (a, .inl (cA, n, .inr (.inr (.inr (.inr f')))))) H := by
  have hc : vp_cell cA (n, .inr (.inr (.inr (.inr f)))) = vp_cell cA (n, .inr (.inr (.inr (.inr f')))) := by
    rw [vp_cell_q, vp_cell_q]
    exact congrArg (fun (z : Fin n → Value) => ({ cls := cA, slots := Array.ofFn z, vm := .none } : Cell)) (funext fun j => by
      show va_rf (f j.val) = va_rf (f' j.val)
      rw [he j.val j.isLt])
  intro k x hk
  by_cases hkq : k = q
  · subst hkq
    have hlt : k < w.length := (List.getElem?_eq_some_iff.mp ha).1
    rw [List.getElem?_set_self hlt] at hk
    cases hk
    have h0 := hP k _ ha
    show H[a]? = some (vp_cell cA (n, .inr (.inr (.inr (.inr f')))))
    rw [← hc]
    exact h0
  · rw [List.getElem?_set_ne (fun e => hkq e.symm)] at hk
    exact hP k x hk
