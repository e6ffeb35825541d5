/-! rows of rows at one stroke, and what the law writes into them -/
section MNA
variable {p : Program} {l : Launch} {e : Env} {R : Room} {s : State} {m : MethodId} {args : Array Value} {below : List Frame} {meth : Method} {c : Code} {H : Heap} {locs : List Loc} {cells slots : Nat} {Q : State → Prop}
variable {cc : ByteArray} {pc : Nat} {ls : Array Slot} {rest : List Value} {A : Nat → Prop} {D : va_G} {cI cA : ClassId} {w : va_W} {H0 : Heap}
theorem mnaI (hexec : p.tables.exec = Jvm.exec) (hb : c.code = cc) {own : String} {index : Nat} (hown : s.vm.findClass own = some m.cls) (hclink : (Cond.classLink own index "[[I").before args s = true) (hk : kR D cI cA s) (harr : (Cond.arrayClass .int).before args s = true) (hP : va_P D vwCl w H) (hD : va_D A w) (hS : va_S A H0 H locs) (hA : ∀ q, H0.size ≤ q → A q)
    {n k : Int32} {N' K' : Nat} (hn : ¬ n < 0) (hk0 : ¬ k < 0) (hN : n.toNatClampNeg = N') (hM : k.toNatClampNeg = K') (hb1 : N' * 4 ≤ 536870912) (hb2 : K' * 4 ≤ 536870912) (hb3 : K' ≤ 536870912) (hz : ∀ c : ClassId, Jvm.Free.Multi.innerC c K' (.int 0) = vp_cell c (K', .inl (fun _ => 0))) (hcells : cells + (1 + N') ≤ R.cells) (hslots : slots + (N' + N' * K') ≤ R.slots) (hdg : decode cc pc = .ok (.multianewarray index 2, 4))
    (kk : ∀ (q : Nat) (r : Nat → Nat) (H1 : Heap), va_P D vwCl ((q, .inl (cA, N', .inr (.inr (.inr (.inr (fun v9 => some (r v9))))))) :: (w ++ RW cI r N' K' (fun _ _ => 0))) H1 → va_D A ((q, .inl (cA, N', .inr (.inr (.inr (.inr (fun v9 => some (r v9))))))) :: (w ++ RW cI r N' K' (fun _ _ => 0))) → va_S A H0 H1 locs →
      W p l e R s m args below meth c H1 locs (cells + 1 + N') (slots + N' + N' * K') Q (F0 m (pc + 4) ls (.ref q :: rest))) : W p l e R s m args below meth c H locs cells slots Q (F0 m pc ls (.int k :: .int n :: rest)) := by
  refine va_mna (X := w) (L := []) (f := fun _ => .inr (0, [])) (ty := .int) (cy := cI) (z := (K', .inl (fun _ => 0))) hexec hb hown (by rw [show "[" ++ (FieldType.array FieldType.int).toString = "[[I" by decide +kernel]; exact hclink) hk.2.1.1 harr (by rw [show (FieldType.array FieldType.int).toString = "[I" by decide +kernel]; exact clsI hk.1) hk.1.1 (by rw [show va_pl [] (fun _ => (.inr (0, []) : va_E)) = [] from rfl, List.append_nil]; exact hP) (by rw [show va_pl [] (fun _ => (.inr (0, []) : va_E)) = [] from rfl, List.append_nil]; exact hD) hS hA hn hk0 hN hM hb1 hb2 hb3 rfl rfl hcells hslots hz hdg (fun q r cB H1 _ _ hKB hP1 hD1 hS1 => ?_)
  have hcB : cA = cB := by
    have h1 : s.vm.findClass ("[" ++ (FieldType.array .int).toString) = some cB := (hKB.2 1 (cB, .array .int) rfl).2
    exact Option.some.inj (hk.2.2.symm.trans h1)
  subst hcB
  have e : va_pl ([] ++ (List.range N').map r) (vr_up (fun _ => .inr (0, [])) ((List.range N').map r) (.inl (cI, (K', .inl (fun _ => 0))))) = RW cI r N' K' (fun _ _ => 0) := by
    unfold va_pl RW
    rw [List.nil_append, List.map_map]
    apply List.map_congr_left
    intro i hi
    show (r i, vr_up _ _ _ (r i)) = _
    rw [vr_up_in (List.mem_map.mpr ⟨i, hi, rfl⟩)]
  rw [e] at hP1 hD1
  have hpm : ((w ++ [(q, (.inl (cA, N', .inr (.inr (.inr (.inr (fun i => if i < N' then some (r i) else none))))) : va_E))]) ++ RW cI r N' K' (fun _ _ => 0)).Perm ((q, .inl (cA, N', .inr (.inr (.inr (.inr (fun i => if i < N' then some (r i) else none)))))) :: (w ++ RW cI r N' K' (fun _ _ => 0))) := by
    rw [List.append_assoc]
    exact List.perm_middle
  have hP2 := P_perm hpm hP1
  have hD2 := D_perm hpm hD1
  have hP3 := ext_R (f' := fun v9 => some (r v9)) hP2 0 rfl (fun j hj => if_pos hj)
  have hD3 := hD2.set (p := 0) (e := .inl (cA, N', .inr (.inr (.inr (.inr (fun v9 => some (r v9))))))) rfl
  exact kk q r H1 hP3 hD3 hS1
end MNA
def fill5 (g : Mx) : Nat → Mx
  | 0 => fun _ _ => 0
  | i + 1 => um (um (um (um (um (fill5 g i) 0 i (g 0 i)) 1 i (g 1 i)) 2 i (g 2 i)) 3 i (g 3 i)) 4 i (g 4 i)
theorem fill5_g {g : Mx} {w d : Nat} (hw : w < 5) : ∀ n : Nat, d < n → fill5 g n w d = g w d
  | 0, h => absurd h (Nat.not_lt_zero d)
  | n + 1, h => by
    by_cases e : d = n
    · subst e
      show um (um (um (um (um (fill5 g d) 0 d (g 0 d)) 1 d (g 1 d)) 2 d (g 2 d)) 3 d (g 3 d)) 4 d (g 4 d) w d = g w d
      rcases (show w = 0 ∨ w = 1 ∨ w = 2 ∨ w = 3 ∨ w = 4 by omega) with rfl | rfl | rfl | rfl | rfl <;> exact pk_us
    · show um (um (um (um (um (fill5 g n) 0 n (g 0 n)) 1 n (g 1 n)) 2 n (g 2 n)) 3 n (g 3 n)) 4 n (g 4 n) w d = g w d
      rw [um_o e, um_o e, um_o e, um_o e, um_o e]
      exact fill5_g hw n (by omega)
def fill3 (g : Mx) : Nat → Mx
  | 0 => fun _ _ => 0
  | i + 1 => um (um (um (fill3 g i) 0 i (g 0 i)) 1 i (g 1 i)) 2 i (g 2 i)
theorem fill3_g {g : Mx} {w d : Nat} (hw : w < 3) : ∀ n : Nat, d < n → fill3 g n w d = g w d
  | 0, h => absurd h (Nat.not_lt_zero d)
  | n + 1, h => by
    by_cases e : d = n
    · subst e
      show um (um (um (fill3 g d) 0 d (g 0 d)) 1 d (g 1 d)) 2 d (g 2 d) w d = g w d
      rcases (show w = 0 ∨ w = 1 ∨ w = 2 by omega) with rfl | rfl | rfl <;> exact pk_us
    · show um (um (um (fill3 g n) 0 n (g 0 n)) 1 n (g 1 n)) 2 n (g 2 n) w d = g w d
      rw [um_o e, um_o e, um_o e]
      exact fill3_g hw n (by omega)
/-- what is at hand in the law's walk -/
def FLp (p : Program) (s : State) (m : MethodId) (c : Code) (bs L : Nat) (xs : Nat → Int32) (D : va_G) (cI cA : ClassId) (A : Nat → Prop) : Prop :=
  p.tables.exec = Jvm.exec ∧ c.code = cL_law ∧ c.maxLocals = 27 ∧ s.vm.findClass RL = some m.cls ∧ (∀ w ∈ wsL_law, w.before #[Value.ref bs] s = true) ∧ va_X bs L xs s s.heap ∧ bs < s.heap.size ∧ kR D cI cA s ∧ L ≤ 260 ∧ (∀ q : Nat, s.heap.size ≤ q → A q) ∧ ¬ A bs
theorem tkN_le {nC : Nat} {cu : Mx} {S : SH} : tkN nC cu S ≤ nC := by
  rw [← du_tk]
  exact du_le S.1 nC
theorem nz0 {nC : Nat} {cu : Mx} {S : SH} (hC : nC ≤ 24) (h : nI (tkN nC cu S) = 0) : tkN nC cu S = 0 := by
  have h1 := tkN_le (nC := nC) (cu := cu) (S := S)
  exact Nat.le_antisymm (Nat.not_lt.mp (fun q => nI_ne0 q (by omega) h)) (Nat.zero_le _)
