/-! what the Statement gives of the start -/
theorem st_of {b : Nat} {s : State} (k : Nat) (tx : String) (h1 : (Cond.stringRef RX5 k tx).before #[Value.ref b] s = true) (h2 : (Cond.exactly (Term.string RX5 k) "java/lang/String").before #[Value.ref b] s = true) : ∃ a : Nat, vk_R RX5 k tx a s := by
  obtain ⟨a, -, -, -, ha, -⟩ := Cond.exactly_spec h2
  refine ⟨a, ?_, ?_⟩
  · first
      | exact va_tabs rfl rfl h1
      | (simp only [Cond.before, Cond.holds, Cond.value, State.names, State.poolOf?, State.resolvedAt?] at h1 ⊢; exact h1)
  · rw [Term.string_eval_of_vm (U := s) (args := #[Value.ref b]) rfl]
    exact ha
theorem arr_of {b : Nat} {s : State} {ty : FieldType} (h : (Cond.arrayClass ty).before #[Value.ref b] s = true) : ∃ cA : ClassId, ArrOfT s cA ty ∧ s.vm.findClass ("[" ++ ty.toString) = some cA := by
  obtain ⟨cA, kA, comp, h1, h2, h3⟩ := Cond.arrayClass_spec h
  exact ⟨cA, fun N z => ⟨(fun k h => by cases h), kA, h2, comp, h3⟩, h1⟩
set_option maxRecDepth 100000 in
theorem strs_of {b : Nat} {s : State} (hts : ∀ w ∈ lw_tbl, w.before #[Value.ref b] s = true) (hg : ∀ w ∈ flatC (Jvm.Cond.and given_1 narrow_1), w.before #[Value.ref b] s = true) : ∀ q ∈ xstr, ∃ a : Nat, vk_R RX5 q.1 q.2 a s := by
  intro q hq
  simp only [xstr, List.mem_cons, List.not_mem_nil, or_false] at hq
  rcases hq with rfl | rfl | rfl | rfl | rfl | rfl | rfl | rfl | rfl | rfl | rfl | rfl | rfl | rfl | rfl | rfl | rfl | rfl | rfl | rfl | rfl | rfl <;> exact st_of _ _ (hts _ (by decide +kernel)) (hg _ (by decide +kernel))
theorem nws_of {b : Nat} {s : State} (hts : ∀ w ∈ lw_tbl, w.before #[Value.ref b] s = true) : ∀ w ∈ nwl, va_Nw w s := by
  intro w hw
  simp only [nwl, List.mem_cons, List.not_mem_nil, or_false] at hw
  rcases hw with rfl | rfl | rfl | rfl | rfl | rfl | rfl <;> exact va_Nw.of rfl (hts _ (by decide +kernel))
theorem kw_of {b : Nat} {s : State} (hts : ∀ w ∈ lw_tbl, w.before #[Value.ref b] s = true) : ∃ (D : va_G) (cI : ClassId), kw D cI s := by
  have h : ∀ (C : String) (T : u_T) (N n : Nat), (∀ w ∈ u_ws C T N, w ∈ lw_tbl) → Cond.instantiable C n ∈ lw_tbl → ∃ (c : ClassId) (iS : Nat → Nat), u_Kn s C T N c iS := fun C T N n hin hi => u_known hts hin (hts _ hi)
  obtain ⟨c0, i0, k0⟩ := h RX0 TX0 4 4 inX0 (by decide +kernel)
  obtain ⟨c1, i1, k1⟩ := h RX1 TX1 5 5 inX1 (by decide +kernel)
  obtain ⟨c2, i2, k2⟩ := h RX2 TX2 6 6 inX2 (by decide +kernel)
  obtain ⟨c3, i3, k3⟩ := h RX3 TX3 9 9 inX3 (by decide +kernel)
  obtain ⟨c4, i4, k4⟩ := h RX4 TX4 3 3 inX4 (by decide +kernel)
  obtain ⟨c5, i5, k5⟩ := h RX5 TX5 4 4 inX5 (by decide +kernel)
  obtain ⟨c6, i6, k6⟩ := h RX6 TX6 9 9 inX6 (by decide +kernel)
  obtain ⟨cI, a1, a2⟩ := arr_of (ty := .int) (hts _ (by decide +kernel))
  refine ⟨(fun k => match k with | 0 => c0 | 1 => c1 | 2 => c2 | 3 => c3 | 4 => c4 | 5 => c5 | _ => c6, fun k => match k with | 0 => i0 | 1 => i1 | 2 => i2 | 3 => i3 | 4 => i4 | 5 => i5 | _ => i6), cI, ⟨fun k q hq => ?_, fun k q hq => ?_⟩, nws_of hts⟩
  · match k, hq with
    | 0, hq => cases hq; exact k0
    | 1, hq => cases hq; exact k1
    | 2, hq => cases hq; exact k2
    | 3, hq => cases hq; exact k3
    | 4, hq => cases hq; exact k4
    | 5, hq => cases hq; exact k5
    | 6, hq => cases hq; exact k6
    | k + 7, hq => simp [vwCl] at hq
  · match k, hq with
    | 0, hq => cases hq; exact ⟨a1, a2⟩
    | k + 1, hq => simp at hq
theorem kx_of {b : Nat} {s : State} {D : va_G} {cI : ClassId} (hk : kw D cI s) (hts : ∀ w ∈ lw_tbl, w.before #[Value.ref b] s = true) (hg : ∀ w ∈ flatC (Jvm.Cond.and given_1 narrow_1), w.before #[Value.ref b] s = true) : kx D cI s :=
  ⟨hk, strs_of hts hg, ⟨va_Nw.of rfl (hts _ (by decide +kernel)), va_Nw.of rfl (hts _ (by decide +kernel)), va_Nw.of rfl (hts _ (by decide +kernel))⟩, ⟨va_Nc.of (hg _ (by decide +kernel)), va_Nc.of (hg _ (by decide +kernel)), va_Nc.of (hg _ (by decide +kernel)), va_Nc.of (hg _ (by decide +kernel)), va_Nc.of (hg _ (by decide +kernel)), va_Nc.of (hg _ (by decide +kernel))⟩, va_Nw.of rfl (hts _ (by decide +kernel)), va_Nw.of rfl (hts _ (by decide +kernel)), va_Nw.of rfl (hts _ (by decide +kernel))⟩
theorem kR_of {b : Nat} {s : State} {D : va_G} {cI : ClassId} (hk : kw D cI s) (hts : ∀ w ∈ lw_tbl, w.before #[Value.ref b] s = true) : ∃ cA : ClassId, kR D cI cA s := by
  have h1 : (Cond.arrayOver (.array .int)).before #[Value.ref b] s = true := hts _ (by decide +kernel)
  obtain ⟨comp, c, k, hc, hi, hk2, hkind, hn⟩ := arrayOverA_spec h1
  exact ⟨c, hk, ⟨over_moved (Vm.Alike.refl s.vm) h1, va_Nw.of rfl (hts _ (by decide +kernel))⟩, hn⟩
theorem zx_of {b : Nat} {s : State} (hts : ∀ w ∈ lw_tbl, w.before #[Value.ref b] s = true) (hg : ∀ w ∈ flatC (Jvm.Cond.and given_1 narrow_1), w.before #[Value.ref b] s = true) : zx (fun q : Nat => s.heap.size ≤ q) s s.heap :=
  ⟨vx_Zqof (hts _ (by decide +kernel)) (hts _ (by decide +kernel)) (hg _ (by decide +kernel)) (fun a h => Nat.not_le.mpr h), vx_Zqof (hts _ (by decide +kernel)) (hts _ (by decide +kernel)) (hg _ (by decide +kernel)) (fun a h => Nat.not_le.mpr h)⟩
