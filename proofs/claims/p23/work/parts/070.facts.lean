/-! the law's own checks, one by one -/
theorem imax_comm (x y : Int32) : imax x y = imax y x := te (by rw [imax_i, imax_i]; omega)
theorem imin_comm (x y : Int32) : imin x y = imin y x := te (by rw [imin_i, imin_i]; omega)
section FACTS
variable {nD nT nC : Nat} {st cu : Mx} {S : SH}
theorem f_p {i : Nat} (hi : i < nD) : (tk nD nC cu S).2.1 0 i = S.2.1 0 i := by
  show dGo (tk1 nC cu S).2.1 nD 0 i = _
  rw [dGo_i nD hi, dSt_0]
  exact (tk1_all nC cu S).2.1 0 i (by decide)
theorem f_c {i : Nat} (hi : i < nD) : (tk nD nC cu S).2.1 3 i = S.2.1 3 i := by
  show dGo (tk1 nC cu S).2.1 nD 3 i = _
  rw [dGo_i nD hi, dSt_3]
  exact (tk1_all nC cu S).2.1 3 i (by decide)
theorem f_a {i : Nat} (hi : i < nD) : (tk nD nC cu S).2.1 2 i = (tk1 nC cu S).2.1 2 i := by
  show dGo (tk1 nC cu S).2.1 nD 2 i = _
  rw [dGo_i nD hi, dSt_2]
theorem f_dv {i : Nat} (hi : i < nD) : dLv (tk1 nC cu S).2.1 i = ap (S.2.1 1 i) ((tk nD nC cu S).2.1 2 i) (S.2.1 3 i) := by
  rw [f_a hi]
  unfold dLv
  rw [(tk1_all nC cu S).2.1 1 i (by decide), (tk1_all nC cu S).2.1 3 i (by decide)]
theorem f_l {i : Nat} (hi : i < nD) : (tk nD nC cu S).2.1 4 i = imax 0 (S.2.1 4 i - ap (S.2.1 1 i) ((tk nD nC cu S).2.1 2 i) (S.2.1 3 i) / 10) := by
  show dGo (tk1 nC cu S).2.1 nD 4 i = _
  rw [dGo_i nD hi, dSt_4, dLf, f_dv hi, (tk1_all nC cu S).2.1 4 i (by decide)]
theorem f_v {i : Nat} (hi : i < nD) : (tk nD nC cu S).2.1 1 i = if (tk nD nC cu S).2.1 4 i = 0 then 0 else ap (S.2.1 1 i) ((tk nD nC cu S).2.1 2 i) (S.2.1 3 i) := by
  have h4 : (tk nD nC cu S).2.1 4 i = dLf (tk1 nC cu S).2.1 i := by
    show dGo (tk1 nC cu S).2.1 nD 4 i = _
    rw [dGo_i nD hi, dSt_4]
  rw [h4]
  show dGo (tk1 nC cu S).2.1 nD 1 i = _
  rw [dGo_i nD hi, dSt_1, f_dv hi]
theorem f_a0 {i : Nat} (hi : i < nD) (h : tkN nC cu S = 0) : (tk nD nC cu S).2.1 2 i = S.2.1 2 i := by
  rw [f_a hi, (tk1_none h).2.2]
theorem f_lt {tm i : Nat} (hi : i < nD) (h : pOK tm nD nT nC st cu S) : ((tk nD nC cu S).2.1 4 i).toInt ≤ (S.2.1 4 i).toInt := by
  obtain ⟨⟨h1, h2, h3, h4, h5, h6⟩, hl, hs, hq, hc⟩ := h
  have h7 := (dLf_b (tk1_OK h4 h6).2.1 (rc_lf (nC := nC) (cu := cu) hl) hi).2
  rw [(tk1_all nC cu S).2.1 4 i (by decide)] at h7
  show (dGo (tk1 nC cu S).2.1 nD 4 i).toInt ≤ _
  rw [dGo_i nD hi, dSt_4]
  exact h7
theorem f_1 {f t s : Int32} (h : ¬ t ≤ f) : imin t (f + s) = ap f t s := by rw [ap, if_neg h, imin_comm]
theorem f_2 {f t s : Int32} (h : t ≤ f) : imax t (f - s) = ap f t s := by rw [ap, if_pos h, imax_comm]
/-- comets -/
theorem f_n : S.2.2.1 ≤ (tk nD nC cu S).2.2.1 := (tk1_all nC cu S).2.2.1
theorem f_k1 {i : Nat} (hi : i < S.2.2.1) : (tk nD nC cu S).2.2.2 1 i = S.2.2.2 1 i := by
  have h2 := (tk1_all nC cu S).2.2.2
  have hn := (tk1_all nC cu S).2.2.1
  show cGo (tk1 nC cu S).2.2.2 (tk1 nC cu S).2.2.1 1 i = _
  by_cases hz : S.2.2.2 2 i ≤ 0
  · rw [cGo_z (by omega) (by rw [h2 2 i hi]; exact hz)]; exact h2 1 i hi
  · rw [(cGo_p (by omega) (by rw [h2 2 i hi]; exact hz)).2.1]; exact h2 1 i hi
theorem f_k2 {i : Nat} (hi : i < S.2.2.1) (hc : cOK S.2.2.1 S.2.2.2) : (tk nD nC cu S).2.2.2 2 i = imax 0 (S.2.2.2 2 i - 1) := by
  have h2 := (tk1_all nC cu S).2.2.2
  have hn := (tk1_all nC cu S).2.2.1
  have hb := (hc i hi).2.2
  show cGo (tk1 nC cu S).2.2.2 (tk1 nC cu S).2.2.1 2 i = _
  unfold bnd at hb
  have h3 := i_sub (x := S.2.2.2 2 i) (y := 1) (by rw [t1]; omega) (by rw [t1]; omega)
  have h4 := imax_i 0 (S.2.2.2 2 i - 1)
  rw [t1] at h3
  rw [t0] at h4
  by_cases hz : S.2.2.2 2 i ≤ 0
  · rw [cGo_z (by omega) (by rw [h2 2 i hi]; exact hz), h2 2 i hi]
    have := tl.mp hz
    rw [t0] at this
    exact te (by omega)
  · rw [(cGo_p (by omega) (by rw [h2 2 i hi]; exact hz)).2.2, h2 2 i hi]
    have : ¬ (S.2.2.2 2 i).toInt ≤ 0 := fun q => hz (tl.mpr (by rw [t0]; exact q))
    exact te (by omega)
theorem f_k0 {i : Nat} (hi : i < S.2.2.1) (hc : cOK S.2.2.1 S.2.2.2) : (tk nD nC cu S).2.2.2 0 i = if S.2.2.2 2 i = 0 then S.2.2.2 0 i else irm (S.2.2.2 0 i + S.2.2.2 1 i + 360) 360 := by
  have h2 := (tk1_all nC cu S).2.2.2
  have hn := (tk1_all nC cu S).2.2.1
  obtain ⟨b0, b1, b2⟩ := hc i hi
  show cGo (tk1 nC cu S).2.2.2 (tk1 nC cu S).2.2.1 0 i = _
  by_cases hz : S.2.2.2 2 i = 0
  · rw [cGo_z (by omega) (by rw [h2 2 i hi, hz]; decide), if_pos hz]; exact h2 0 i hi
  · have hz2 : ¬ S.2.2.2 2 i ≤ 0 := fun q => by
      have := tl.mp q
      rw [t0] at this
      exact hz (te (by have := b2.1; rw [t0]; omega))
    rw [(cGo_p (by omega) (by rw [h2 2 i hi]; exact hz2)).1, if_neg hz, h2 0 i hi, h2 1 i hi]
    exact (tnd_rd b0 ⟨by have := b1.1; omega, by have := b1.2; omega⟩).1.symm
theorem f_kz {i : Nat} (h : (tk nD nC cu S).2.2.2 2 i = 0) : csI nD (tk nD nC cu S).2.1 (tk nD nC cu S).2.2.2 i = 0 := if_pos (by rw [h]; decide)
/-- clock, ball, narrator -/
theorem f_ck : (tk nD nC cu S).1 1 = S.1 1 + (if S.1 2 = 0 then 0 else 1) := by
  rw [tk_clock]
  split
  · exact (Int32.add_zero _).symm
  · rfl
theorem f_bl {tm : Nat} (h : pOK tm nD nT nC st cu S) : (tk nD nC cu S).1 5 = irm (S.1 5 + (tk nD nC cu S).1 6 + 360) 360 := by
  obtain ⟨⟨h1, h2, h3, h4, h5, h6⟩, hl, hs, hq, hc⟩ := h
  have k := tk1_OK h4 h6
  have e : (tk1 nC cu S).1 5 = S.1 5 := (tk1_all nC cu S).1
  show tnd ((tk1 nC cu S).1 5) ((tk1 nC cu S).1 6) = irm (S.1 5 + (tk1 nC cu S).1 6 + 360) 360
  rw [e]
  exact (tnd_rd h4.2.2.2.2.1 k.2.2.2.2.2).1.symm
theorem f_rn (h : S.1 2 = 0) : (tk nD nC cu S).1 2 = 0 := by
  show (tk1 nC cu S).1 2 = 0
  rw [tk1, if_pos h]
  exact h
theorem f_d0 (h : S.1 2 = 0) : tkN nC cu S = 0 := if_pos h
theorem f_lf {tm : Nat} (h : pOK tm nD nT nC st cu S) (hd : tkN nC cu S = 0) : (tk nD nC cu S).1 4 = imax 0 (S.1 4 - 1) := by
  obtain ⟨-, -, ⟨⟨a1, a2⟩, -⟩, -⟩ := h
  show sp4 (tk2 (tk1 nC cu S).1) = _
  have e : (tk2 (tk1 nC cu S).1) 4 = S.1 4 := (tk1_none hd).2.1
  have h3 := i_sub (x := S.1 4) (y := 1) (by rw [t1]; omega) (by rw [t1]; omega)
  have h4 := imax_i 0 (S.1 4 - 1)
  rw [t1] at h3
  rw [t0] at h4
  unfold sp4
  rw [e]
  split
  · rename_i z
    have := tl.mp z
    rw [t0] at this
    exact te (by omega)
  · rename_i z
    have : ¬ (S.1 4).toInt ≤ 0 := fun q => z (tl.mpr (by rw [t0]; exact q))
    exact te (by omega)
theorem f_ln {tm : Nat} (h : pOK tm nD nT nC st cu S) (hd : tkN nC cu S = 0) : (tk nD nC cu S).1 3 = if S.1 4 ≤ 1 then -1 else S.1 3 := by
  have hl := f_lf h hd
  obtain ⟨-, -, ⟨⟨a1, a2⟩, -⟩, -⟩ := h
  have h3 := i_sub (x := S.1 4) (y := 1) (by rw [t1]; omega) (by rw [t1]; omega)
  have h4 := imax_i 0 (S.1 4 - 1)
  rw [t1] at h3
  rw [t0] at h4
  show sp3 (tk2 (tk1 nC cu S).1) = _
  have e4 : sp4 (tk2 (tk1 nC cu S).1) = imax 0 (S.1 4 - 1) := hl
  have e3 : (tk2 (tk1 nC cu S).1) 3 = S.1 3 := (tk1_none hd).1
  unfold sp3
  rw [e4, e3]
  by_cases z : S.1 4 ≤ 1
  · have := tl.mp z
    rw [t1] at this
    rw [if_pos z, if_pos (te (by rw [t0]; omega))]
  · have : ¬ (S.1 4).toInt ≤ 1 := fun q => z (tl.mpr (by rw [t1]; exact q))
    rw [if_neg z, if_neg (fun q => by rw [q, t0] at h4; omega)]
theorem sp_iff {nu : Nat → Int32} (h : spOK nu) : nu 3 < 0 ↔ nu 4 = 0 := by
  obtain ⟨-, b, c⟩ := h
  constructor
  · intro q
    by_cases z : nu 4 = 0
    · exact z
    · have := (c z).1
      have q2 := tlt.mp q
      rw [t0] at q2
      omega
  · intro z
    rw [b z]
    decide
/-- cues that are due -/
theorem hw_self (cu : Mx) (t : Int32) : ∀ n : Nat, hwI cu t t n = 0
  | 0 => rfl
  | n + 1 => by
    rw [hwI, if_pos (hw_self cu t n), hw1]
    split
    · split
      · rfl
      · rename_i z
        rw [if_pos (Int32.not_lt.mp z)]
    · rfl
theorem lirr {x : Int32} : ¬ x < x := fun h => Int32.lt_irrefl h
theorem sub1 {x y : Int32} (h : x - y + 1 = 1) : x = y := by
  have e1 : x = x - y + y := (Int32.sub_add_cancel x y).symm
  have e2 : x - y = x - y + 1 - 1 := (Int32.add_sub_cancel (x - y) 1).symm
  rw [e1, e2, h]
  show 0 + y = y
  exact Int32.zero_add y
theorem wh_1 {nu : Nat → Int32} {c : Nat} : whI nC cu nu c = 1 ↔ ¬ nu 2 = 0 ∧ cu 0 c = nu 1 := by
  unfold whI
  constructor
  · intro h
    split at h
    · exact absurd h (by decide)
    · rename_i z
      split at h
      · exact absurd h (by decide)
      · split at h
        · exact ⟨z, sub1 h⟩
        · exact absurd h (by decide)
  · intro ⟨z, e⟩
    rw [if_neg z, e, if_neg lirr, if_pos (hw_self cu _ _), Int32.sub_self]
    rfl
def duN (nC : Nat) (cu : Mx) (nu : Nat → Int32) : Nat → Nat
  | 0 => 0
  | i + 1 => if whI nC cu nu i = 1 then duN nC cu nu i + 1 else duN nC cu nu i
theorem du_le (nu : Nat → Int32) : ∀ i : Nat, duN nC cu nu i ≤ i
  | 0 => Nat.le_refl _
  | i + 1 => by
    have := du_le nu i
    rw [duN]
    split <;> omega
theorem du_rc {nu : Nat → Int32} : ∀ i : Nat, duN nC cu nu i = if nu 2 = 0 then 0 else rcN cu (nu 1) i
  | 0 => by
    rw [duN]
    split <;> rfl
  | i + 1 => by
    rw [duN, du_rc i]
    by_cases z : nu 2 = 0
    · rw [if_pos z, if_pos z, if_neg (fun q => (wh_1.mp q).1 z)]
    · rw [if_neg z, if_neg z, rcN]
      by_cases e : cu 0 i = nu 1
      · rw [if_pos e, if_pos (wh_1.mpr ⟨z, e⟩)]
      · rw [if_neg e, if_neg (fun q => e (wh_1.mp q).2)]
theorem du_tk : duN nC cu S.1 nC = tkN nC cu S := du_rc nC
theorem tkC_1 : tkC nD nC cu S 1 = tkN nC cu S := Nat.zero_add _
/-- the next cue -/
theorem fb_0 {t : Nat → Int32} {ck : Int32} : ∀ i : Nat, fbS t ck i = 0 → ∀ k : Nat, k < i → t k < ck
  | 0, _, k, hk => absurd hk (Nat.not_lt_zero k)
  | i + 1, h, k, hk => by
    rw [fbS] at h
    by_cases a : t i < ck
    · rw [if_pos a] at h
      by_cases e : k = i
      · rw [e]; exact a
      · exact fb_0 i h k (by omega)
    · rw [if_neg a] at h
      split at h
      · omega
      · rename_i z
        split at h <;> omega
theorem fb_1 {t : Nat → Int32} {ck : Int32} : ∀ (i j : Nat), fbS t ck i = j + 1 → j < i ∧ ¬ t j < ck ∧ ∀ k : Nat, k < i → ¬ t k < ck → t j ≤ t k
  | 0, _, h => by simp [fbS] at h
  | i + 1, j, h => by
    rw [fbS] at h
    by_cases a : t i < ck
    · rw [if_pos a] at h
      obtain ⟨h1, h2, h3⟩ := fb_1 i j h
      refine ⟨by omega, h2, fun k hk hn => ?_⟩
      by_cases e : k = i
      · rw [e] at hn; exact absurd a hn
      · exact h3 k (by omega) hn
    · rw [if_neg a] at h
      by_cases b : fbS t ck i = 0
      · rw [if_pos b] at h
        obtain rfl : i = j := by omega
        refine ⟨by omega, a, fun k hk hn => ?_⟩
        by_cases e : k = i
        · rw [e]; exact Int32.le_refl _
        · exact absurd (fb_0 i b k (by omega)) hn
      · rw [if_neg b] at h
        obtain ⟨q, hq⟩ : ∃ q, fbS t ck i = q + 1 := ⟨fbS t ck i - 1, by omega⟩
        obtain ⟨h1, h2, h3⟩ := fb_1 i q hq
        rw [hq] at h
        by_cases d : t (q + 1 - 1) ≤ t i
        · rw [if_pos d] at h
          obtain rfl : q = j := by omega
          rw [Nat.add_sub_cancel] at d
          refine ⟨by omega, h2, fun k hk hn => ?_⟩
          by_cases e : k = i
          · rw [e]; exact d
          · exact h3 k (by omega) hn
        · rw [if_neg d] at h
          obtain rfl : i = j := by omega
          rw [Nat.add_sub_cancel] at d
          refine ⟨by omega, a, fun k hk hn => ?_⟩
          by_cases e : k = i
          · rw [e]; exact Int32.le_refl _
          · exact Int32.le_trans (Int32.le_of_lt (Int32.not_le.mp d)) (h3 k (by omega) hn)
theorem hw_no {f t : Int32} : ∀ n : Nat, (∀ k : Nat, k < n → ¬ cu 0 k < f → t ≤ cu 0 k) → hwI cu f t n = 0
  | 0, _ => rfl
  | n + 1, h => by
    rw [hwI, if_pos (hw_no n (fun k hk => h k (by omega))), hw1]
    split
    · split
      · rfl
      · rename_i z
        rw [if_pos (h n (by omega) z)]
    · rfl
/-- the next cue is told to be run, if the clock runs -/
theorem nx_1 {tm j : Nat} (h : pOK tm nD nT nC st cu S) (ht : tm < 1000) (hj : fbS (cu 0) (S.1 1) nC = j + 1) (hr : ¬ S.1 2 = 0) : 1 ≤ whI nC cu S.1 j := by
  obtain ⟨⟨h1, h2, h3, h4, h5, h6⟩, hl, hs, hq, hc⟩ := h
  obtain ⟨a, b, d⟩ := fb_1 nC j hj
  unfold whI
  rw [if_neg hr, if_neg b, if_pos (hw_no nC d)]
  have hb := (h6 j a).1
  unfold bnd at hb hc
  have b2 : ¬ (cu 0 j).toInt < (S.1 1).toInt := fun q => b (tlt.mpr q)
  have e1 := i_sub (x := cu 0 j) (y := S.1 1) (by omega) (by omega)
  have e2 := i_add (x := cu 0 j - S.1 1) (y := 1) (by rw [t1]; omega) (by rw [t1]; omega)
  rw [t1] at e2
  exact tl.mpr (by rw [t1]; omega)
theorem nx_0 (h : fbS (cu 0) (S.1 1) nC = 0) : duN nC cu S.1 nC = 0 := by
  rw [du_rc]
  split
  · rfl
  · have g : ∀ i : Nat, i ≤ nC → rcN cu (S.1 1) i = 0 := by
      intro i
      induction i with
      | zero => intro _; rfl
      | succ i ih =>
        intro hi
        rw [rcN, if_neg (fun q => by have z := fb_0 nC h i (by omega); rw [q] at z; exact lirr z)]
        exact ih (by omega)
    exact g nC (Nat.le_refl _)
end FACTS
/-- how long a lamp lasts, a tick later -/
theorem ls_c (h : Nat → Int32) : ∀ k i : Nat, lsG h k i = -1 ∨ ∃ j : Nat, i ≤ j ∧ j < i + k ∧ h j ≤ 0 ∧ (∀ m : Nat, i ≤ m → m < j → ¬ h m ≤ 0) ∧ lsG h k i = nI j
  | 0, _ => Or.inl rfl
  | k + 1, i => by
    rw [lsG]
    by_cases e : h i ≤ 0
    · rw [if_pos e]
      exact Or.inr ⟨i, Nat.le_refl _, by omega, e, fun m h1 h2 => absurd h1 (by omega), rfl⟩
    · rw [if_neg e]
      rcases ls_c h k (i + 1) with h1 | ⟨j, a, b, c, d, f⟩
      · exact Or.inl h1
      · refine Or.inr ⟨j, by omega, by omega, c, fun m h1 h2 => ?_, f⟩
        by_cases q : m = i
        · rw [q]; exact e
        · exact d m (by omega) h2
theorem ls_e (h : Nat → Int32) : ∀ k i j : Nat, i ≤ j → j < i + k → h j ≤ 0 → (∀ m : Nat, i ≤ m → m < j → ¬ h m ≤ 0) → lsG h k i = nI j
  | 0, _, _, h1, h2, _, _ => absurd h2 (by omega)
  | k + 1, i, j, h1, h2, h3, h4 => by
    rw [lsG]
    by_cases e : i = j
    · subst e
      rw [if_pos h3]
    · rw [if_neg (h4 i (Nat.le_refl _) (by omega))]
      exact ls_e h k (i + 1) j (by omega) (by omega) h3 (fun m a b => h4 m (by omega) b)
theorem tkI_sh (nD nC : Nat) (cu : Mx) (S : SH) : ∀ i : Nat, tkI nD nC cu (tk nD nC cu S) i = tkI nD nC cu S (i + 1)
  | 0 => rfl
  | i + 1 => by
    show tk nD nC cu (tkI nD nC cu (tk nD nC cu S) i) = tk nD nC cu (tkI nD nC cu S (i + 1))
    rw [tkI_sh nD nC cu S i]
theorem ls_t {nD nC : Nat} {cu : Mx} {S : SH} {d : Nat} : (1 < lsG (lsH nD nC cu S d) 501 0 → lsG (lsH nD nC cu (tk nD nC cu S) d) 501 0 = lsG (lsH nD nC cu S d) 501 0 - 1) ∧ (lsG (lsH nD nC cu S d) 501 0 = 1 → (tk nD nC cu S).2.1 4 d ≤ 0) := by
  have sh : ∀ i : Nat, lsH nD nC cu (tk nD nC cu S) d i = lsH nD nC cu S d (i + 1) := fun i => by
    show (tkI nD nC cu (tk nD nC cu S) i).2.1 4 d = (tkI nD nC cu S (i + 1)).2.1 4 d
    rw [tkI_sh]
  rcases ls_c (lsH nD nC cu S d) 501 0 with h | ⟨j, a, b, c, e, f⟩
  · rw [h]
    exact ⟨fun q => absurd q (by decide), fun q => absurd q (by decide)⟩
  · rw [f]
    have hj := nI_toInt (show j < 2 ^ 31 by omega)
    refine ⟨fun q => ?_, fun q => ?_⟩
    · have q2 := tlt.mp q
      rw [t1, hj] at q2
      obtain ⟨m, rfl⟩ : ∃ m, j = m + 1 := ⟨j - 1, by omega⟩
      rw [ls_e (lsH nD nC cu (tk nD nC cu S) d) 501 0 m (by omega) (by omega) (by rw [sh]; exact c) (fun k h1 h2 => by rw [sh]; exact e (k + 1) (by omega) (by omega))]
      have hm := nI_toInt (show m < 2 ^ 31 by omega)
      have := i_sub (x := nI (m + 1)) (y := 1) (by rw [t1, hj]; omega) (by rw [t1, hj]; omega)
      exact te (by rw [this, hj, hm, t1]; omega)
    · have q2 := congrArg Int32.toInt q
      rw [t1, hj] at q2
      obtain rfl : j = 1 := by omega
      exact c
/-- the darkest part -/
theorem dk_s (f : Nat → Int32) : ∀ n p : Nat, p < n → ¬ f p < f (dkB f n) ∧ (f p = f (dkB f n) → dkB f n ≤ p)
  | 0, p, h => absurd h (Nat.not_lt_zero p)
  | n + 1, p, h => by
    rw [dkB]
    by_cases e : f (dkB f n) ≤ f n
    · rw [if_pos e]
      by_cases q : p = n
      · subst q
        exact ⟨Int32.not_lt.mpr e, fun _ => dkB_le f p⟩
      · exact dk_s f n p (by omega)
    · rw [if_neg e]
      have l := Int32.not_le.mp e
      by_cases q : p = n
      · subst q
        exact ⟨lirr, fun _ => Nat.le_refl _⟩
      · obtain ⟨a, b⟩ := dk_s f n p (by omega)
        have a2 := tl.mp (Int32.not_lt.mp a)
        have l2 := tlt.mp l
        refine ⟨fun z => ?_, fun z => ?_⟩
        · have := tlt.mp z; omega
        · have := congrArg Int32.toInt z; omega
theorem dk_lt (f : Nat → Int32) (n : Nat) (h : 0 < n) : dkB f n < n := by
  cases n with
  | zero => omega
  | succ n =>
    rw [dkB]
    have := dkB_le f n
    split <;> omega
/-- glare and its sum are small -/
theorem q4_all : ∀ k : Fin 101, (fun x : Int32 => 0 ≤ (x / 4).toInt ∧ (x / 4).toInt ≤ 25) (Int32.ofInt (0 + (k.val : Int))) := by decide +kernel
theorem gl_b {n : Nat} {g : Mx} (hg : gOK n g) (q : Int32) : ∀ i : Nat, i ≤ n → n ≤ 8 → 0 ≤ (glS (g 0) (g 1) q i).toInt ∧ (glS (g 0) (g 1) q i).toInt ≤ 100 * i
  | 0, _, _ => by
    show 0 ≤ (0 : Int32).toInt ∧ (0 : Int32).toInt ≤ _
    rw [t0]
    omega
  | i + 1, hi, hn => by
    obtain ⟨a, b⟩ := gl_b hg q i (by omega) hn
    have hl := (hg i (by omega)).2.1
    unfold bnd at hl
    have h4 := i_all (P := fun x : Int32 => 0 ≤ (x / 4).toInt ∧ (x / 4).toInt ≤ 25) 0 101 q4_all (x := g 1 i) (by omega) (by omega)
    show 0 ≤ (glC (g 0 i) (g 1 i) q (glS (g 0) (g 1) q i)).toInt ∧ (glC (g 0 i) (g 1 i) q (glS (g 0) (g 1) q i)).toInt ≤ _
    have e1 := i_add (x := glS (g 0) (g 1) q i) (y := g 1 i) (by omega) (by omega)
    have e2 := i_add (x := glS (g 0) (g 1) q i) (y := g 1 i / 4) (by omega) (by omega)
    unfold glC
    split
    · omega
    · split
      · omega
      · split <;> omega
theorem sm_b {n : Nat} {g : Mx} (hg : gOK n g) (hn : n ≤ 8) : ∀ i : Nat, i ≤ 12 → 0 ≤ (smN (fun p => glS (g 0) (g 1) (nI p) n) i).toInt ∧ (smN (fun p => glS (g 0) (g 1) (nI p) n) i).toInt ≤ 800 * i
  | 0, _ => by
    show 0 ≤ (0 : Int32).toInt ∧ (0 : Int32).toInt ≤ _
    rw [t0]
    omega
  | i + 1, hi => by
    obtain ⟨a, b⟩ := sm_b hg hn i (by omega)
    obtain ⟨c, d⟩ := gl_b hg (nI i) n (Nat.le_refl _) hn
    show 0 ≤ (smN (fun p => glS (g 0) (g 1) (nI p) n) i + glS (g 0) (g 1) (nI i) n).toInt ∧ (smN (fun p => glS (g 0) (g 1) (nI p) n) i + glS (g 0) (g 1) (nI i) n).toInt ≤ _
    have e1 := i_add (x := smN (fun p => glS (g 0) (g 1) (nI p) n) i) (y := glS (g 0) (g 1) (nI i) n) (by omega) (by omega)
    omega
/-- each dimmer lights one part, and two beside it by a quarter -/
def sI (f : Nat → Int) : Nat → Int
  | 0 => 0
  | i + 1 => sI f i + f i
theorem sI_add (a b : Nat → Int) : ∀ n : Nat, sI (fun p => a p + b p) n = sI a n + sI b n
  | 0 => rfl
  | n + 1 => by
    show sI (fun p => a p + b p) n + (a n + b n) = sI a n + a n + (sI b n + b n)
    rw [sI_add a b n]
    omega
theorem sI_mul (c : Int) (a : Nat → Int) : ∀ n : Nat, sI (fun p => c * a p) n = c * sI a n
  | 0 => (Int.mul_zero c).symm
  | n + 1 => by
    show sI (fun p => c * a p) n + c * a n = c * (sI a n + a n)
    rw [sI_mul c a n, Int.mul_add]
theorem sI_cong {a b : Nat → Int} : ∀ n : Nat, (∀ p : Nat, p < n → a p = b p) → sI a n = sI b n
  | 0, _ => rfl
  | n + 1, h => by
    show sI a n + a n = sI b n + b n
    rw [sI_cong n (fun p hp => h p (by omega)), h n (by omega)]
def kd1 (x : Int32) (p : Nat) : Int := if fmod (x - nI p) 12 = 0 then 1 else 0
def kd2 (x : Int32) (p : Nat) : Int := if fmod (x - nI p) 12 = 0 then 0 else if fmod (x - nI p) 12 = 1 then 1 else if fmod (x - nI p) 12 = 11 then 1 else 0
theorem kd_all : ∀ k : Fin 12, (fun x : Int32 => sI (kd1 x) 12 = 1 ∧ sI (kd2 x) 12 = 2) (Int32.ofInt (0 + (k.val : Int))) := by decide +kernel
theorem glC_i {x lv s : Int32} {p : Nat} (h1 : 0 ≤ s.toInt) (h2 : s.toInt ≤ 800) (hl : bnd lv 0 100) : (glC x lv (nI p) s).toInt = s.toInt + (lv.toInt * kd1 x p + (lv / 4).toInt * kd2 x p) := by
  unfold bnd at hl
  have h4 := i_all (P := fun x : Int32 => 0 ≤ (x / 4).toInt ∧ (x / 4).toInt ≤ 25) 0 101 q4_all (x := lv) (by omega) (by omega)
  have e1 := i_add (x := s) (y := lv) (by omega) (by omega)
  have e2 := i_add (x := s) (y := lv / 4) (by omega) (by omega)
  unfold glC kd1 kd2
  split
  · rw [Int.mul_one, Int.mul_zero]; omega
  · split
    · rw [Int.mul_zero, Int.mul_one]; omega
    · split
      · rw [Int.mul_zero, Int.mul_one]; omega
      · rw [Int.mul_zero, Int.mul_zero]; omega
theorem gsum_b {n : Nat} {g : Mx} (hg : gOK n g) (hn : n ≤ 8) : ∀ i : Nat, i ≤ n → sI (fun p => (glS (g 0) (g 1) (nI p) i).toInt) 12 ≤ 150 * i
  | 0, _ => by
    have e : sI (fun p => (glS (g 0) (g 1) (nI p) 0).toInt) 12 = sI (fun _ => 0) 12 := sI_cong 12 (fun p _ => t0)
    rw [e]
    show (0 : Int) + 0 + 0 + 0 + 0 + 0 + 0 + 0 + 0 + 0 + 0 + 0 + 0 ≤ _
    omega
  | i + 1, hi => by
    have ih := gsum_b hg hn i (by omega)
    obtain ⟨b0, b1, -⟩ := hg i (by omega)
    have e : sI (fun p => (glS (g 0) (g 1) (nI p) (i + 1)).toInt) 12 = sI (fun p => (glS (g 0) (g 1) (nI p) i).toInt + ((g 1 i).toInt * kd1 (g 0 i) p + (g 1 i / 4).toInt * kd2 (g 0 i) p)) 12 := by
      refine sI_cong 12 (fun p hp => ?_)
      obtain ⟨c, d⟩ := gl_b hg (nI p) i (by omega) hn
      exact glC_i c (by omega) b1
    have hk := i_all (P := fun x : Int32 => sI (kd1 x) 12 = 1 ∧ sI (kd2 x) 12 = 2) 0 12 kd_all (x := g 0 i) (by have := b0.1; omega) (by have := b0.2; omega)
    unfold bnd at b1
    have h4 := i_all (P := fun x : Int32 => 0 ≤ (x / 4).toInt ∧ (x / 4).toInt ≤ 25) 0 101 q4_all (x := g 1 i) (by omega) (by omega)
    rw [e, sI_add, sI_add, sI_mul, sI_mul, hk.1, hk.2]
    omega
theorem smN_i {n : Nat} {g : Mx} (hg : gOK n g) (hn : n ≤ 8) : ∀ i : Nat, i ≤ 12 → (smN (fun p => glS (g 0) (g 1) (nI p) n) i).toInt = sI (fun p => (glS (g 0) (g 1) (nI p) n).toInt) i
  | 0, _ => t0
  | i + 1, hi => by
    have ih := smN_i hg hn i (by omega)
    obtain ⟨a, b⟩ := sm_b hg hn i (by omega)
    obtain ⟨c, d⟩ := gl_b hg (nI i) n (Nat.le_refl _) hn
    show (smN (fun p => glS (g 0) (g 1) (nI p) n) i + glS (g 0) (g 1) (nI i) n).toInt = sI (fun p => (glS (g 0) (g 1) (nI p) n).toInt) i + (glS (g 0) (g 1) (nI i) n).toInt
    rw [i_add (by omega) (by omega), ih]
theorem sm_c {n : Nat} {g : Mx} (hg : gOK n g) (hn : n ≤ 8) : 0 ≤ (smN (fun p => glS (g 0) (g 1) (nI p) n) 12).toInt ∧ (smN (fun p => glS (g 0) (g 1) (nI p) n) 12).toInt ≤ 1200 := by
  refine ⟨(sm_b hg hn 12 (by omega)).1, ?_⟩
  rw [smN_i hg hn 12 (Nat.le_refl _)]
  have := gsum_b hg hn n (Nat.le_refl _)
  omega
def mnP (x : Int32) : Bool := decide (mnV x &&& 0x7fffffffffffffff ≤ (0x7ff0000000000000 : UInt64)) && decide (Op.cmpValue (FP.dcmp (mnV x) (mnV x)) CmpOp.l = 0)
set_option maxRecDepth 100000 in
theorem mn_all : ∀ a : Fin 13, ∀ b : Fin 100, mnP (Int32.ofInt (0 + ((100 * a.val + b.val : Nat) : Int))) = true := by decide +kernel
theorem mn_ok {x : Int32} (h1 : 0 ≤ x.toInt) (h2 : x.toInt ≤ 1200) : vf_n64 (mnV x) ∧ Op.cmpValue (FP.dcmp (mnV x) (mnV x)) CmpOp.l = 0 := by
  have h := i_all (P := fun y : Int32 => mnP y = true) 0 1300 (fun k => by
    have h3 := mn_all ⟨k.val / 100, by omega⟩ ⟨k.val % 100, Nat.mod_lt _ (by decide)⟩
    have e : 100 * (k.val / 100) + k.val % 100 = k.val := Nat.div_add_mod k.val 100
    simp only at h3
    rw [e] at h3
    exact h3) (x := x) h1 (by omega)
  unfold mnP at h
  rw [Bool.and_eq_true] at h
  have h1' : mnV x &&& 0x7fffffffffffffff ≤ (0x7ff0000000000000 : UInt64) := of_decide_eq_true h.1
  exact ⟨h1', of_decide_eq_true h.2⟩
theorem mn_g {n : Nat} {g : Mx} (hg : gOK n g) (hn : n ≤ 8) : vf_n64 (mnV (smN (fun p => glS (g 0) (g 1) (nI p) n) 12)) ∧ Op.cmpValue (FP.dcmp (mnV (smN (fun p => glS (g 0) (g 1) (nI p) n) 12)) (mnV (smN (fun p => glS (g 0) (g 1) (nI p) n) 12))) CmpOp.l = 0 := mn_ok (sm_c hg hn).1 (sm_c hg hn).2
