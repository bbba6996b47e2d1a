/-! runs go alike -/
def Rn (v w : VV) (e : Nat) : Prop := v 267 2 = nI e ∧ w 270 6 = nI e ∧ (∀ r, r < 8 → v 268 r = w 274 r) ∧ ∀ i, i < e → v 269 i = w 275 i
theorem Rn_set {v w : VV} {e k : Nat} {x y : Int32} (h : Rn v w e) (hx : x = y) : Rn (u2 v 268 k x) (u2 w 274 k y) e := by
  obtain ⟨h1, h2, h3, h4⟩ := h
  refine ⟨by rw [u2_ne (by omega)]; exact h1, by rw [u2_ne (by omega)]; exact h2, fun r hr => ?_, fun i hi => by rw [u2_ne (by omega), u2_ne (by omega)]; exact h4 i hi⟩
  rw [u2_i, u2_i, hx, h3 r hr]
theorem Rn_em {v w : VV} {e : Nat} {x y : Int32} (h : Rn v w e) (hx : x = y) : Rn (em v e x) (memm w e y) (e + 1) := by
  obtain ⟨h1, h2, h3, h4⟩ := h
  unfold em memm
  refine ⟨u2_same, u2_same, fun r hr => ?_, fun i hi => ?_⟩
  · rw [u2_ne (by omega), u2_ne (by omega), u2_ne (by omega), u2_ne (by omega)]; exact h3 r hr
  · rw [u2_ne (show (269 : Nat) ≠ 267 by omega), u2_ne (show (275 : Nat) ≠ 270 by omega), u2_i, u2_i, hx]
    by_cases e1 : i = e
    · rw [if_pos e1, if_pos e1]
    · rw [if_neg e1, if_neg e1]; exact h4 i (by omega)
theorem vp8 {x : Int32} (h : vp_in x 8) : tn x < 8 := (vp_tn h (by omega)).2
theorem Rn_step {v w : VV} {e : Nat} {o d a b : Int32} (h : Rn v w e) (hi : insOK o d a b) : ∃ e', e' ≤ e + 1 ∧ Rn (pfm v e o d a b) (mpf w e o d a b) e' := by
  have hR := h.2.2.1
  have hb : v 268 (tn b) = w 274 (tn b) := hR _ (vp8 hi.b)
  unfold pfm mpf
  by_cases h0 : o = 0
  · rw [if_pos h0, if_pos h0]; exact ⟨e, by omega, Rn_set h rfl⟩
  · have ha : v 268 (tn a) = w 274 (tn a) := hR _ (vp8 (hi.a h0))
    rw [if_neg h0, if_neg h0, ha, hb]
    by_cases h1 : o = 1
    · rw [if_pos h1, if_pos h1]; exact ⟨e, by omega, Rn_set h rfl⟩
    rw [if_neg h1, if_neg h1]
    by_cases h2 : o = 2
    · rw [if_pos h2, if_pos h2]; exact ⟨e, by omega, Rn_set h rfl⟩
    rw [if_neg h2, if_neg h2]
    by_cases h3 : o = 3
    · rw [if_pos h3, if_pos h3]; exact ⟨e, by omega, Rn_set h rfl⟩
    rw [if_neg h3, if_neg h3]
    by_cases h4 : o = 4
    · rw [if_pos h4, if_pos h4]; exact ⟨e, by omega, Rn_set h rfl⟩
    rw [if_neg h4, if_neg h4]
    by_cases h5 : o = 5
    · rw [if_pos h5, if_pos h5]; exact ⟨e, by omega, Rn_set h rfl⟩
    rw [if_neg h5, if_neg h5]
    exact ⟨e + 1, Nat.le_refl _, Rn_em h rfl⟩
theorem pfm_ne {v : VV} {e q : Nat} {o d a b : Int32} (h1 : q ≠ 267) (h2 : q ≠ 268) (h3 : q ≠ 269) : pfm v e o d a b q = v q := by
  unfold pfm em
  repeat' split
  all_goals first | rw [u2_ne h1, u2_ne h3] | rw [u2_ne h2]
theorem exF_ne {p q : Nat} (h1 : q ≠ 267) (h2 : q ≠ 268) (h3 : q ≠ 269) : ∀ (f s b i : Nat) (v : VV), (exF p f s b i v).2 q = v q := by
  intro f
  induction f with
  | zero => intro s b i v; rfl
  | succ f ih =>
    intro s b i v
    rw [exF]
    split
    · rw [ih, pfm_ne h1 h2 h3]
    · split
      · rfl
      · rw [ih]
theorem rnF_ne {q : Nat} (h1 : q ≠ 270) (h2 : q ≠ 274) (h3 : q ≠ 275) : ∀ (f s b i : Nat) (v : VV), (rnF f s b i v).2 q = v q := by
  intro f
  induction f with
  | zero => intro s b i v; rfl
  | succ f ih =>
    intro s b i v
    rw [rnF]
    split
    · rw [ih, mpf_ne h1 h2 h3]
    · split
      · rw [ih]
      · rfl
theorem vp_ge {x : Int32} {c : Nat} (h : vp_in x c) : 0 ≤ x := by
  unfold vp_in at h
  exact Int32.not_lt.mp (fun e => h (Or.inl e))
theorem run_same {P : Pg} (hF : WF P) : ∀ (f s b i e : Nat) (v w : VV), b < P.1 → PA v 1 P → MA (w 271) P → Rn v w e → e + f ≤ 1000 → (exF 1 f s b i v).1 = (rnF f s b i w).1 ∧ ∃ e', e' ≤ 1000 ∧ Rn (exF 1 f s b i v).2 (rnF f s b i w).2 e' := by
  intro f
  induction f with
  | zero => intro s b i e v w _ _ _ hR he; exact ⟨rfl, e, by omega, hR⟩
  | succ f ih =>
    intro s b i e v w hb hA hM hR he
    have hB := hA.2.2.2.2 b hb
    have hH := hM.2.2.2 b hb
    have hW := hF.2.2 b hb
    have h12 := hF.1
    rw [exF, rnF, bH_nb hB, mH_mnb hH, hR.1, hR.2.1, tn_nI (by omega)]
    by_cases hi : i < (P.2.2.1 b).1
    · rw [if_pos hi, if_pos hi]
      have a0 : v (kB 1 b + 1) i = (P.2.2.1 b).2.1 0 i := hB.2.2.1 0 i (by omega) hi
      have a1 : v (kB 1 b + 2) i = (P.2.2.1 b).2.1 1 i := hB.2.2.1 1 i (by omega) hi
      have a2 : v (kB 1 b + 3) i = (P.2.2.1 b).2.1 2 i := hB.2.2.1 2 i (by omega) hi
      have a3 : v (kB 1 b + 4) i = (P.2.2.1 b).2.1 3 i := hB.2.2.1 3 i (by omega) hi
      have b0 : w 271 (10 + 55 * b + 1 + 5 * i) = (P.2.2.1 b).2.1 0 i := hH.2.2.1 0 i (by omega) hi
      have b1 : w 271 (10 + 55 * b + 1 + 5 * i + 1) = (P.2.2.1 b).2.1 1 i := hH.2.2.1 1 i (by omega) hi
      have b2 : w 271 (10 + 55 * b + 1 + 5 * i + 2) = (P.2.2.1 b).2.1 2 i := hH.2.2.1 2 i (by omega) hi
      have b3 : w 271 (10 + 55 * b + 1 + 5 * i + 3) = (P.2.2.1 b).2.1 3 i := hH.2.2.1 3 i (by omega) hi
      rw [a0, a1, a2, a3, b0, b1, b2, b3]
      obtain ⟨e', e1, e2⟩ := Rn_step hR (hW.1 i hi)
      refine ih _ _ _ e' _ _ hb (hA.far hF (fun q q1 q2 => pfm_far (by omega))) ?_ e2 (by omega)
      rw [mpf_ne (by omega) (by omega) (by omega)]
      exact hM
    · rw [if_neg hi, if_neg hi]
      have k0 : v (kB 1 b) 6 = (P.2.2.1 b).2.2 0 := hB.2.2.2.1
      have k1 : v (kB 1 b + 6) 0 = (P.2.2.1 b).2.2 1 := hB.2.2.2.2.1
      have k2 : v (kB 1 b + 6) 1 = (P.2.2.1 b).2.2 2 := hB.2.2.2.2.2.1
      have k3 : v (kB 1 b + 6) 2 = (P.2.2.1 b).2.2 3 := hB.2.2.2.2.2.2
      have l0 : w 271 (10 + 55 * b + 51) = (P.2.2.1 b).2.2 0 := hH.2.2.2 0 (by omega)
      have l1 : w 271 (10 + 55 * b + 51 + 1) = (P.2.2.1 b).2.2 1 := hH.2.2.2 1 (by omega)
      have l2 : w 271 (10 + 55 * b + 51 + 2) = (P.2.2.1 b).2.2 2 := hH.2.2.2 2 (by omega)
      have l3 : w 271 (10 + 55 * b + 51 + 3) = (P.2.2.1 b).2.2 3 := hH.2.2.2 3 (by omega)
      unfold scc nxm
      rw [k0, k1, k2, k3, l0, l1, l2, l3]
      rcases hW.2 with t | t | t
      · rw [t.1, if_neg (by decide), if_pos rfl, if_pos rfl, if_pos (vp_ge t.2)]
        exact ih _ _ _ e _ _ (vp_tn t.2 (by omega)).2 hA hM hR (by omega)
      · rw [t.1, hR.2.2.1 _ (vp8 t.2.1), if_neg (show ¬ (1 : Int32) = 2 by decide), if_pos (show (1 : Int32) = 1 from rfl), if_neg (show ¬ (1 : Int32) = 0 by decide)]
        by_cases hz : w 274 (tn ((P.2.2.1 b).2.2 1)) = 0
        · rw [if_pos hz, if_pos (vp_ge t.2.2.2)]
          exact ih _ _ _ e _ _ (vp_tn t.2.2.2 (by omega)).2 hA hM hR (by omega)
        · rw [if_neg hz, if_pos (vp_ge t.2.2.1)]
          exact ih _ _ _ e _ _ (vp_tn t.2.2.1 (by omega)).2 hA hM hR (by omega)
      · rw [t, if_pos rfl]
        have e1 : (if (2 : Int32) = 0 then (P.2.2.1 b).2.2 1 else if (2 : Int32) = 1 then (if w 274 (tn ((P.2.2.1 b).2.2 1)) = 0 then (P.2.2.1 b).2.2 3 else (P.2.2.1 b).2.2 2) else -1008) = -1008 := by rw [if_neg (by decide), if_neg (by decide)]
        rw [e1, if_neg (by decide)]
        exact ⟨rfl, e, by omega, hR⟩
theorem rg_at : ∀ (f r : Nat) (v : VV) (i : Nat), r ≤ i → i < r + f → rgF f r v 274 i = if i < 7 then v 271 (2 + i) else 0 := by
  intro f
  induction f with
  | zero => intro r v i h1 h2; omega
  | succ f ih =>
    intro r v i h1 h2
    rw [rgF]
    by_cases e : i = r
    · subst e
      have keep : ∀ (f r : Nat) (v : VV), i < r → rgF f r v 274 i = v 274 i := by
        intro f
        induction f with
        | zero => intro r v _; rfl
        | succ f ih2 => intro r v h; rw [rgF, ih2 _ _ (by omega), u2_at (by omega)]
      rw [keep _ _ _ (by omega), u2_same]
    · rw [ih _ _ i (by omega) (by omega), u2_ne (by omega)]
theorem run_start {P : Pg} {v w : VV} (hA : PA v 1 P) (hM : MA (w 271) P) : Rn (exI v 1) (rnI w) 0 := by
  unfold exI rnI
  refine ⟨u2_same, u2_same, fun r hr => ?_, fun i hi => by omega⟩
  rw [u2_ne (by omega), u2_ne (by omega), rg_at 8 0 w r (by omega) (by omega)]
  have e : va_up v 268 (va_cpy (v (1 + 86)) (v 268) 0 0 8) 268 r = v (1 + 86) r := by
    have : va_up v 268 (va_cpy (v (1 + 86)) (v 268) 0 0 8) 268 = va_cpy (v (1 + 86)) (v 268) 0 0 8 := by simp [va_up]
    rw [this]
    exact sb_cpy0 hr
  rw [e]
  by_cases h7 : r < 7
  · rw [if_pos h7, hA.2.2.1 r h7, hM.2.2.1 r h7]
  · rw [if_neg h7, show r = 7 by omega]
    exact hA.2.2.2.1
theorem exI_ne {v : VV} {p q : Nat} (h1 : q ≠ 267) (h2 : q ≠ 268) : exI v p q = v q := by
  unfold exI
  rw [u2_ne h1, va_up_ne _ _ h2]
theorem rnI_ne {v : VV} {q : Nat} (h1 : q ≠ 270) (h2 : q ≠ 274) : rnI v q = v q := by
  unfold rnI
  rw [u2_ne h1, rgF_ne h2]
/-- what both answer, and what both machines hold then -/
theorem run_all {P : Pg} {v w : VV} {x : Int32} {e : Nat} (hF : WF P) (hA : PA v 1 P) (hM : MA (w 271) P) (hR : Rn v w e) (he : e ≤ 1000) : runR v P.1 x = mrR w P.1 x ∧ ∃ e', e' ≤ 1000 ∧ Rn (runV v P.1 x) (mrV w P.1 x) e' := by
  unfold runR runV mrR mrV
  by_cases hx : inM x = true
  · rw [if_pos hx, if_pos hx, if_pos hx, if_pos hx]
    by_cases hc : P.1 = 0
    · rw [if_pos hc, if_pos hc, if_pos hc, if_pos hc]; exact ⟨rfl, e, he, hR⟩
    · rw [if_neg hc, if_neg hc, if_neg hc, if_neg hc]
      have hx2 := inM_iff.mp hx
      have := (inM_nat hx2.1 hx2.2).2
      refine run_same hF _ _ _ _ 0 _ _ (by omega) (hA.far hF (fun q _ q2 => exI_ne (by omega) (by omega))) ?_ (run_start hA hM) (by omega)
      rw [rnI_ne (by omega) (by omega)]; exact hM
  · rw [if_neg hx, if_neg hx, if_neg hx, if_neg hx]; exact ⟨rfl, e, he, hR⟩
theorem runV_ne {v : VV} {c q : Nat} {x : Int32} (h1 : q ≠ 267) (h2 : q ≠ 268) (h3 : q ≠ 269) : runV v c x q = v q := by
  unfold runV
  split
  · split
    · rfl
    · rw [exF_ne h1 h2 h3, exI_ne h1 h2]
  · rfl
theorem mrV_ne {v : VV} {c q : Nat} {x : Int32} (h1 : q ≠ 270) (h2 : q ≠ 274) (h3 : q ≠ 275) : mrV v c x q = v q := by
  unfold mrV
  split
  · split
    · rfl
    · rw [rnF_ne h1 h2 h3, rnI_ne h1 h2]
  · rfl
