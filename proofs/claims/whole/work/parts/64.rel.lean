/-! programs are copied -/
theorem tail_all (x : Bv) : tailV x x.1 = x := by
  unfold tailV
  refine Prod.ext rfl (Prod.ext (funext fun f => funext fun i => ?_) rfl)
  show x.2.1 f (x.1 - x.1 + i) = x.2.1 f i
  rw [Nat.sub_self, Nat.zero_add]
theorem cpF_far {p p2 q : Nat} : ∀ (f b : Nat) (v : VV), (∀ b', b ≤ b' → b' < b + f → kB p b' + 6 < q ∨ q < kB p b') → cpF p p2 f b v q = v q := by
  intro f
  induction f with
  | zero => intro b v _; rfl
  | succ f ih =>
    intro b v h
    have hb := h b (Nat.le_refl b) (by omega)
    rw [cpF, ih _ _ (fun b' h1 h2 => h b' (by omega) (by omega)), apT_far hb, u2_ne (by omega)]
theorem cpF_H {p p2 c : Nat} {B : Nat → Bv} (hs : p + 87 < p2 ∨ p2 + 87 < p) (hc : c ≤ 12) : ∀ (f b : Nat) (v : VV), b + f = c → (∀ b', b' < c → bH v (kB p2 b') (B b')) → (∀ b', b' < b → bH v (kB p b') (B b')) → ∀ b', b' < c → bH (cpF p p2 f b v) (kB p b') (B b') := by
  intro f
  induction f with
  | zero => intro b v hb h1 h2 b' hb'; exact h2 b' (by omega)
  | succ f ih =>
    intro b v hb h1 h2
    rw [cpF]
    have hbb := h1 b (by omega)
    have far : ∀ q, (kB p b + 6 < q ∨ q < kB p b) → apT (u2 v (kB p b) 5 0) (kB p b) (kB p2 b) 0 (nb v p2 b) (nb v p2 b) q = v q := fun q hq => by rw [apT_far hq, u2_ne (by omega)]
    refine ih _ _ (by omega) (fun b' hb' => (h1 b' hb').far (fun q q1 q2 => far q (by unfold kB at *; omega))) (fun b' hb' => ?_)
    by_cases e : b' = b
    · subst e
      have sep : kB p b' + 6 < kB p2 b' ∨ kB p2 b' + 6 < kB p b' := by unfold kB; omega
      have hx : bH (u2 v (kB p b') 5 0) (kB p2 b') (B b') := hbb.far (fun q q1 q2 => u2_ne (by omega))
      have := bH_apT hx sep u2_same (Nat.le_refl (B b').1)
      rw [tail_all] at this
      rw [bH_nb hbb]
      exact this
    · exact (h2 b' (by omega)).far (fun q q1 q2 => far q (by unfold kB at *; omega))
theorem cpP_far {v : VV} {p p2 c q : Nat} (hc : c ≤ 12) (h : q < p ∨ p + 86 < q) : cpP v p p2 c q = v q := by
  unfold cpP cpE
  rw [va_up_ne _ _ (by omega), u2_ne (by omega), cpF_far _ _ _ (fun b' h1 h2 => by unfold kB; omega), u2_ne (by omega)]
theorem PA_cp {v : VV} {p p2 : Nat} {P : Pg} (h : PA v p2 P) (hF : WF P) (hs : p + 87 < p2 ∨ p2 + 87 < p) : PA (cpP v p p2 P.1) p P := by
  have hc := hF.1
  obtain ⟨h1, h2, h3, h4, h5⟩ := h
  unfold cpP
  have hw : ∀ b', b' < P.1 → bH (u2 v p 1 (v p2 1)) (kB p2 b') (P.2.2.1 b') := fun b' hb' => (h5 b' hb').far (fun q q1 q2 => u2_ne (by unfold kB at *; omega))
  have hB := cpF_H hs hc P.1 0 (u2 v p 1 (v p2 1)) (by omega) hw (fun b' hb' => by omega)
  have far : ∀ q, (q < p + 2 ∨ p + 85 < q) → cpF p p2 P.1 0 (u2 v p 1 (v p2 1)) q = u2 v p 1 (v p2 1) q := fun q hq => cpF_far _ _ _ (fun b' b1 b2 => by unfold kB; omega)
  have fp := far p (by omega)
  have fp2 := far p2 (by omega)
  have f86 := far (p2 + 86) (by omega)
  have g86 := far (p + 86) (by omega)
  generalize cpF p p2 P.1 0 (u2 v p 1 (v p2 1)) = w at hB fp fp2 f86 g86 ⊢
  unfold cpE
  have e86 : ∀ r, r < 8 → va_up (u2 w p 2 (w p2 2)) (p + 86) (va_cpy (u2 w p 2 (w p2 2) (p2 + 86)) (u2 w p 2 (w p2 2) (p + 86)) 0 0 8) (p + 86) r = v (p2 + 86) r := by
    intro r hr
    have : va_up (u2 w p 2 (w p2 2)) (p + 86) (va_cpy (u2 w p 2 (w p2 2) (p2 + 86)) (u2 w p 2 (w p2 2) (p + 86)) 0 0 8) (p + 86) = va_cpy (u2 w p 2 (w p2 2) (p2 + 86)) (u2 w p 2 (w p2 2) (p + 86)) 0 0 8 := by simp [va_up]
    rw [this, sb_cpy0 hr, u2_ne (by omega), f86, u2_ne (by omega)]
  refine ⟨?_, ?_, fun r hr => by rw [e86 r (by omega)]; exact h3 r hr, by rw [e86 7 (by omega)]; exact h4, fun b hb => ?_⟩
  · rw [va_up_ne _ _ (by omega), u2_at (by omega), fp, u2_same]; exact h1
  · rw [va_up_ne _ _ (by omega), u2_same, fp2, u2_ne (by omega)]; exact h2
  · exact (hB b hb).far (fun q q1 q2 => by rw [va_up_ne _ _ (by unfold kB at *; omega), u2_ne (by unfold kB at *; omega)])
theorem svF_ne {s q : Nat} (h : q ≠ 272) : ∀ (f k : Nat) (v : VV), svF s f k v q = v q := by
  intro f
  induction f with
  | zero => intro k v; rfl
  | succ f ih => intro k v; rw [svF, ih, u2_ne h]
theorem svF_at {s i : Nat} : ∀ (f k : Nat) (v : VV), svF s f k v 272 i = if 670 * s + k ≤ i ∧ i < 670 * s + k + f then v 271 (i - 670 * s) else v 272 i := by
  intro f
  induction f with
  | zero => intro k v; rw [svF, if_neg (by omega)]
  | succ f ih =>
    intro k v
    rw [svF, ih, u2_ne (show (271 : Nat) ≠ 272 by omega)]
    by_cases e : i = 670 * s + k
    · subst e
      rw [if_neg (by omega), if_pos (by omega), u2_same, show 670 * s + k - 670 * s = k by omega]
    · rw [u2_at e]
      by_cases h : 670 * s + (k + 1) ≤ i ∧ i < 670 * s + (k + 1) + f
      · rw [if_pos h, if_pos (by omega)]
      · rw [if_neg h, if_neg (by omega)]
theorem rsF_ne {s q : Nat} (h : q ≠ 271) : ∀ (f k : Nat) (v : VV), rsF s f k v q = v q := by
  intro f
  induction f with
  | zero => intro k v; rfl
  | succ f ih => intro k v; rw [rsF, ih, u2_ne h]
theorem rsF_at {s i : Nat} : ∀ (f k : Nat) (v : VV), rsF s f k v 271 i = if k ≤ i ∧ i < k + f then v 272 (670 * s + i) else v 271 i := by
  intro f
  induction f with
  | zero => intro k v; rw [rsF, if_neg (by omega)]
  | succ f ih =>
    intro k v
    rw [rsF, ih, u2_ne (show (272 : Nat) ≠ 271 by omega)]
    by_cases e : i = k
    · subst e
      rw [if_neg (by omega), if_pos (by omega), u2_same]
    · rw [u2_at e]
      by_cases h : k + 1 ≤ i ∧ i < k + 1 + f
      · rw [if_pos h, if_pos (by omega)]
      · rw [if_neg h, if_neg (by omega)]
/-! both hold the same -/
def SL (v : VV) (i : Nat) : Prop := v 266 i = v 273 i ∧ (v 266 i = 0 ∨ ∃ Q, WF Q ∧ PA v (90 + 88 * i) Q ∧ MA (fun k => v 272 (670 * i + k)) Q)
def MR (v : VV) : Prop := ∃ e, e ≤ 1000 ∧ Rn v v e
def RelP (v : VV) (P : Pg) : Prop := WF P ∧ PA v 1 P ∧ MA (v 271) P ∧ MR v ∧ SL v 0 ∧ SL v 1
def Rel (v : VV) : Prop := ∃ P, RelP v P
theorem SL.far {v w : VV} {i : Nat} (hi : i < 2) (h : SL v i) (h1 : ∀ q, 90 + 88 * i ≤ q → q ≤ 90 + 88 * i + 86 → w q = v q) (h2 : w 266 i = v 266 i) (h3 : w 273 i = v 273 i) (h4 : ∀ k, k < 670 → w 272 (670 * i + k) = v 272 (670 * i + k)) : SL w i := by
  refine ⟨by rw [h2, h3]; exact h.1, ?_⟩
  rcases h.2 with g | ⟨Q, q1, q2, q3⟩
  · exact Or.inl (by rw [h2]; exact g)
  · exact Or.inr ⟨Q, q1, q2.far q1 h1, q3.far q1 h4⟩
theorem MR.far {v w : VV} (h : MR v) (h1 : w 267 = v 267) (h2 : w 268 = v 268) (h3 : w 269 = v 269) (h4 : w 270 6 = v 270 6) (h5 : w 274 = v 274) (h6 : w 275 = v 275) : MR w := by
  obtain ⟨e, e1, e2⟩ := h
  refine ⟨e, e1, ?_⟩
  unfold Rn
  rw [h1, h2, h3, h4, h5, h6]
  exact e2
theorem Rel_op {v v1 v2 : VV} {P P' : Pg} (h : RelP v P) (f1 : ∀ q, 89 ≤ q → v1 q = v q) (f2 : ∀ q, q ≠ 271 → q ≠ 270 → v2 q = v1 q) (f3 : v2 270 6 = v1 270 6) (hF : WF P') (hA : PA v1 1 P') (hM : MA (v2 271) P') : Rel v2 := by
  obtain ⟨-, -, -, h4, h5, h6⟩ := h
  have g : ∀ q, 89 ≤ q → q ≠ 271 → q ≠ 270 → v2 q = v q := fun q a b c => by rw [f2 q b c, f1 q a]
  refine ⟨P', hF, hA.far hF (fun q _ q2 => f2 q (by omega) (by omega)), hM, h4.far (g _ (by omega) (by omega) (by omega)) (g _ (by omega) (by omega) (by omega)) (g _ (by omega) (by omega) (by omega)) (by rw [f3, f1 _ (by omega)]) (g _ (by omega) (by omega) (by omega)) (g _ (by omega) (by omega) (by omega)), ?_, ?_⟩
  · exact h5.far (by omega) (fun q q1 q2 => g q (by omega) (by omega) (by omega)) (by rw [g _ (by omega) (by omega) (by omega)]) (by rw [g _ (by omega) (by omega) (by omega)]) (fun k _ => by rw [g _ (by omega) (by omega) (by omega)])
  · exact h6.far (by omega) (fun q q1 q2 => g q (by omega) (by omega) (by omega)) (by rw [g _ (by omega) (by omega) (by omega)]) (by rw [g _ (by omega) (by omega) (by omega)]) (fun k _ => by rw [g _ (by omega) (by omega) (by omega)])
theorem Rel_run {v : VV} {P : Pg} {x : Int32} (h : RelP v P) : runR v P.1 x = mrR (runV v P.1 x) P.1 x ∧ Rel (mrV (runV v P.1 x) P.1 x) := by
  obtain ⟨h1, h2, h3, ⟨e, e1, e2⟩, h5, h6⟩ := h
  have r270 : runV v P.1 x 270 = v 270 := runV_ne (by omega) (by omega) (by omega)
  have r271 : runV v P.1 x 271 = v 271 := runV_ne (by omega) (by omega) (by omega)
  have r274 : runV v P.1 x 274 = v 274 := runV_ne (by omega) (by omega) (by omega)
  have r275 : runV v P.1 x 275 = v 275 := runV_ne (by omega) (by omega) (by omega)
  have e3 : Rn v (runV v P.1 x) e := by
    unfold Rn
    rw [r270, r274, r275]
    exact e2
  obtain ⟨a1, e', a2, a3⟩ := run_all (x := x) (w := runV v P.1 x) h1 h2 (by rw [r271]; exact h3) e3 e1
  have g : ∀ q, q ≠ 267 → q ≠ 268 → q ≠ 269 → q ≠ 270 → q ≠ 274 → q ≠ 275 → mrV (runV v P.1 x) P.1 x q = v q := fun q b1 b2 b3 b4 b5 b6 => by rw [mrV_ne b4 b5 b6, runV_ne b1 b2 b3]
  refine ⟨a1, P, h1, h2.far h1 (fun q q1 q2 => g q (by omega) (by omega) (by omega) (by omega) (by omega) (by omega)), by rw [g _ (by omega) (by omega) (by omega) (by omega) (by omega) (by omega)]; exact h3, ⟨e', a2, ?_⟩, ?_, ?_⟩
  · have m267 : mrV (runV v P.1 x) P.1 x 267 = runV v P.1 x 267 := mrV_ne (by omega) (by omega) (by omega)
    have m268 : mrV (runV v P.1 x) P.1 x 268 = runV v P.1 x 268 := mrV_ne (by omega) (by omega) (by omega)
    have m269 : mrV (runV v P.1 x) P.1 x 269 = runV v P.1 x 269 := mrV_ne (by omega) (by omega) (by omega)
    unfold Rn at a3 ⊢
    rw [m267, m268, m269]
    exact a3
  · exact h5.far (by omega) (fun q q1 q2 => g q (by omega) (by omega) (by omega) (by omega) (by omega) (by omega)) (by rw [g _ (by omega) (by omega) (by omega) (by omega) (by omega) (by omega)]) (by rw [g _ (by omega) (by omega) (by omega) (by omega) (by omega) (by omega)]) (fun k _ => by rw [g _ (by omega) (by omega) (by omega) (by omega) (by omega) (by omega)])
  · exact h6.far (by omega) (fun q q1 q2 => g q (by omega) (by omega) (by omega) (by omega) (by omega) (by omega)) (by rw [g _ (by omega) (by omega) (by omega) (by omega) (by omega) (by omega)]) (by rw [g _ (by omega) (by omega) (by omega) (by omega) (by omega) (by omega)]) (fun k _ => by rw [g _ (by omega) (by omega) (by omega) (by omega) (by omega) (by omega)])
theorem Rel_save {v : VV} {P : Pg} {i : Nat} (h : RelP v P) (hi : i < 2) : Rel (u2 (svF i 670 0 (u2 (cpP v (90 + 88 * i) 1 P.1) 266 i 1)) 273 i 1) := by
  obtain ⟨h1, h2, h3, h4, h5, h6⟩ := h
  have hc := h1.1
  have g : ∀ q, (q < 90 + 88 * i ∨ 90 + 88 * i + 86 < q) → q ≠ 266 → q ≠ 272 → q ≠ 273 → u2 (svF i 670 0 (u2 (cpP v (90 + 88 * i) 1 P.1) 266 i 1)) 273 i 1 q = v q := fun q a b c d => by rw [u2_ne d, svF_ne c, u2_ne b, cpP_far hc a]
  have g266 : ∀ j, u2 (svF i 670 0 (u2 (cpP v (90 + 88 * i) 1 P.1) 266 i 1)) 273 i 1 266 j = if j = i then 1 else v 266 j := fun j => by rw [u2_ne (by omega), svF_ne (by omega), u2_i, cpP_far hc (by omega)]
  have g273 : ∀ j, u2 (svF i 670 0 (u2 (cpP v (90 + 88 * i) 1 P.1) 266 i 1)) 273 i 1 273 j = if j = i then 1 else v 273 j := fun j => by rw [u2_i, svF_ne (by omega), u2_ne (by omega), cpP_far hc (by omega)]
  have g272 : ∀ k, u2 (svF i 670 0 (u2 (cpP v (90 + 88 * i) 1 P.1) 266 i 1)) 273 i 1 272 k = if 670 * i + 0 ≤ k ∧ k < 670 * i + 0 + 670 then v 271 (k - 670 * i) else v 272 k := fun k => by rw [u2_ne (by omega), svF_at, u2_ne (by omega), cpP_far hc (by omega), u2_ne (by omega), cpP_far hc (by omega)]
  have other : ∀ j, j < 2 → SL v j → SL (u2 (svF i 670 0 (u2 (cpP v (90 + 88 * i) 1 P.1) 266 i 1)) 273 i 1) j := by
    intro j hj hS
    by_cases e : j = i
    · subst e
      refine ⟨by rw [g266, g273, if_pos rfl, if_pos rfl], Or.inr ⟨P, h1, ?_, ?_⟩⟩
      · exact (PA_cp h2 h1 (by omega)).far h1 (fun q q1 q2 => by rw [u2_ne (by omega), svF_ne (by omega), u2_ne (by omega)])
      · refine h3.far h1 (fun k hk => ?_)
        show u2 (svF j 670 0 (u2 (cpP v (90 + 88 * j) 1 P.1) 266 j 1)) 273 j 1 272 (670 * j + k) = v 271 k
        rw [g272, if_pos (by omega), show 670 * j + k - 670 * j = k by omega]
    · exact hS.far hj (fun q q1 q2 => g q (by omega) (by omega) (by omega) (by omega)) (by rw [g266, if_neg e]) (by rw [g273, if_neg e]) (fun k hk => by rw [g272, if_neg (by omega)])
  refine ⟨P, h1, h2.far h1 (fun q q1 q2 => g q (by omega) (by omega) (by omega) (by omega)), by rw [g _ (by omega) (by omega) (by omega) (by omega)]; exact h3, h4.far (g _ (by omega) (by omega) (by omega) (by omega)) (g _ (by omega) (by omega) (by omega) (by omega)) (g _ (by omega) (by omega) (by omega) (by omega)) (by rw [g _ (by omega) (by omega) (by omega) (by omega)]) (g _ (by omega) (by omega) (by omega) (by omega)) (g _ (by omega) (by omega) (by omega) (by omega)), other 0 (by omega) h5, other 1 (by omega) h6⟩
theorem Rel_restore {v : VV} {P : Pg} {i : Nat} (h : RelP v P) (hi : i < 2) (h0 : ¬ v 266 i = 0) (Q : Pg) (q1 : WF Q) (q2 : PA v (90 + 88 * i) Q) (q3 : MA (fun k => v 272 (670 * i + k)) Q) : Rel (rsF i 670 0 (cpP v 1 (90 + 88 * i) Q.1)) := by
  have hc := q1.1
  refine Rel_op (v1 := cpP v 1 (90 + 88 * i) Q.1) h (fun q hq => cpP_far hc (by omega)) (fun q a b => rsF_ne a _ _ _) (by rw [rsF_ne (by omega)]) q1 (PA_cp q2 q1 (by omega)) (q3.far q1 (fun k hk => ?_))
  show rsF i 670 0 (cpP v 1 (90 + 88 * i) Q.1) 271 k = v 272 (670 * i + k)
  rw [rsF_at, if_pos (by omega), cpP_far hc (by omega)]
