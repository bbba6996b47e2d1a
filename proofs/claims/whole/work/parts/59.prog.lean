/-! a whole program as a value: how many blocks, what a jump costs, the blocks, the first values of the registers -/
abbrev Pg : Type := Nat × Nat × (Nat → Bv) × (Nat → Int32)
def PA (v : VV) (p : Nat) (P : Pg) : Prop := v p 1 = nI P.1 ∧ v p 2 = nI P.2.1 ∧ (∀ r, r < 7 → v (p + 86) r = P.2.2.2 r) ∧ v (p + 86) 7 = 0 ∧ ∀ b, b < P.1 → bH v (kB p b) (P.2.2.1 b)
def MA (g : Nat → Int32) (P : Pg) : Prop := g 0 = nI P.1 ∧ g 1 = nI P.2.1 ∧ (∀ r, r < 7 → g (2 + r) = P.2.2.2 r) ∧ ∀ b, b < P.1 → mH g b (P.2.2.1 b)
def WF (P : Pg) : Prop := P.1 ≤ 12 ∧ P.2.1 ≤ 5 ∧ ∀ b, b < P.1 → BW (P.2.2.1 b) P.1
theorem beq_BW {x y : Bv} {c : Nat} (h : beq x y) (hw : BW y c) : BW x c := by
  refine ⟨fun i hi => ?_, ?_⟩
  · have := hw.1 i (by rw [← h.1]; exact hi)
    rw [h.2.1 0 i (by omega) hi, h.2.1 1 i (by omega) hi, h.2.1 2 i (by omega) hi, h.2.1 3 i (by omega) hi]
    exact this
  · have := hw.2
    unfold terOK at this ⊢
    rw [h.2.2 0 (by omega), h.2.2 1 (by omega), h.2.2 2 (by omega), h.2.2 3 (by omega)]
    exact this
theorem PA.pw {v : VV} {p : Nat} {P : Pg} (h : PA v p P) (hF : WF P) : PW v p P.1 := by
  refine ⟨h.1, hF.1, fun b hb => ?_⟩
  have hB := h.2.2.2.2 b hb
  rw [bH_nb hB]
  exact ⟨hB.1, hB.2.1⟩
theorem PA.bq {v : VV} {p : Nat} {P : Pg} (h : PA v p P) : ∀ b, b < P.1 → beq (pv v p b) (P.2.2.1 b) := fun b hb => bH_pv (h.2.2.2.2 b hb)
theorem PA.pf {v : VV} {p : Nat} {P : Pg} (h : PA v p P) (hF : WF P) : PF v p P.1 := ⟨h.pw hF, fun b hb => beq_BW (h.bq b hb) (hF.2.2 b hb)⟩
theorem MA.mW {g : Nat → Int32} {P : Pg} (h : MA g P) (hF : WF P) : MW g P.1 := by
  refine ⟨h.1, hF.1, fun b hb => ?_⟩
  have hB := h.2.2.2 b hb
  rw [mH_mnb hB]
  exact ⟨hB.1, hB.2.1⟩
theorem MA.bq {g : Nat → Int32} {P : Pg} (h : MA g P) : ∀ b, b < P.1 → beq (mw g b) (P.2.2.1 b) := fun b hb => mH_mw (h.2.2.2 b hb)
theorem MA.mf {g : Nat → Int32} {P : Pg} (h : MA g P) (hF : WF P) : MF g P.1 := ⟨h.mW hF, fun b hb => beq_BW (h.bq b hb) (hF.2.2 b hb)⟩
theorem PA.far {v w : VV} {p : Nat} {P : Pg} (h : PA v p P) (hF : WF P) (hw : ∀ q, p ≤ q → q ≤ p + 86 → w q = v q) : PA w p P := by
  obtain ⟨h1, h2, h3, h4, h5⟩ := h
  have := hF.1
  have e0 := hw p (Nat.le_refl _) (by omega)
  have e1 := hw (p + 86) (by omega) (Nat.le_refl _)
  exact ⟨by rw [e0]; exact h1, by rw [e0]; exact h2, by rw [e1]; exact h3, by rw [e1]; exact h4, fun b hb => (h5 b hb).far (fun q q1 q2 => hw q (by unfold kB at q1; omega) (by unfold kB at q2; omega))⟩
theorem MA.far {g h : Nat → Int32} {P : Pg} (H : MA g P) (hF : WF P) (hw : ∀ i, i < 670 → h i = g i) : MA h P := by
  obtain ⟨h1, h2, h3, h4⟩ := H
  have := hF.1
  exact ⟨by rw [hw _ (by omega)]; exact h1, by rw [hw _ (by omega)]; exact h2, fun r hr => by rw [hw _ (by omega)]; exact h3 r hr, fun b hb => (h4 b hb).far (fun i i1 i2 => hw i (by omega))⟩
/-! what a terminator costs -/
def tkk (j : Nat) (x : Bv) : Nat := if x.2.2 0 = 0 then j else if x.2.2 0 = 1 then 2 else 1
theorem tkk_le {j : Nat} {x : Bv} (h : j ≤ 5) : tkk j x ≤ 5 := by
  unfold tkk
  split
  · exact h
  · split <;> omega
theorem tc_k {v : VV} {p : Nat} {P : Pg} (h : PA v p P) : ∀ b, b < P.1 → tc v p b = nI (tkk P.2.1 (P.2.2.1 b)) := by
  intro b hb
  have hB := (h.2.2.2.2 b hb).2.2.2.1
  unfold tc tkk
  rw [hB, h.2.1]
  split
  · rfl
  · split <;> rfl
theorem tcm_k {g : Nat → Int32} {P : Pg} (h : MA g P) (hF : WF P) : ∀ b, b < P.1 → tcm g b = nI (tkk P.2.1 (P.2.2.1 b)) := by
  intro b hb
  have hB := (h.2.2.2 b hb).2.2.2 0 (by omega)
  have e : g (10 + 55 * b + 51) = (P.2.2.1 b).2.2 0 := hB
  have ht := (hF.2.2 b hb).2
  unfold tcm tkk
  rw [e, h.2.1]
  rcases ht with ht | ht | ht
  · rw [ht.1]; rfl
  · rw [ht.1]; rfl
  · rw [ht]; rfl
/-! questions are answered alike -/
section QU
variable {B B' : Nat → Bv} {c : Nat} {x y : Int32}
theorem inb_vp (hc : c < 2 ^ 31) (h : inb x c = true) : vp_in x c := by
  obtain ⟨h1, h2⟩ := inb_tn hc h
  have := (inb_iff.mp h).1
  unfold vp_in
  intro e
  rcases e with e | e
  · exact this e
  · exact absurd e (Nat.not_le.mpr h2)
theorem qc_cnt (hc : c ≤ 12) (h : ∀ b, b < c → beq (B b) (B' b)) : q_cnt c B x = q_cnt c B' x := by
  unfold q_cnt
  by_cases hx : inb x c = true
  · rw [if_pos hx, if_pos hx, (h _ (inb_tn (by omega) hx).2).1]
  · rw [if_neg hx, if_neg hx]
theorem qc_fld {f : Nat} (hf : f < 5) (hc : c ≤ 12) (hn : ∀ b, b < c → (B b).1 ≤ 10) (h : ∀ b, b < c → beq (B b) (B' b)) : q_fld f c B x y = q_fld f c B' x y := by
  unfold q_fld
  by_cases hx : inb x c = true
  · have hb := (inb_tn (by omega) hx).2
    rw [if_pos hx, if_pos hx, ← (h _ hb).1]
    by_cases hy : inb y (B (tn x)).1 = true
    · have := hn _ hb
      rw [if_pos hy, if_pos hy, (h _ hb).2.1 f _ hf (inb_tn (by omega) hy).2]
    · rw [if_neg hy, if_neg hy]
  · rw [if_neg hx, if_neg hx]
theorem qc_kind (hc : c ≤ 12) (h : ∀ b, b < c → beq (B b) (B' b)) : q_kind c B x = q_kind c B' x := by
  unfold q_kind
  by_cases hx : inb x c = true
  · rw [if_pos hx, if_pos hx, (h _ (inb_tn (by omega) hx).2).2.2 0 (by omega)]
  · rw [if_neg hx, if_neg hx]
theorem qc_opd (hc : c ≤ 12) (h : ∀ b, b < c → beq (B b) (B' b)) : q_opd c B x y = q_opd c B' x y := by
  unfold q_opd
  by_cases hx : inb x c = true
  · have hb := (inb_tn (by omega) hx).2
    rw [if_pos hx, if_pos hx, ← (h _ hb).2.2 0 (by omega)]
    by_cases hy : inb y (if (B (tn x)).2.2 0 = 1 then 3 else 1) = true
    · have h3 : (if (B (tn x)).2.2 0 = 1 then 3 else 1) ≤ 3 := by split <;> omega
      have := (inb_tn (by omega) hy).2
      rw [if_pos hy, if_pos hy, (h _ hb).2.2 _ (by omega)]
    · rw [if_neg hy, if_neg hy]
  · rw [if_neg hx, if_neg hx]
theorem qc_hash (hc : c ≤ 12) (hn : ∀ b, b < c → (B b).1 ≤ 10) (h : ∀ b, b < c → beq (B b) (B' b)) : q_hash c B x y = q_hash c B' x y := by
  unfold q_hash
  by_cases hx : inb x c = true
  · have hb := (inb_tn (by omega) hx).2
    rw [if_pos hx, if_pos hx, ← (h _ hb).1]
    by_cases hy : inb y ((B (tn x)).1 + 1) = true
    · have := hn _ hb
      have := (inb_tn (by omega) hy).2
      rw [if_pos hy, if_pos hy, hsh_cg (h _ hb) (by omega)]
    · rw [if_neg hy, if_neg hy]
  · rw [if_neg hx, if_neg hx]
theorem qc_two {F : Bv → Bv → Int32} (hF : ∀ x x' y y', beq x x' → beq y y' → F x y = F x' y') (hc : c ≤ 12) (h : ∀ b, b < c → beq (B b) (B' b)) : q_two F c B x y = q_two F c B' x y := by
  unfold q_two
  by_cases hx : (inb x c && inb y c) = true
  · have hx2 := Bool.and_eq_true_iff.mp hx
    rw [if_pos hx, if_pos hx, hF _ _ _ _ (h _ (inb_tn (by omega) hx2.1).2) (h _ (inb_tn (by omega) hx2.2).2)]
  · rw [if_neg hx, if_neg hx]
theorem qc_ad {o d a b w : Int32} (hc : c ≤ 12) (h : ∀ b, b < c → beq (B b) (B' b)) : adF c B x o d a b w = adF c B' x o d a b w := by
  unfold adF
  by_cases hx : inb x c = true
  · rw [if_pos hx, if_pos hx, (h _ (inb_tn (by omega) hx).2).1]
  · rw [if_neg hx, if_neg hx]
end QU
/-! one block is set -/
def stB (P : Pg) (b : Nat) (x : Bv) : Pg := (P.1, P.2.1, fun b' => if b' = b then x else P.2.2.1 b', P.2.2.2)
theorem PA_set {v w : VV} {p b : Nat} {P : Pg} {x : Bv} (h : PA v p P) (hF : WF P) (hb : b < P.1) (hw : ∀ q, (kB p b + 6 < q ∨ q < kB p b) → w q = v q) (hx : bH w (kB p b) x) : PA w p (stB P b x) := by
  obtain ⟨h1, h2, h3, h4, h5⟩ := h
  have h12 := hF.1
  have e0 := hw p (by unfold kB; omega)
  have e1 := hw (p + 86) (by unfold kB; omega)
  refine ⟨by rw [e0]; exact h1, by rw [e0]; exact h2, by rw [e1]; exact h3, by rw [e1]; exact h4, fun b' hb' => ?_⟩
  show bH w (kB p b') (if b' = b then x else P.2.2.1 b')
  by_cases e : b' = b
  · rw [if_pos e, e]; exact hx
  · rw [if_neg e]
    exact (h5 b' hb').far (fun q q1 q2 => hw q (kB_far2 e q1 q2))
theorem MA_set {g h : Nat → Int32} {b : Nat} {P : Pg} {x : Bv} (H : MA g P) (hw : ∀ i, (i < 10 + 55 * b ∨ 10 + 55 * b + 54 < i) → h i = g i) (hx : mH h b x) : MA h (stB P b x) := by
  obtain ⟨h1, h2, h3, h4⟩ := H
  refine ⟨by rw [hw _ (by omega)]; exact h1, by rw [hw _ (by omega)]; exact h2, fun r hr => by rw [hw _ (by omega)]; exact h3 r hr, fun b' hb' => ?_⟩
  show mH h b' (if b' = b then x else P.2.2.1 b')
  by_cases e : b' = b
  · rw [if_pos e, e]; exact hx
  · rw [if_neg e]
    exact (h4 b' hb').far (fun i i1 i2 => hw i (by omega))
theorem WF_set {b : Nat} {P : Pg} {x : Bv} (h : WF P) (hx : BW x P.1) : WF (stB P b x) := by
  refine ⟨h.1, h.2.1, fun b' hb' => ?_⟩
  show BW (if b' = b then x else P.2.2.1 b') P.1
  by_cases e : b' = b
  · rw [if_pos e]; exact hx
  · rw [if_neg e]; exact h.2.2 b' hb'
/-! a new block -/
def nwP (P : Pg) : Pg := (P.1 + 1, P.2.1, fun b' => if b' = P.1 then nwV else P.2.2.1 b', P.2.2.2)
theorem vp_mono {x : Int32} {c d : Nat} (h : vp_in x c) (hd : c ≤ d) : vp_in x d := by
  unfold vp_in at h ⊢
  intro e
  rcases e with e | e
  · exact h (Or.inl e)
  · exact h (Or.inr (Nat.le_trans hd e))
theorem BW_mono {x : Bv} {c d : Nat} (h : BW x c) (hd : c ≤ d) : BW x d := by
  refine ⟨h.1, ?_⟩
  rcases h.2 with t | t | t
  · exact Or.inl ⟨t.1, vp_mono t.2 hd⟩
  · exact Or.inr (Or.inl ⟨t.1, t.2.1, vp_mono t.2.2.1 hd, vp_mono t.2.2.2 hd⟩)
  · exact Or.inr (Or.inr t)
theorem nwV_BW {c : Nat} : BW nwV c := ⟨fun i hi => absurd hi (by show ¬ i < 0; omega), Or.inr (Or.inr rfl)⟩
theorem PA_new {v : VV} {p : Nat} {P : Pg} (h : PA v p P) (hc : P.1 < 12) : PA (nwB v p P.1) p (nwP P) := by
  obtain ⟨h1, h2, h3, h4, h5⟩ := h
  have e1 : nwB v p P.1 (p + 86) = v (p + 86) := nwB_far (by unfold kB; omega) (by omega)
  refine ⟨u2_same, ?_, by rw [e1]; exact h3, by rw [e1]; exact h4, fun b' hb' => ?_⟩
  · unfold nwB
    rw [u2_at (by omega), clr_far (by unfold kB; omega)]
    exact h2
  · show bH _ (kB p b') (if b' = P.1 then nwV else P.2.2.1 b')
    by_cases e : b' = P.1
    · rw [if_pos e, e]; exact bH_new
    · rw [if_neg e]
      have hb2 : b' < P.1 + 1 := hb'
      exact (h5 b' (by omega)).far (fun q q1 q2 => nwB_far (kB_far2 e q1 q2) (by unfold kB at q1; omega))
theorem MA_new {v : VV} {P : Pg} (h : MA (v 271) P) : MA (mnw v P.1 271) (nwP P) := by
  obtain ⟨h1, h2, h3, h4⟩ := h
  refine ⟨u2_same, by rw [mnw_at (by omega) (by omega)]; exact h2, fun r hr => by rw [mnw_at (by omega) (by omega)]; exact h3 r hr, fun b' hb' => ?_⟩
  show mH _ b' (if b' = P.1 then nwV else P.2.2.1 b')
  by_cases e : b' = P.1
  · rw [if_pos e, e]; exact mH_new
  · rw [if_neg e]
    have hb2 : b' < P.1 + 1 := hb'
    exact (h4 b' (by omega)).far (fun i i1 i2 => mnw_at (by omega) (by omega))
theorem WF_new {P : Pg} (h : WF P) (hc : P.1 < 12) : WF (nwP P) := by
  refine ⟨hc, h.2.1, fun b' hb' => ?_⟩
  show BW (if b' = P.1 then nwV else P.2.2.1 b') (P.1 + 1)
  by_cases e : b' = P.1
  · rw [if_pos e]; exact nwV_BW
  · rw [if_neg e]
    have hb2 : b' < P.1 + 1 := hb'
    exact BW_mono (h.2.2 b' (by omega)) (by omega)
/-! an instruction is put behind -/
theorem opF_ok {o d a b : Int32} (h : opF o d a b = true) : insOK o d a b := by
  have g : ∀ {x : Int32}, isG x = true → vp_in x 8 := fun hx => vp_mono (inb_vp (by omega) hx) (by omega)
  unfold opF at h
  by_cases h0 : o = 0
  · rw [if_pos h0] at h
    simp only [Bool.and_eq_true, decide_eq_true_eq] at h
    exact Or.inl ⟨h0, g h.1.1.1, h.2⟩
  · rw [if_neg h0] at h
    by_cases h1 : o = 1
    · rw [if_pos h1] at h
      simp only [Bool.and_eq_true, decide_eq_true_eq] at h
      exact Or.inr (Or.inl ⟨h1, g h.1.1, g h.1.2, h.2⟩)
    · rw [if_neg h1] at h
      by_cases h2 : o = 2 ∨ o = 3 ∨ o = 4 ∨ o = 5
      · rw [if_pos h2] at h
        simp only [Bool.and_eq_true] at h
        exact Or.inr (Or.inr (Or.inl ⟨h2, g h.1.1, g h.1.2, g h.2⟩))
      · rw [if_neg h2] at h
        by_cases h6 : o = 6
        · rw [if_pos h6] at h
          simp only [Bool.and_eq_true, decide_eq_true_eq] at h
          exact Or.inr (Or.inr (Or.inr ⟨h6, h.1.1, g h.1.2, h.2⟩))
        · rw [if_neg h6] at h
          exact absurd h (by simp)
theorem BW_ap {x : Bv} {c : Nat} {o d a b l : Int32} (h : BW x c) (hi : insOK o d a b) : BW (apV x o d a b l) c := by
  refine ⟨fun i hi2 => ?_, h.2⟩
  have hi3 : i < x.1 + 1 := hi2
  show insOK (if i = x.1 then o else x.2.1 0 i) (if i = x.1 then d else x.2.1 1 i) (if i = x.1 then a else x.2.1 2 i) (if i = x.1 then b else x.2.1 3 i)
  by_cases e : i = x.1
  · rw [if_pos e, if_pos e, if_pos e, if_pos e]; exact hi
  · rw [if_neg e, if_neg e, if_neg e, if_neg e]; exact h.1 i (by omega)
theorem BW_tm {x : Bv} {c : Nat} {k p q r : Int32} (h : BW x c) (ht : (k = 0 ∧ vp_in p c) ∨ (k = 1 ∧ vp_in p 8 ∧ vp_in q c ∧ vp_in r c) ∨ k = 2) : BW (tmV x k p q r) c := ⟨h.1, ht⟩
theorem BW_cut {x : Bv} {c m : Nat} (h : BW x c) : BW (ctV x m) c := ⟨fun i hi => h.1 i (by have h2 : i < x.1 - m := hi; omega), h.2⟩
theorem BW_un {x y : Bv} {c : Nat} (h : BW x c) : BW (unV x y) c := ⟨fun i hi => h.1 i hi, h.2⟩
theorem BW_tail {x : Bv} {c m : Nat} (h : BW x c) (hm : m ≤ x.1) : BW (tailV x m) c := ⟨fun i hi => h.1 _ (by have h2 : i < m := hi; omega), h.2⟩
/-! a set is merged -/
def mgP (P : Pg) (S m : Nat) : Pg := (P.1 + 1, P.2.1, fun b => if b = P.1 then nN P.2.2.1 S P.1 0 (tailV (P.2.2.1 (low S)) m) else cutV P.2.2.1 S m (nI P.1) b, P.2.2.2)
theorem PA_mg {v : VV} {p : Nat} {P : Pg} {S m : Nat} (h : PA v p P) (hF : WF P) (hc : P.1 < 12) (h0 : 0 < S) (hS : S < 2 ^ P.1) (hm : ∀ b, b < P.1 → Nat.testBit S b = true → m ≤ (P.2.2.1 b).1) : PA (mgF p P.1 S m P.1 0 false (nwB v p P.1)) p (mgP P S m) := by
  have hn := PA_new h hc
  obtain ⟨l1, l2, l3⟩ := low_ok h0 hS hF.1
  have hb : ∀ b', b' < P.1 → bH (nwB v p P.1) (kB p b') (P.2.2.1 b') := fun b' hb' => by
    have : bH (nwB v p P.1) (kB p b') (if b' = P.1 then nwV else P.2.2.1 b') := hn.2.2.2.2 b' (by show b' < P.1 + 1; omega)
    rw [if_neg (by omega)] at this
    exact this
  have hI : mgI (nwB v p P.1) p P.1 P.2.2.1 S m 0 false nwV := ⟨fun b' hb' => by rw [if_neg (by omega)]; exact hb b' hb', bH_new, rfl⟩
  obtain ⟨r1, r2⟩ := mgI_all hm P.1 0 false nwV _ (by omega) hI
  rw [nC_f l2 P.1 0 nwV (by omega) (by omega) (fun i _ hi => l3 i hi)] at r2
  have far : ∀ q, (∀ b, b ≤ P.1 → kB p b + 6 < q ∨ q < kB p b) → mgF p P.1 S m P.1 0 false (nwB v p P.1) q = nwB v p P.1 q := fun q hq => mgF_far hq _ _ _ _ (by omega)
  have e0 := far p (fun b hb => by unfold kB; omega)
  have e1 := far (p + 86) (fun b hb => by unfold kB; omega)
  refine ⟨by rw [e0]; exact hn.1, by rw [e0]; exact hn.2.1, by rw [e1]; exact hn.2.2.1, by rw [e1]; exact hn.2.2.2.1, fun b' hb' => ?_⟩
  show bH _ (kB p b') (if b' = P.1 then _ else _)
  by_cases e : b' = P.1
  · rw [if_pos e, e]; exact r2
  · rw [if_neg e]
    have hb2 : b' < P.1 + 1 := hb'
    exact r1 b' (by omega)
theorem mmF_at {c S m i : Nat} (hc : c ≤ 11) (hm : m ≤ 10) (hi : i < 10) : ∀ (f b : Nat) (v : VV), b + f = c → (∀ b', b ≤ b' → b' < c → mnb (v 271) b' ≤ 10) → mmF c S m f b v 271 i = v 271 i := by
  intro f
  induction f with
  | zero => intro b v _ _; rfl
  | succ f ih =>
    intro b v hb hn
    rw [mmF]
    have hnb := hn b (Nat.le_refl b) (by omega)
    by_cases hB : Nat.testBit S b = true
    · rw [if_pos hB, ih _ _ (by omega), mmS_at hnb hm (by omega) (by omega)]
      intro b' h1 h2
      rw [mnb_eq (mmS_at hnb hm (by omega) (by omega))]
      exact hn b' (by omega) h2
    · rw [if_neg hB, ih _ _ (by omega) (fun b' h1 h2 => hn b' (by omega) h2)]
theorem MA_mg {v : VV} {P : Pg} {S m : Nat} (h : MA (v 271) P) (hF : WF P) (hc : P.1 < 12) (h0 : 0 < S) (hS : S < 2 ^ P.1) (hm : ∀ b, b < P.1 → Nat.testBit S b = true → m ≤ (P.2.2.1 b).1) : MA (mgm v P.1 S m 271) (mgP P S m) := by
  have hn := MA_new h
  obtain ⟨l1, l2, l3⟩ := low_ok h0 hS hF.1
  have hml := hm _ l1 l2
  have hl := h.2.2.2 _ l1
  have hm10 : m ≤ 10 := by have := hl.2.1; omega
  unfold mgm
  rw [mH_mnb hl]
  have hb : ∀ b', b' < P.1 → mH (mnw v P.1 271) b' (P.2.2.1 b') := fun b' hb' => by
    have : mH (mnw v P.1 271) b' (if b' = P.1 then nwV else P.2.2.1 b') := hn.2.2.2 b' (by show b' < P.1 + 1; omega)
    rw [if_neg (by omega)] at this
    exact this
  have at1 : ∀ i, (i < 10 + 55 * P.1 ∨ 10 + 55 * P.1 + 54 < i) → mcT (mnw v P.1) (low S) P.1 0 (P.2.2.1 (low S)).1 m 271 i = mnw v P.1 271 i := fun i hi => mcT_at (by omega) hi
  have hb2 : ∀ b', b' < P.1 → mH (mcT (mnw v P.1) (low S) P.1 0 (P.2.2.1 (low S)).1 m 271) b' (P.2.2.1 b') := fun b' hb' => (hb b' hb').far (fun i i1 i2 => at1 i (by omega))
  have hJ : mmJ (mcT (mnw v P.1) (low S) P.1 0 (P.2.2.1 (low S)).1 m 271) P.1 P.2.2.1 S m 0 (tailV (P.2.2.1 (low S)) m) := ⟨fun b' hb' => by rw [if_neg (by omega)]; exact hb2 b' hb', mH_mcT (hb _ l1) (by omega) mnw_cnt hml, rfl⟩
  obtain ⟨r1, r2⟩ := mmJ_all hm P.1 0 _ _ (by omega) hJ
  have at2 : ∀ i, i < 10 → mmF P.1 S m P.1 0 (mcT (mnw v P.1) (low S) P.1 0 (P.2.2.1 (low S)).1 m) 271 i = mnw v P.1 271 i := fun i hi => by
    rw [mmF_at (by omega) hm10 hi P.1 0 _ (by omega) (fun b' _ hb' => by rw [mH_mnb (hb2 b' hb')]; exact (hb2 b' hb').2.1), at1 i (by omega)]
  refine ⟨by rw [at2 _ (by omega)]; exact hn.1, by rw [at2 _ (by omega)]; exact hn.2.1, fun r hr => by rw [at2 _ (by omega)]; exact hn.2.2.1 r hr, fun b' hb' => ?_⟩
  show mH _ b' (if b' = P.1 then _ else _)
  by_cases e : b' = P.1
  · rw [if_pos e, e]; exact r2
  · rw [if_neg e]
    have hb3 : b' < P.1 + 1 := hb'
    exact r1 b' (by omega)
theorem BW_nN {B : Nat → Bv} {S c : Nat} : ∀ (f b : Nat) (y : Bv), BW y c → BW (nN B S f b y) c := by
  intro f
  induction f with
  | zero => intro b y h; exact h
  | succ f ih =>
    intro b y h
    rw [nN]
    split
    · exact ih _ _ (BW_un h)
    · exact ih _ _ h
theorem nI_vp {n c : Nat} (h : n < c) (hc : c < 2 ^ 31) : vp_in (nI n) c := inb_vp hc (inb_nI hc h)
theorem WF_mg {P : Pg} {S m : Nat} (hF : WF P) (hc : P.1 < 12) (h0 : 0 < S) (hS : S < 2 ^ P.1) (hm : ∀ b, b < P.1 → Nat.testBit S b = true → m ≤ (P.2.2.1 b).1) : WF (mgP P S m) := by
  obtain ⟨l1, l2, l3⟩ := low_ok h0 hS hF.1
  refine ⟨hc, hF.2.1, fun b' hb' => ?_⟩
  show BW (if b' = P.1 then _ else _) (P.1 + 1)
  by_cases e : b' = P.1
  · rw [if_pos e]
    exact BW_nN _ _ _ (BW_tail (BW_mono (hF.2.2 _ l1) (by omega)) (hm _ l1 l2))
  · rw [if_neg e]
    have hb3 : b' < P.1 + 1 := hb'
    have hw := BW_mono (hF.2.2 b' (by omega)) (show P.1 ≤ P.1 + 1 by omega)
    unfold cutV
    split
    · exact BW_tm (BW_cut hw) (Or.inl ⟨rfl, nI_vp (by omega) (by omega)⟩)
    · exact hw
