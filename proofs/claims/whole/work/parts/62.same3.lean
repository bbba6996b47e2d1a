/-! merging with a parameter: both answer alike -/
theorem pt_D {x y : Bv} {c : Nat} (hx : BW x c) (hy : BW y c) (n1 : x.1 ≤ 10) (n2 : y.1 ≤ 10) (h0 : 0 ≤ pt x y) : ∃ m q, pt x y = nI m ∧ q ≤ m ∧ m ≤ x.1 ∧ m ≤ y.1 ∧ onlyD x y q := by
  unfold pt at h0 ⊢
  by_cases h : x.2.2 0 = 2 ∧ eqTb x y = true
  · rw [if_pos h] at h0 ⊢
    by_cases hd : (ptF x y (min x.1 y.1) 0 false).2 = true
    · rw [if_pos hd] at h0 ⊢
      have hN : min x.1 y.1 ≤ 10 := by omega
      have := plF_live (x := x) (y := y) hN (fun k k1 k2 => ⟨us7_same hx k1 (by omega), us7_same hy k1 (by omega)⟩) (min x.1 y.1) 0 false (fun _ _ => 0) (by omega) (by unfold live; rw [if_neg (by simp)]; intro i i1 i2; omega)
      obtain ⟨q, q1, q2, q3⟩ := this.2 hd
      have hle := (ptF_ok x y (min x.1 y.1) 0 false).2.1
      exact ⟨_, q, rfl, q2, by omega, by omega, q3⟩
    · rw [if_neg hd] at h0; exact absurd h0 n1005
  · rw [if_neg h] at h0; exact absurd h0 n1005
def qP (P : Pg) (x y : Int32) : Int32 := q_two pt P.1 P.2.2.1 x y
def psA (P : Pg) (x y : Int32) : Int32 := if 0 ≤ qP P x y then qP P x y + nI (tkk P.2.1 (P.2.2.1 (tn x))) - 2 * nI P.2.1 - 2 else qP P x y
def mwA (P : Pg) (x y : Int32) : Int32 := if 0 ≤ qP P x y then (if P.1 < 12 then nI P.1 else -1004) else qP P x y
def pV (x : Bv) (m q c : Nat) : Bv := apV (tmV (ctV x m) 0 (nI c) 0 0) 0 7 (x.2.1 2 (x.1 - q)) 0 (x.2.1 4 (x.1 - q))
def mpP (P : Pg) (a b m q : Nat) : Pg := (P.1 + 1, P.2.1, fun i => if i = P.1 then tkV (unV (tailV (P.2.2.1 a) m) (P.2.2.1 b)) q else if i = b then pV (P.2.2.1 b) m q P.1 else if i = a then pV (P.2.2.1 a) m q P.1 else P.2.2.1 i, P.2.2.2)
def mwP (P : Pg) (x y : Int32) : Pg := if 0 ≤ qP P x y ∧ P.1 < 12 then mpP P (tn x) (tn y) (tn (qP P x y)) (bkF (P.2.2.1 (tn x)) (P.2.2.1 (tn y)) (tn (qP P x y) - 1) 1) else P
theorem qP_ok {P : Pg} {x y : Int32} (hn : ∀ b, b < P.1 → (P.2.2.1 b).1 ≤ 10) (hF : WF P) (h0 : 0 ≤ qP P x y) : tn x < P.1 ∧ tn y < P.1 ∧ tn x ≠ tn y ∧ ∃ m q, qP P x y = nI m ∧ pt (P.2.2.1 (tn x)) (P.2.2.1 (tn y)) = nI m ∧ q ≤ m ∧ m ≤ (P.2.2.1 (tn x)).1 ∧ m ≤ (P.2.2.1 (tn y)).1 ∧ onlyD (P.2.2.1 (tn x)) (P.2.2.1 (tn y)) q := by
  have hq := q_two_ge h0
  obtain ⟨x1, y1, ne⟩ := q_pair0 hq
  have h12 := hF.1
  obtain ⟨x2, x3⟩ := inb_tn (by omega) x1
  obtain ⟨y2, y3⟩ := inb_tn (by omega) y1
  have e : qP P x y = pt (P.2.2.1 (tn x)) (P.2.2.1 (tn y)) := q_two0 hq
  rw [e] at h0
  refine ⟨x3, y3, fun t => ne (by rw [x2, y2, t]), ?_⟩
  obtain ⟨m, q, g1, g2, g3, g4, g5⟩ := pt_D (hF.2.2 _ x3) (hF.2.2 _ y3) (hn _ x3) (hn _ y3) h0
  exact ⟨m, q, by rw [e, g1], g1, g2, g3, g4, g5⟩
theorem c_pt {v : VV} {P : Pg} {x y : Int32} (h : PA v 1 P) (hF : WF P) : q_two pt P.1 (pv v 1) x y = qP P x y := qc_two (fun _ _ _ _ a b => pt_cg a b) hF.1 h.bq
theorem m_pt {v : VV} {P : Pg} {x y : Int32} (h : MA (v 271) P) (hF : WF P) : plR v P.1 x y = qP P x y := by
  unfold plR qP
  have h12 := hF.1
  by_cases hq : q_pair P.1 x y = 0
  · obtain ⟨x1, y1, ne⟩ := q_pair0 hq
    have x3 := (inb_tn (by omega) x1).2
    have y3 := (inb_tn (by omega) y1).2
    rw [if_pos hq, (plen_pt (h.mf hF) x3 y3).1, q_two0 hq]
    exact pt_cg (h.bq _ x3) (h.bq _ y3)
  · rw [if_neg hq]; exact q_two1 hq
theorem c_ps {v : VV} {P : Pg} {x y : Int32} (h : PA v 1 P) (hF : WF P) : psR v P.1 x y = psA P x y := by
  unfold psR psA
  rw [c_pt h hF]
  by_cases h0 : 0 ≤ qP P x y
  · rw [if_pos h0, if_pos h0, tc_k h _ (qP_ok h.n hF h0).1, h.2.1]
  · rw [if_neg h0, if_neg h0]
theorem qP_neg {P : Pg} {x y : Int32} (hn : ∀ b, b < P.1 → (P.2.2.1 b).1 ≤ 10) (hc : P.1 ≤ 12) (hq : q_pair P.1 x y = 0) (h0 : ¬ 0 ≤ qP P x y) : qP P x y = -1005 := by
  have e : qP P x y = pt (P.2.2.1 (tn x)) (P.2.2.1 (tn y)) := q_two0 hq
  have x3 := (inb_tn (by omega) (q_pair0 hq).1).2
  have := hn _ x3
  rw [e] at h0 ⊢
  rcases pt_ok (P.2.2.1 (tn x)) (P.2.2.1 (tn y)) with g | ⟨m, g1, g2, g3, g4⟩
  · exact g
  · rw [g4] at h0; exact absurd (nI_ge0 (by omega)) h0
theorem qP_nq {P : Pg} {x y : Int32} (hq : ¬ q_pair P.1 x y = 0) : qP P x y = q_pair P.1 x y ∧ ¬ 0 ≤ qP P x y := by
  have e : qP P x y = q_pair P.1 x y := (q_two1 hq).symm
  exact ⟨e, fun h => hq (q_two_ge h)⟩
theorem m_pl {v : VV} {P : Pg} {x y : Int32} (h : MA (v 271) P) (hF : WF P) (hq : q_pair P.1 x y = 0) : (plen v (tn x) (tn y)).1 = qP P x y := by
  have := m_pt (x := x) (y := y) h hF
  unfold plR at this
  rw [if_pos hq] at this
  exact this
theorem m_ps {v : VV} {P : Pg} {x y : Int32} (h : MA (v 271) P) (hF : WF P) : psR2 v P.1 x y = psA P x y := by
  unfold psR2 psA
  by_cases hq : q_pair P.1 x y = 0
  · rw [if_pos hq, m_pl h hF hq]
    by_cases h0 : 0 ≤ qP P x y
    · rw [if_pos h0, if_pos h0, tcm_k h hF _ (qP_ok h.n hF h0).1, h.2.1]
    · rw [if_neg h0, if_neg h0, qP_neg h.n hF.1 hq h0]
  · rw [if_neg hq, if_neg (qP_nq hq).2, (qP_nq hq).1]
theorem onlyD_sym0 {x y : Bv} {c q : Nat} (hx : BW x c) (h : onlyD x y q) (hq : q ≤ x.1) : x.2.1 3 (x.1 - q) = 0 := by
  have hs := (sctb_iff.mp h.2.2.1).1
  have h1 := h.1
  rcases hx.1 (x.1 - q) (by omega) with t | t | t | t
  · exact t.2.2
  · rw [hs] at t; exact absurd t.1 (by decide)
  · rw [hs] at t; exact absurd t.1 (by decide)
  · rw [hs] at t; exact absurd t.1 (by decide)
theorem PA_mp {v : VV} {P : Pg} {a b m q : Nat} (h : PA v 1 P) (hc : P.1 < 12) (ha : a < P.1) (hb : b < P.1) (hab : a ≠ b) (hq1 : 1 ≤ q) (hq : q ≤ m) (hma : m ≤ (P.2.2.1 a).1) (hmb : m ≤ (P.2.2.1 b).1) : PA (mpE (nwB v 1 P.1) 1 a b P.1 m (P.2.2.1 a).1 (P.2.2.1 b).1 q) 1 (mpP P a b m q) := by
  have hn := PA_new h hc
  have hB : ∀ b', b' < P.1 → bH (nwB v 1 P.1) (kB 1 b') (P.2.2.1 b') := fun b' hb' => by
    have : bH (nwB v 1 P.1) (kB 1 b') (if b' = P.1 then nwV else P.2.2.1 b') := hn.2.2.2.2 b' (by show b' < P.1 + 1; omega)
    rw [if_neg (by omega)] at this
    exact this
  have hN : bH (nwB v 1 P.1) (kB 1 P.1) nwV := bH_new
  generalize nwB v 1 P.1 = w0 at hn hB hN ⊢
  have sa : kB 1 P.1 + 6 < kB 1 a ∨ kB 1 a + 6 < kB 1 P.1 := by unfold kB; omega
  have sb : kB 1 P.1 + 6 < kB 1 b ∨ kB 1 b + 6 < kB 1 P.1 := by unfold kB; omega
  have sab : kB 1 a + 6 < kB 1 b ∨ kB 1 b + 6 < kB 1 a := by unfold kB; omega
  unfold mpE
  have t1 := bH_apT (hB a ha) sa hN.1 hma
  have f1 : ∀ z, (kB 1 P.1 + 6 < z ∨ z < kB 1 P.1) → apT w0 (kB 1 P.1) (kB 1 a) 0 (P.2.2.1 a).1 m z = w0 z := fun z hz => apT_far hz
  generalize apT w0 (kB 1 P.1) (kB 1 a) 0 (P.2.2.1 a).1 m = w1 at t1 f1 ⊢
  have t2 : bH (unF (kB 1 P.1) (kB 1 b) m (P.2.2.1 b).1 m 1 w1) (kB 1 P.1) (unV (tailV (P.2.2.1 a) m) (P.2.2.1 b)) := bH_unF t1 ((hB b hb).far (fun z z1 z2 => f1 z (by omega))) sb hmb
  have f2 : ∀ z, (kB 1 P.1 + 6 < z ∨ z < kB 1 P.1) → unF (kB 1 P.1) (kB 1 b) m (P.2.2.1 b).1 m 1 w1 z = w0 z := fun z hz => by rw [unF_far (by omega)]; exact f1 z hz
  generalize unF (kB 1 P.1) (kB 1 b) m (P.2.2.1 b).1 m 1 w1 = w2 at t2 f2 ⊢
  have t3 : bH (tkP w2 (kB 1 P.1) m q) (kB 1 P.1) (tkV (unV (tailV (P.2.2.1 a) m) (P.2.2.1 b)) q) := bH_tkP t2
  have f3 : ∀ z, (kB 1 P.1 + 6 < z ∨ z < kB 1 P.1) → tkP w2 (kB 1 P.1) m q z = w0 z := fun z hz => by rw [tkP_far (by omega) (by omega)]; exact f2 z hz
  generalize tkP w2 (kB 1 P.1) m q = w3 at t3 f3 ⊢
  have t4 : bH (rpP w3 (kB 1 a) (P.2.2.1 a).1 m q (nI P.1)) (kB 1 a) (pV (P.2.2.1 a) m q P.1) := bH_rpP ((hB a ha).far (fun z z1 z2 => f3 z (by omega))) hq1 hq hma
  have f4 : ∀ z, (kB 1 a + 6 < z ∨ z < kB 1 a) → rpP w3 (kB 1 a) (P.2.2.1 a).1 m q (nI P.1) z = w3 z := fun z hz => rpP_far hz
  generalize rpP w3 (kB 1 a) (P.2.2.1 a).1 m q (nI P.1) = w4 at t4 f4 ⊢
  have t5 : bH (rpP w4 (kB 1 b) (P.2.2.1 b).1 m q (nI P.1)) (kB 1 b) (pV (P.2.2.1 b) m q P.1) := bH_rpP ((hB b hb).far (fun z z1 z2 => by rw [f4 z (by omega), f3 z (by omega)])) hq1 hq hmb
  have f5 : ∀ z, (kB 1 b + 6 < z ∨ z < kB 1 b) → rpP w4 (kB 1 b) (P.2.2.1 b).1 m q (nI P.1) z = w4 z := fun z hz => rpP_far hz
  generalize rpP w4 (kB 1 b) (P.2.2.1 b).1 m q (nI P.1) = w5 at t5 f5 ⊢
  have e0 : w5 1 = w0 1 := by rw [f5 _ (by unfold kB; omega), f4 _ (by unfold kB; omega), f3 _ (by unfold kB; omega)]
  have e1 : w5 (1 + 86) = w0 (1 + 86) := by rw [f5 _ (by unfold kB; omega), f4 _ (by unfold kB; omega), f3 _ (by unfold kB; omega)]
  refine ⟨by rw [e0]; exact hn.1, by rw [e0]; exact hn.2.1, by rw [e1]; exact hn.2.2.1, by rw [e1]; exact hn.2.2.2.1, fun i hi => ?_⟩
  have hi2 : i < P.1 + 1 := hi
  show bH w5 (kB 1 i) (if i = P.1 then _ else if i = b then _ else if i = a then _ else P.2.2.1 i)
  by_cases i1 : i = P.1
  · rw [if_pos i1, i1]
    exact t3.far (fun z z1 z2 => by rw [f5 z (by omega), f4 z (by omega)])
  · rw [if_neg i1]
    by_cases i2 : i = b
    · rw [if_pos i2, i2]; exact t5
    · rw [if_neg i2]
      by_cases i3 : i = a
      · rw [if_pos i3, i3]
        exact t4.far (fun z z1 z2 => by rw [f5 z (by omega)])
      · rw [if_neg i3]
        refine (hB i (by omega)).far (fun z z1 z2 => ?_)
        rw [f5 z (kB_far2 i2 z1 z2), f4 z (kB_far2 i3 z1 z2), f3 z (kB_far2 i1 z1 z2)]
theorem c_mw {v : VV} {P : Pg} {x y : Int32} (h : PA v 1 P) (hF : WF P) : mwR v P.1 x y = mwA P x y ∧ PA (mwV v P.1 x y) 1 (mwP P x y) := by
  unfold mwR mwV mwA mwP
  rw [c_pt h hF]
  refine ⟨rfl, ?_⟩
  by_cases h0 : 0 ≤ qP P x y ∧ P.1 < 12
  · rw [if_pos h0, if_pos h0]
    obtain ⟨x3, y3, ne, m, q, e1, e2, e3, e4, e5, e6⟩ := qP_ok h.n hF h0.1
    have hq1 := e6.1
    have m10 : m ≤ 10 := by have := h.n _ x3; omega
    rw [e1, tn_nI (by omega), bk_D e6 _ 1 (by omega) hq1 (by omega)]
    unfold mpV
    have hn := PA_new h h0.2
    have hB : ∀ b', b' < P.1 → bH (nwB v 1 P.1) (kB 1 b') (P.2.2.1 b') := fun b' hb' => by
      have : bH (nwB v 1 P.1) (kB 1 b') (if b' = P.1 then nwV else P.2.2.1 b') := hn.2.2.2.2 b' (by show b' < P.1 + 1; omega)
      rw [if_neg (by omega)] at this
      exact this
    have bq : ∀ b', b' < P.1 → beq (bw (nwB v 1 P.1) (kB 1 b') (nb v 1 b')) (P.2.2.1 b') := fun b' hb' => by
      have e := bH_nb (hB b' hb')
      rw [bH_nb (h.2.2.2.2 b' hb'), ← e]
      exact bH_pv (hB b' hb')
    have hk := bk_D (onlyD_cg (bq _ x3).sym (bq _ y3).sym (by omega) (by omega) e6) (m - 1) 1 (by omega) hq1 (by omega)
    rw [hk, bH_nb (h.2.2.2.2 _ x3), bH_nb (h.2.2.2.2 _ y3)]
    exact PA_mp h h0.2 x3 y3 ne hq1 e3 e4 e5
  · rw [if_neg h0, if_neg h0]; exact h
theorem BW_tk {x : Bv} {c q : Nat} (h : BW x c) (hq1 : 1 ≤ q) (hq : q ≤ x.1) (hs : x.2.1 0 (x.1 - q) = 0) : BW (tkV x q) c := by
  refine ⟨fun i hi => ?_, h.2⟩
  have hi2 : i < x.1 := hi
  by_cases e : i = x.1 - q
  · subst e
    have ho := h.1 (x.1 - q) hi2
    show insOK (if x.1 - q = x.1 - q then _ else _) (if x.1 - q = x.1 - q then _ else _) (if x.1 - q = x.1 - q then _ else _) (if x.1 - q = x.1 - q then _ else _)
    rw [if_pos rfl, if_pos rfl, if_pos rfl, if_pos rfl]
    rw [hs] at ho
    refine Or.inr (Or.inl ⟨rfl, ho.d, nI_vp (n := 7) (by omega) (by omega), ?_⟩)
    rcases ho with t | t | t | t
    · rw [if_pos rfl]; exact t.2.2
    · exact absurd t.1 (by decide)
    · exact absurd t.1 (by decide)
    · exact absurd t.1 (by decide)
  · show insOK (if i = x.1 - q then _ else _) (if i = x.1 - q then _ else _) (if i = x.1 - q then _ else _) (if i = x.1 - q then _ else _)
    rw [if_neg e, if_neg e, if_neg e, if_neg e]
    exact h.1 i hi2
theorem BW_pV {x : Bv} {c m q : Nat} (h : BW x c) (hc : c < 12) : BW (pV x m q c) (c + 1) := by
  unfold pV
  refine BW_ap (BW_tm (BW_cut (BW_mono h (by omega))) (Or.inl ⟨rfl, nI_vp (by omega) (by omega)⟩)) (Or.inl ⟨rfl, nI_vp (n := 7) (by omega) (by omega), rfl⟩)
theorem WF_mw {P : Pg} {x y : Int32} (hn : ∀ b, b < P.1 → (P.2.2.1 b).1 ≤ 10) (hF : WF P) : WF (mwP P x y) := by
  unfold mwP
  by_cases h0 : 0 ≤ qP P x y ∧ P.1 < 12
  · rw [if_pos h0]
    obtain ⟨x3, y3, ne, m, q, e1, e2, e3, e4, e5, e6⟩ := qP_ok hn hF h0.1
    have hq1 := e6.1
    have m10 : m ≤ 10 := by have := hn _ x3; omega
    rw [e1, tn_nI (by omega), bk_D e6 _ 1 (by omega) hq1 (by omega)]
    refine ⟨h0.2, hF.2.1, fun i hi => ?_⟩
    have hi2 : i < P.1 + 1 := hi
    show BW (if i = P.1 then _ else if i = tn y then _ else if i = tn x then _ else P.2.2.1 i) (P.1 + 1)
    by_cases i1 : i = P.1
    · rw [if_pos i1]
      refine BW_tk (BW_un (BW_tail (BW_mono (hF.2.2 _ x3) (by omega)) e4)) hq1 e3 ?_
      show (P.2.2.1 (tn x)).2.1 0 ((P.2.2.1 (tn x)).1 - m + (m - q)) = 0
      rw [show (P.2.2.1 (tn x)).1 - m + (m - q) = (P.2.2.1 (tn x)).1 - q by omega]
      exact (sctb_iff.mp e6.2.2.1).1
    · rw [if_neg i1]
      by_cases i2 : i = tn y
      · rw [if_pos i2]; exact BW_pV (hF.2.2 _ y3) h0.2
      · rw [if_neg i2]
        by_cases i3 : i = tn x
        · rw [if_pos i3]; exact BW_pV (hF.2.2 _ x3) h0.2
        · rw [if_neg i3]; exact BW_mono (hF.2.2 i (by omega)) (by omega)
  · rw [if_neg h0]; exact hF
theorem mpp_at {v : VV} {b n m t i : Nat} {x : Int32} (hn : n ≤ 10) (hm : 1 ≤ m) (hmn : m ≤ n) (h : i < 10 + 55 * b ∨ 10 + 55 * b + 54 < i) : mpp v b n m t x 271 i = v 271 i := by
  unfold mpp
  rw [map5_at (by omega) (by omega), mcut_at hn h]
theorem MA_mp {v : VV} {P : Pg} {a b m q : Nat} (h : MA (v 271) P) (hc : P.1 < 12) (ha : a < P.1) (hb : b < P.1) (hab : a ≠ b) (hq1 : 1 ≤ q) (hq : q ≤ m) (hma : m ≤ (P.2.2.1 a).1) (hmb : m ≤ (P.2.2.1 b).1) (h3 : (P.2.2.1 a).2.1 3 ((P.2.2.1 a).1 - q) = 0) : MA (mpM v P.1 a b m q 271) (mpP P a b m q) := by
  have hn := MA_new h
  have hB : ∀ b', b' < P.1 → mH (mnw v P.1 271) b' (P.2.2.1 b') := fun b' hb' => by
    have : mH (mnw v P.1 271) b' (if b' = P.1 then nwV else P.2.2.1 b') := hn.2.2.2 b' (by show b' < P.1 + 1; omega)
    rw [if_neg (by omega)] at this
    exact this
  have hN : mnw v P.1 271 (10 + 55 * P.1) = nI 0 := mnw_cnt
  have na : mnb (v 271) a = (P.2.2.1 a).1 := mH_mnb (h.2.2.2 a ha)
  have n2 : mnb (v 271) b = (P.2.2.1 b).1 := mH_mnb (h.2.2.2 b hb)
  have a10 := (hB a ha).2.1
  have b10 := (hB b hb).2.1
  unfold mpM
  rw [na, n2]
  generalize mnw v P.1 = w0 at hn hB hN ⊢
  have t1 := mH_mcT (hB a ha) (by omega) hN hma
  have f1 : ∀ i, (i < 10 + 55 * P.1 ∨ 10 + 55 * P.1 + 54 < i) → mcT w0 a P.1 0 (P.2.2.1 a).1 m 271 i = w0 271 i := fun i hi => mcT_at (by omega) hi
  generalize mcT w0 a P.1 0 (P.2.2.1 a).1 m = w1 at t1 f1 ⊢
  have t2 : mH (muF b P.1 (P.2.2.1 b).1 m m 0 w1 271) P.1 (unV (tailV (P.2.2.1 a) m) (P.2.2.1 b)) := mH_muF t1 ((hB b hb).far (fun i i1 i2 => f1 i (by omega))) (by omega) hmb
  have f2 : ∀ i, (i < 10 + 55 * P.1 ∨ 10 + 55 * P.1 + 54 < i) → muF b P.1 (P.2.2.1 b).1 m m 0 w1 271 i = w0 271 i := fun i hi => by rw [muF_at (by omega) _ _ _ (by omega)]; exact f1 i hi
  generalize muF b P.1 (P.2.2.1 b).1 m m 0 w1 = w2 at t2 f2 ⊢
  have t3 : mH (u2 (u2 (u2 w2 271 (10 + 55 * P.1 + 1 + 5 * (m - q)) 1) 271 (10 + 55 * P.1 + 1 + 5 * (m - q) + 2) 7) 271 (10 + 55 * P.1 + 1 + 5 * (m - q) + 3) 0 271) P.1 (tkV (unV (tailV (P.2.2.1 a) m) (P.2.2.1 b)) q) := mH_tk t2 hq1 hq (by
    show (P.2.2.1 a).2.1 3 ((P.2.2.1 a).1 - m + (m - q)) = 0
    rw [show (P.2.2.1 a).1 - m + (m - q) = (P.2.2.1 a).1 - q by omega]
    exact h3)
  have f3 : ∀ i, (i < 10 + 55 * P.1 ∨ 10 + 55 * P.1 + 54 < i) → u2 (u2 (u2 w2 271 (10 + 55 * P.1 + 1 + 5 * (m - q)) 1) 271 (10 + 55 * P.1 + 1 + 5 * (m - q) + 2) 7) 271 (10 + 55 * P.1 + 1 + 5 * (m - q) + 3) 0 271 i = w0 271 i := fun i hi => by rw [u2_at (by omega), u2_at (by omega), u2_at (by omega)]; exact f2 i hi
  generalize u2 (u2 (u2 w2 271 (10 + 55 * P.1 + 1 + 5 * (m - q)) 1) 271 (10 + 55 * P.1 + 1 + 5 * (m - q) + 2) 7) 271 (10 + 55 * P.1 + 1 + 5 * (m - q) + 3) 0 = w3 at t3 f3 ⊢
  have t4 : mH (mpp w3 a (P.2.2.1 a).1 m q (nI P.1) 271) a (pV (P.2.2.1 a) m q P.1) := mH_mpp ((hB a ha).far (fun i i1 i2 => f3 i (by omega))) hq1 hq hma
  have f4 : ∀ i, (i < 10 + 55 * a ∨ 10 + 55 * a + 54 < i) → mpp w3 a (P.2.2.1 a).1 m q (nI P.1) 271 i = w3 271 i := fun i hi => mpp_at a10 (by omega) hma hi
  generalize mpp w3 a (P.2.2.1 a).1 m q (nI P.1) = w4 at t4 f4 ⊢
  have t5 : mH (mpp w4 b (P.2.2.1 b).1 m q (nI P.1) 271) b (pV (P.2.2.1 b) m q P.1) := mH_mpp ((hB b hb).far (fun i i1 i2 => by rw [f4 i (by omega), f3 i (by omega)])) hq1 hq hmb
  have f5 : ∀ i, (i < 10 + 55 * b ∨ 10 + 55 * b + 54 < i) → mpp w4 b (P.2.2.1 b).1 m q (nI P.1) 271 i = w4 271 i := fun i hi => mpp_at b10 (by omega) hmb hi
  generalize mpp w4 b (P.2.2.1 b).1 m q (nI P.1) = w5 at t5 f5 ⊢
  have e0 : ∀ i, i < 10 → w5 271 i = w0 271 i := fun i hi => by rw [f5 i (by omega), f4 i (by omega), f3 i (by omega)]
  refine ⟨by rw [e0 _ (by omega)]; exact hn.1, by rw [e0 _ (by omega)]; exact hn.2.1, fun r hr => by rw [e0 _ (by omega)]; exact hn.2.2.1 r hr, fun i hi => ?_⟩
  have hi2 : i < P.1 + 1 := hi
  show mH (w5 271) i (if i = P.1 then _ else if i = b then _ else if i = a then _ else P.2.2.1 i)
  by_cases i1 : i = P.1
  · rw [if_pos i1, i1]
    exact t3.far (fun z z1 z2 => by rw [f5 z (by omega), f4 z (by omega)])
  · rw [if_neg i1]
    by_cases i2 : i = b
    · rw [if_pos i2, i2]; exact t5
    · rw [if_neg i2]
      by_cases i3 : i = a
      · rw [if_pos i3, i3]
        exact t4.far (fun z z1 z2 => by rw [f5 z (by omega)])
      · rw [if_neg i3]
        refine (hB i (by omega)).far (fun z z1 z2 => ?_)
        rw [f5 z (by omega), f4 z (by omega), f3 z (by omega)]
theorem m_mw {v : VV} {P : Pg} {x y : Int32} (h : MA (v 271) P) (hF : WF P) : mwR2 v P.1 x y = mwA P x y ∧ MA (mwV2 v P.1 x y 271) (mwP P x y) := by
  unfold mwR2 mwV2 mwA mwP
  have h12 := hF.1
  by_cases hq : q_pair P.1 x y = 0
  · rw [if_pos hq, if_pos hq, m_pl h hF hq]
    have e271 : (plen v (tn x) (tn y)).2 271 = v 271 := plen_ne (by omega)
    by_cases h0 : 0 ≤ qP P x y
    · rw [if_pos h0, if_pos h0]
      refine ⟨rfl, ?_⟩
      by_cases hc : P.1 < 12
      · rw [if_pos ⟨h0, hc⟩, if_pos ⟨h0, hc⟩]
        obtain ⟨x3, y3, ne, m, q, e1, e2, e3, e4, e5, e6⟩ := qP_ok h.n hF h0
        have hq1 := e6.1
        have m10 : m ≤ 10 := by have := h.n _ x3; omega
        have e2' : pt (mw (v 271) (tn x)) (mw (v 271) (tn y)) = nI m := by rw [pt_cg (h.bq _ x3) (h.bq _ y3), e2]
        obtain ⟨m', q', g1, g2, g3, g4, g5, g6⟩ := (plen_pt (h.mf hF) x3 y3).2 (by rw [e2']; exact nI_ge0 m10)
        have n1 := mH_mnb (h.2.2.2 _ x3)
        have n2 := mH_mnb (h.2.2.2 _ y3)
        have gq := onlyD_cg (h.bq _ x3) (h.bq _ y3) (show q' ≤ mnb (v 271) (tn x) by omega) (show q' ≤ mnb (v 271) (tn y) by omega) g6
        have hqq : q' = q := by
          have b1 := bk_D gq 20 1 (by omega) gq.1 (by have := h.n _ x3; omega)
          have b2 := bk_D e6 20 1 (by omega) hq1 (by omega)
          omega
        rw [e1, tn_nI (by omega), bk_D e6 _ 1 (by omega) hq1 (by omega), g2, hqq, tn_nI (by omega)]
        exact MA_mp (by rw [e271]; exact h) hc x3 y3 ne hq1 e3 e4 e5 (onlyD_sym0 (hF.2.2 _ x3) e6 (by omega))
      · rw [if_neg (fun e => hc e.2), if_neg (fun e => hc e.2), e271]; exact h
    · rw [if_neg h0, if_neg h0, if_neg (fun e => h0 e.1), if_neg (fun e => h0 e.1), e271]
      exact ⟨(qP_neg h.n hF.1 hq h0).symm, h⟩
  · rw [if_neg hq, if_neg hq, if_neg (qP_nq hq).2, if_neg (fun e => (qP_nq hq).2 e.1)]
    exact ⟨(qP_nq hq).1.symm, h⟩
