/-! mergeAll, of both -/
def bx (c : Nat) (v : VV) : Int32 := (boF 1 c c 0 (-1008) 0 v).1
def bv (c : Nat) (v : VV) : VV := (boF 1 c c 0 (-1008) 0 v).2
def ctl (c : Nat) (v : VV) : Nat := tn (tfV (pv (bv c v) 1) c (tn (bx c v)))
def cst (c : Nat) (v : VV) : VV := mgF 1 c (tn (bx c v)) (ctl c v) c 0 false (nwB (bv c v) 1 c)
def caF : Nat → Nat → VV → Nat × VV
  | 0, k, v => (k, v)
  | f + 1, k, v => if bx (11 - f) v = -1008 then (k, bv (11 - f) v) else caF f (k + 1) (cst (11 - f) v)
def rst (c : Nat) (w : VV) : VV := mgm w c (tn (fbR (w 271) c)) (tn (tfR (w 271) c (tn (fbR (w 271) c))))
def raF : Nat → Nat → VV → Nat × VV
  | 0, k, w => (k, w)
  | f + 1, k, w => if 0 ≤ fbR (w 271) (11 - f) then raF f (k + 1) (rst (11 - f) w) else (k, w)
def CG (v : VV) (c : Nat) : Prop := ∃ P g, PA v 1 P ∧ MA g P ∧ WF P ∧ P.1 = c
theorem CG.pw {v : VV} {c : Nat} (h : CG v c) : PW v 1 c := by
  obtain ⟨P, g, h1, h2, h3, rfl⟩ := h
  exact h1.pw h3
theorem CG.bo {v : VV} {c : Nat} (h : CG v c) : CG (bv c v) c := by
  obtain ⟨P, g, h1, h2, h3, rfl⟩ := h
  exact ⟨P, g, PA_bo h1 h3, h2, h3, rfl⟩
/-- one round, on both -/
theorem all_step {v w : VV} {P : Pg} (hA : PA v 1 P) (hM : MA (w 271) P) (hF : WF P) (hc : P.1 < 12) : bx P.1 v = fbR (w 271) P.1 ∧ (¬ bx P.1 v = -1008 → 0 ≤ fbR (w 271) P.1 ∧ ∃ S m, bx P.1 v = nI S ∧ S < 2 ^ P.1 ∧ 2 ≤ pop S ∧ tfV (pv (bv P.1 v) 1) P.1 S = nI m ∧ tfR (w 271) P.1 S = nI m ∧ m ≤ 10 ∧ (∀ b, b < P.1 → Nat.testBit S b = true → m ≤ (P.2.2.1 b).1) ∧ WF (mgP P S m) ∧ PA (cst P.1 v) 1 (mgP P S m) ∧ MA (rst P.1 w 271) (mgP P S m)) := by
  have hb := best_same hA hM hF
  have hB := PA_bo hA hF
  have hp := pow12 hF.1
  refine ⟨hb, fun hne => ?_⟩
  have hne2 : ¬ fbR (w 271) P.1 = -1008 := by rw [← hb]; exact hne
  rcases best_good hM hF with g | ⟨g0, S, g1, g2⟩
  · exact absurd g hne2
  · obtain ⟨e1, e2, e3, e4, m, e5, e6, e7⟩ := eE_ok hM.n hF.1 g0
    have hS : tn (fbR (w 271) P.1) = S := by rw [g2, tn_nI (by omega)]
    rw [hS] at e2 e3 e4 e6 e7
    have hbS : bx P.1 v = nI S := by rw [← g2]; exact hb
    have hbS2 : tn (bx P.1 v) = S := by rw [hbS, tn_nI (by omega)]
    have t1 : tfV (pv (bv P.1 v) 1) P.1 S = nI m := by rw [← e6]; exact tfV_cg hB.bq (pop_pos e3) e2 hF.1
    have t2 : tfR (w 271) P.1 S = nI m := by rw [← e6, tfR_V]; exact tfV_cg hM.bq (pop_pos e3) e2 hF.1
    have hm : ∀ b, b < P.1 → Nat.testBit S b = true → m ≤ (P.2.2.1 b).1 := fun b hb2 hbit => (e7 b hb2 hbit).1
    refine ⟨by rw [g2]; exact nI_pos' (by omega), S, m, hbS, e2, e3, t1, t2, e5, hm, WF_mg hF hc (pop_pos e3) e2 hm, ?_, ?_⟩
    · unfold cst ctl
      rw [hbS2, t1, tn_nI (by omega)]
      exact PA_mg hB hF hc (pop_pos e3) e2 hm
    · unfold rst
      rw [hS, t2, tn_nI (by omega)]
      exact MA_mg hM hF hc (pop_pos e3) e2 hm
theorem CG.step {v : VV} {c : Nat} (h : CG v c) (hc : c < 12) (hne : ¬ bx c v = -1008) : ∃ S m, bx c v = nI S ∧ S < 4096 ∧ tsF (bv c v) 1 S c 0 none (-1005) = nI m ∧ m ≤ 10 ∧ (∀ b, b < c → Nat.testBit S b = true → m ≤ nb (bv c v) 1 b) ∧ cst c v = mgF 1 c S m c 0 false (nwB (bv c v) 1 c) ∧ CG (cst c v) (c + 1) := by
  obtain ⟨P, g, h1, h2, h3, rfl⟩ := h
  have hp := pow12 h3.1
  obtain ⟨-, a⟩ := all_step (w := fun _ => g) h1 h2 h3 hc
  obtain ⟨-, S, m, s1, s2, s3, s4, s5, s6, s7, s8, s9, s10⟩ := a hne
  have hB := PA_bo h1 h3
  refine ⟨S, m, s1, by omega, (tsF_V (hB.pw h3) s3 s2).trans s4, s6, fun b hb hbit => ?_, ?_, ?_⟩
  · have e := bH_nb (hB.2.2.2.2 b hb)
    have := s7 b hb hbit
    show m ≤ nb (boF 1 P.1 P.1 0 (-1008) 0 v).2 1 b
    rw [e]; exact this
  · unfold cst ctl
    rw [s1, tn_nI (by omega), s4, tn_nI (by omega)]
  · exact ⟨mgP P S m, _, s9, s10, s8, rfl⟩
theorem all_same {f : Nat} : ∀ (k : Nat) (v w : VV) (P : Pg), f + P.1 = 12 → PA v 1 P → MA (w 271) P → WF P → (caF f k v).1 = (raF f k w).1 ∧ ∃ P', WF P' ∧ PA (caF f k v).2 1 P' ∧ MA ((raF f k w).2 271) P' := by
  induction f with
  | zero => intro k v w P _ hA hM hF; exact ⟨rfl, P, hF, hA, hM⟩
  | succ f ih =>
    intro k v w P hf hA hM hF
    have e : 11 - f = P.1 := by omega
    rw [caF, raF, e]
    obtain ⟨a1, a2⟩ := all_step hA hM hF (by omega)
    by_cases hb : bx P.1 v = -1008
    · rw [if_pos hb, if_neg (by rw [← a1, hb]; decide)]
      exact ⟨rfl, P, hF, PA_bo hA hF, hM⟩
    · obtain ⟨b0, S, m, s1, s2, s3, s4, s5, s6, s7, s8, s9, s10⟩ := a2 hb
      rw [if_neg hb, if_pos b0]
      exact ih _ _ _ (mgP P S m) (by show f + (P.1 + 1) = 12; omega) s9 s10 s8
theorem cst_far {c q : Nat} {v : VV} (hc : c < 12) (h : 89 ≤ q) : cst c v q = v q := by
  unfold cst
  rw [mgF_far (fun b hb => by unfold kB; omega) _ _ _ _ (by omega), nwB_far (by unfold kB; omega) (by omega)]
  exact bo_far (by omega) _ _ _ _ _
theorem caF_far {q : Nat} (h : 89 ≤ q) : ∀ (f k : Nat) (v : VV), (caF f k v).2 q = v q := by
  intro f
  induction f with
  | zero => intro k v; rfl
  | succ f ih =>
    intro k v
    rw [caF]
    split
    · exact bo_far (by omega) _ _ _ _ _
    · rw [ih, cst_far (by omega) h]
theorem raF_ne {q : Nat} (h : q ≠ 271) : ∀ (f k : Nat) (w : VV), (raF f k w).2 q = w q := by
  intro f
  induction f with
  | zero => intro k w; rfl
  | succ f ih =>
    intro k w
    rw [raF]
    split
    · rw [ih]; exact mgm_ne h
    · rfl

set_option maxRecDepth 100000 in
set_option maxHeartbeats 4000000 in
theorem lp_X3_mergeAll {E : TE} {G : GG} {N : Nat} {post : Int32 → VV → Prop} (hC : Cx E G cX3_mergeAll RX3 4 wsX3_mergeAll 4 96) (hR : RtI E G cX3_mergeAll post) (hN : N ≤ 12) : ∀ (f k : Nat) (v : VV), k + f = N → CG v (12 - f) → post (nI (caF f k v).1) (caF f k v).2 → Wv E G v 13 [some (.ref (G.1 0)), some (.int (nI N)), some (.int (nI k)), none] [] := by
  intro f
  induction f with
  | zero =>
    intro k v hf hG hpost
    refine r_iload_n hC (q := 14) dX3_mergeAll_13 rfl rfl ?_
    refine r_iload_n hC (q := 15) dX3_mergeAll_14 rfl rfl ?_
    refine r_icmp_geN hC (q := 18) (t := 59) dX3_mergeAll_15 rfl rfl (by omega) (by omega) (by decide) rfl (fun h15 => ?_) (fun h15 => ?_)
    · skip
      refine r_iload_n hC (q := 60) dX3_mergeAll_59 rfl rfl ?_
      exact hR _ _ _ _ dX3_mergeAll_60 hpost
    · skip
      omega
  | succ f ih =>
    intro k v hf hG hpost
    rw [show 12 - (f + 1) = 11 - f by omega] at hG
    rw [caF] at hpost
    have i_X3 : ∀ w ∈ wsX30, w ∈ wsX3_mergeAll := by decide +kernel
    have l_10 : lnk E RX3 10 (TX3 0) := hC.fl (by decide +kernel)
    refine r_iload_n hC (q := 14) dX3_mergeAll_13 rfl rfl ?_
    refine r_iload_n hC (q := 15) dX3_mergeAll_14 rfl rfl ?_
    refine r_icmp_geN hC (q := 18) (t := 59) dX3_mergeAll_15 rfl rfl (by omega) (by omega) (by decide) rfl (fun h15 => ?_) (fun h15 => ?_)
    · skip
      omega
    · skip
      refine r_aload_n hC (q := 19) dX3_mergeAll_18 rfl rfl ?_
      refine g_X3 hC 0 i_X3 l_10 (by decide) (q := 22) dX3_mergeAll_19 rfl rfl ?_
      refine r_cNI hC (q := 25) (n := 0) (As := []) (fun lch => c_X2_bestSet lch isPr_1 hG.pw) ggX3_mergeAll_X2_bestSet rfl 15 rfl (by decide +kernel) (by decide +kernel) (by decide +kernel) (by decide +kernel) ⟨by decide, by decide⟩ (ob_p isPr_1) rfl rfl rfl rfl (Nat.le_of_ble_eq_true rfl) dX3_mergeAll_22 rfl ?_
      rintro _ _ ⟨rfl, rfl⟩
      refine r_istore_n hC (q := 26) (L' := [_, _, _, _]) dX3_mergeAll_25 (Nat.le_of_ble_eq_true rfl) rfl rfl ?_
      refine r_iload_n hC (q := 27) dX3_mergeAll_26 rfl rfl ?_
      refine r_sipush hC (x := (-1008)) (q := 30) dX3_mergeAll_27 (by decide) rfl ?_
      refine r_icmp_ne hC (q := 33) (t := 36) dX3_mergeAll_30 (by decide) rfl (fun h30 => ?_) (fun h30 => ?_)
      · have h30 : ¬ bx (11 - f) v = -1008 := h30; obtain ⟨S, m, s1, s2, s3, s4, s5, hst, hG2⟩ := hG.step (by omega) h30; rw [if_neg h30] at hpost
        refine r_aload_n hC (q := 37) dX3_mergeAll_36 rfl rfl ?_
        refine g_X3 hC 0 i_X3 l_10 (by decide) (q := 40) dX3_mergeAll_37 rfl rfl ?_
        refine r_iload_n hC (q := 41) dX3_mergeAll_40 rfl rfl ?_
        refine r_top (y := nI S) s1 ?_
        refine r_aload_n hC (q := 42) dX3_mergeAll_41 rfl rfl ?_
        refine g_X3 hC 0 i_X3 l_10 (by decide) (q := 45) dX3_mergeAll_42 rfl rfl ?_
        refine r_iload_n hC (q := 46) dX3_mergeAll_45 rfl rfl ?_
        refine r_top (y := nI S) s1 ?_
        refine r_cNI hC (q := 49) (n := 1) (As := [_]) (fun lch => c_X2_tailOfSet lch isPr_1 hG.bo.pw s2) ggX3_mergeAll_X2_tailOfSet rfl 12 rfl (by decide +kernel) (by decide +kernel) (by decide +kernel) (by decide +kernel) ⟨by decide, by decide⟩ (ob_p isPr_1) rfl rfl rfl rfl (Nat.le_of_ble_eq_true rfl) dX3_mergeAll_46 rfl ?_
        rintro _ _ ⟨rfl, rfl⟩
        refine r_top (y := nI m) s3 ?_
        refine r_cNI hC (q := 52) (n := 2) (As := [_, _]) (fun lch => c_X2_mergeSet lch isPr_1 hG.bo.pw (by omega) s2 s4 s5) ggX3_mergeAll_X2_mergeSet rfl 16 rfl (by decide +kernel) (by decide +kernel) (by decide +kernel) (by decide +kernel) ⟨by decide, by decide⟩ (ob_p isPr_1) rfl rfl rfl rfl (Nat.le_of_ble_eq_true rfl) dX3_mergeAll_49 rfl ?_
        rintro _ _ ⟨rfl, rfl⟩
        refine r_pop hC (q := 53) rfl dX3_mergeAll_52 rfl ?_
        refine r_iincN hC (q := 56) (L' := [_, _, _, _]) (c := 1) dX3_mergeAll_53 rfl rfl rfl rfl rfl ?_
        refine r_goto hC (t := 13) dX3_mergeAll_56 (by decide) ?_
        have hnx := ih (k + 1) (cst (11 - f) v) (by omega) (by rw [show 12 - f = 11 - f + 1 by omega]; exact hG2) hpost
        rw [hst] at hnx
        exact r_weak hnx ⟨Or.inr rfl, Or.inr rfl, Or.inr rfl, Or.inl rfl, trivial⟩
      · have h30 : bx (11 - f) v = -1008 := h30; rw [if_pos h30] at hpost
        refine r_goto hC (t := 59) dX3_mergeAll_33 (by decide) ?_
        refine r_iload_n hC (q := 60) dX3_mergeAll_59 rfl rfl ?_
        exact hR _ _ _ _ dX3_mergeAll_60 hpost

set_option maxRecDepth 100000 in
set_option maxHeartbeats 4000000 in
theorem b_X3_mergeAll {E : TE} {G : GG} {v : VV} {c : Nat} (hC : Cx E G cX3_mergeAll RX3 4 wsX3_mergeAll 4 96) (hR : RtI E G cX3_mergeAll (fun r v' => r = nI (caF (12 - c) 0 v).1 ∧ v' = (caF (12 - c) 0 v).2)) (hG : CG v c) : Wv E G v 0 [some (.ref (G.1 0)), none, none, none] [] := by
  have h12 := hG.pw.2.1
  have i_X2 : ∀ w ∈ wsX20, w ∈ wsX3_mergeAll := by decide +kernel
  have i_X3 : ∀ w ∈ wsX30, w ∈ wsX3_mergeAll := by decide +kernel
  have l_10 : lnk E RX3 10 (TX3 0) := hC.fl (by decide +kernel)
  have l_60 : lnk E RX3 60 (TX2 1) := hC.nf 19 rfl
  refine r_bipush hC (x := 12) (q := 2) dX3_mergeAll_0 (by decide) rfl ?_
  refine r_aload_n hC (q := 3) dX3_mergeAll_2 rfl rfl ?_
  refine g_X3 hC 0 i_X3 l_10 (by decide) (q := 6) dX3_mergeAll_3 rfl rfl ?_
  refine g_X2 hC 1 i_X2 l_60 (by decide) (q := 9) dX3_mergeAll_6 isPr_1 rfl rfl ?_
  refine r_top (y := nI c) hG.pw.1 ?_
  refine r_isubN hC (q := 10) (a := 12) dX3_mergeAll_9 rfl rfl (by omega) rfl ?_
  refine r_istore_n hC (q := 11) (L' := [_, _, _, _]) dX3_mergeAll_10 (Nat.le_of_ble_eq_true rfl) rfl rfl ?_
  refine r_iconst hC (x := 0) (q := 12) dX3_mergeAll_11 (by decide) rfl ?_
  refine r_istore_n hC (q := 13) (L' := [_, _, _, _]) dX3_mergeAll_12 (Nat.le_of_ble_eq_true rfl) rfl rfl ?_
  exact lp_X3_mergeAll hC hR (by omega) (12 - c) 0 _ (by omega) (by rw [show 12 - (12 - c) = c by omega]; exact hG) ⟨rfl, rfl⟩
theorem c_X3_mergeAll (l : Launch) {G : GG} {v : VV} {c : Nat} (hG : CG v c) : MtI l G yX3_mergeAll wsX3_mergeAll 4 96 [.ref (G.1 0)] v (fun r v' => r = nI (caF (12 - c) 0 v).1 ∧ v' = (caF (12 - c) 0 v).2) := mt_int (Or.inl rfl) (by decide) rfl (by simp [Value.category]) (Nat.le_of_ble_eq_true rfl) rfl rfl (fun E hC hR => b_X3_mergeAll hC hR hG)

def RG (w : VV) (c : Nat) : Prop := ∃ P, MA (w 271) P ∧ WF P ∧ P.1 = c
theorem RG.mW {w : VV} {c : Nat} (h : RG w c) : MW (w 271) c := by
  obtain ⟨P, h1, h2, rfl⟩ := h
  exact h1.mW h2
theorem RG.step {w : VV} {c : Nat} (h : RG w c) (hc : c < 12) (h0 : 0 ≤ fbR (w 271) c) : ∃ S m, fbR (w 271) c = nI S ∧ 0 < S ∧ S < 2 ^ c ∧ tfR (w 271) c S = nI m ∧ m ≤ 10 ∧ (∀ b, b < c → Nat.testBit S b = true → m ≤ mnb (w 271) b) ∧ rst c w = mgm w c S m ∧ RG (rst c w) (c + 1) := by
  obtain ⟨P, hM, hF, rfl⟩ := h
  have hp := pow12 hF.1
  rcases best_good hM hF with g | ⟨g0, S, g1, g2⟩
  · rw [g] at h0; exact absurd h0 (by decide)
  · obtain ⟨e1, e2, e3, e4, m, e5, e6, e7⟩ := eE_ok hM.n hF.1 g0
    have hS : tn (fbR (w 271) P.1) = S := by rw [g2, tn_nI (by omega)]
    rw [hS] at e2 e3 e4 e6 e7
    have t2 : tfR (w 271) P.1 S = nI m := by rw [← e6, tfR_V]; exact tfV_cg hM.bq (pop_pos e3) e2 hF.1
    have hm : ∀ b, b < P.1 → Nat.testBit S b = true → m ≤ (P.2.2.1 b).1 := fun b hb2 hbit => (e7 b hb2 hbit).1
    have hr : rst P.1 w = mgm w P.1 S m := by unfold rst; rw [hS, t2, tn_nI (by omega)]
    refine ⟨S, m, g2, pop_pos e3, e2, t2, e5, fun b hb hbit => by rw [mH_mnb (hM.2.2.2 b hb)]; exact hm b hb hbit, hr, mgP P S m, ?_, WF_mg hF hc (pop_pos e3) e2 hm, rfl⟩
    rw [hr]
    exact MA_mg hM hF hc (pop_pos e3) e2 hm

set_option maxRecDepth 100000 in
set_option maxHeartbeats 4000000 in
theorem lp_X4_mergeAll {E : TE} {G : GG} {post : Int32 → VV → Prop} (hC : Cx E G cX4_mergeAll RX4 3 wsX4_mergeAll 7 161) (hR : RtI E G cX4_mergeAll post) : ∀ (f k : Nat) (x : Int32) (v : VV), f ≤ 12 → RG v (12 - f) → x = fbR (v 271) (12 - f) → post (nI (raF f k v).1) (raF f k v).2 → Wv E G v 7 [some (.ref (G.1 270)), some (.int (nI k)), some (.int x)] [] := by
  intro f
  induction f with
  | zero =>
    intro k x v hf hG hx hpost
    have hcnt : v 271 0 = nI 12 := hG.mW.1
    have i_X4 : ∀ w ∈ wsX40, w ∈ wsX4_mergeAll := by decide +kernel
    have l_7 : lnk E RX4 7 (TX4 0) := hC.fl (by decide +kernel)
    refine r_iload_n hC (q := 8) dX4_mergeAll_7 rfl rfl ?_
    refine r_if_lt hC (q := 11) (t := 39) dX4_mergeAll_8 (by decide) rfl (fun h8 => ?_) (fun h8 => ?_)
    · skip
      refine r_iload_n hC (q := 40) dX4_mergeAll_39 rfl rfl ?_
      exact hR _ _ _ _ dX4_mergeAll_40 hpost
    · skip
      refine r_aload_n hC (q := 12) dX4_mergeAll_11 rfl rfl ?_
      refine g_X4 hC 0 i_X4 l_7 (by decide) (q := 15) dX4_mergeAll_12 rfl rfl ?_
      refine r_iconst hC (x := 0) (q := 16) dX4_mergeAll_15 (by decide) rfl ?_
      refine r_iaN hC (q := 17) (i := 0) dX4_mergeAll_16 iA_271 rfl (by omega) rfl ?_
      refine r_top (y := nI 12) hcnt ?_
      refine r_bipush hC (x := 12) (q := 19) dX4_mergeAll_17 (by decide) rfl ?_
      refine r_icmp_geN hC (q := 22) (t := 39) (b := 12) dX4_mergeAll_19 rfl rfl (by omega) (by omega) (by decide) rfl (fun h19 => ?_) (fun h19 => ?_)
      · skip
        refine r_iload_n hC (q := 40) dX4_mergeAll_39 rfl rfl ?_
        exact hR _ _ _ _ dX4_mergeAll_40 hpost
      · skip
        omega
  | succ f ih =>
    intro k x v hf hG hx hpost
    rw [show 12 - (f + 1) = 11 - f by omega] at hG hx
    rw [raF] at hpost
    have hcnt : v 271 0 = nI (11 - f) := hG.mW.1
    subst hx
    have i_X4 : ∀ w ∈ wsX40, w ∈ wsX4_mergeAll := by decide +kernel
    have l_7 : lnk E RX4 7 (TX4 0) := hC.fl (by decide +kernel)
    refine r_iload_n hC (q := 8) dX4_mergeAll_7 rfl rfl ?_
    refine r_if_lt hC (q := 11) (t := 39) dX4_mergeAll_8 (by decide) rfl (fun h8 => ?_) (fun h8 => ?_)
    · rw [if_neg (Int32.not_le.mpr h8)] at hpost
      refine r_iload_n hC (q := 40) dX4_mergeAll_39 rfl rfl ?_
      exact hR _ _ _ _ dX4_mergeAll_40 hpost
    · have h8 := Int32.not_lt.mp h8; obtain ⟨S, m, s1, s0, s2, s3, s4, s5, hst, hG2⟩ := hG.step (by omega) h8; rw [if_pos h8] at hpost
      refine r_aload_n hC (q := 12) dX4_mergeAll_11 rfl rfl ?_
      refine g_X4 hC 0 i_X4 l_7 (by decide) (q := 15) dX4_mergeAll_12 rfl rfl ?_
      refine r_iconst hC (x := 0) (q := 16) dX4_mergeAll_15 (by decide) rfl ?_
      refine r_iaN hC (q := 17) (i := 0) dX4_mergeAll_16 iA_271 rfl (by omega) rfl ?_
      refine r_top (y := nI (11 - f)) hcnt ?_
      refine r_bipush hC (x := 12) (q := 19) dX4_mergeAll_17 (by decide) rfl ?_
      refine r_icmp_geN hC (q := 22) (t := 39) (b := 12) dX4_mergeAll_19 rfl rfl (by omega) (by omega) (by decide) rfl (fun h19 => ?_) (fun h19 => ?_)
      · skip
        omega
      · skip
        refine r_aload_n hC (q := 23) dX4_mergeAll_22 rfl rfl ?_
        refine r_iload_n hC (q := 24) dX4_mergeAll_23 rfl rfl ?_
        refine r_top (y := nI S) s1 ?_
        refine r_cVI hC (q := 27) (n := 1) (As := [_]) (fun lch => c_X4_mergeSet lch hG.mW s0 s2 (by omega) s3 s4 s5) gX4_mergeAll_X4_mergeSet rfl (by decide +kernel) ⟨by decide, by decide⟩ ob_270 rfl rfl rfl rfl (Nat.le_of_ble_eq_true rfl) dX4_mergeAll_24 rfl ?_
        rintro _ _ ⟨rfl, rfl⟩
        refine r_pop hC (q := 28) rfl dX4_mergeAll_27 rfl ?_
        refine r_iincN hC (q := 31) (L' := [_, _, _]) (c := 1) dX4_mergeAll_28 rfl rfl rfl rfl rfl ?_
        refine r_aload_n hC (q := 32) dX4_mergeAll_31 rfl rfl ?_
        refine r_cVI hC (q := 35) (n := 0) (As := []) (fun lch => c_X4_findBest lch (c := 12 - f) (by rw [← hst, show 12 - f = 11 - f + 1 by omega]; exact hG2.mW)) gX4_mergeAll_X4_findBest rfl (by decide +kernel) ⟨by decide, by decide⟩ ob_270 rfl rfl rfl rfl (Nat.le_of_ble_eq_true rfl) dX4_mergeAll_32 rfl ?_
        rintro _ _ ⟨rfl, rfl⟩
        refine r_istore_n hC (q := 36) (L' := [_, _, _]) dX4_mergeAll_35 (Nat.le_of_ble_eq_true rfl) rfl rfl ?_
        refine r_goto hC (t := 7) dX4_mergeAll_36 (by decide) ?_
        exact ih (k + 1) _ _ (by omega) (by rw [← hst, show 12 - f = 11 - f + 1 by omega]; exact hG2) rfl (by rw [hst] at hpost; exact hpost)

set_option maxRecDepth 100000 in
set_option maxHeartbeats 4000000 in
theorem b_X4_mergeAll {E : TE} {G : GG} {v : VV} {c : Nat} (hC : Cx E G cX4_mergeAll RX4 3 wsX4_mergeAll 7 161) (hR : RtI E G cX4_mergeAll (fun r v' => r = nI (raF (12 - c) 0 v).1 ∧ v' = (raF (12 - c) 0 v).2)) (hG : RG v c) : Wv E G v 0 [some (.ref (G.1 270)), none, none] [] := by
  have h12 := hG.mW.2.1
  refine r_iconst hC (x := 0) (q := 1) dX4_mergeAll_0 (by decide) rfl ?_
  refine r_istore_n hC (q := 2) (L' := [_, _, _]) dX4_mergeAll_1 (Nat.le_of_ble_eq_true rfl) rfl rfl ?_
  refine r_aload_n hC (q := 3) dX4_mergeAll_2 rfl rfl ?_
  refine r_cVI hC (q := 6) (n := 0) (As := []) (fun lch => c_X4_findBest lch hG.mW) gX4_mergeAll_X4_findBest rfl (by decide +kernel) ⟨by decide, by decide⟩ ob_270 rfl rfl rfl rfl (Nat.le_of_ble_eq_true rfl) dX4_mergeAll_3 rfl ?_
  rintro _ _ ⟨rfl, rfl⟩
  refine r_istore_n hC (q := 7) (L' := [_, _, _]) dX4_mergeAll_6 (Nat.le_of_ble_eq_true rfl) rfl rfl ?_
  exact lp_X4_mergeAll hC hR (12 - c) 0 _ _ (by omega) (by rw [show 12 - (12 - c) = c by omega]; exact hG) (by rw [show 12 - (12 - c) = c by omega]) ⟨rfl, rfl⟩
theorem c_X4_mergeAll (l : Launch) {G : GG} {v : VV} {c : Nat} (hG : RG v c) : MtI l G yX4_mergeAll wsX4_mergeAll 7 161 [.ref (G.1 270)] v (fun r v' => r = nI (raF (12 - c) 0 v).1 ∧ v' = (raF (12 - c) 0 v).2) := mt_int (Or.inl rfl) (by decide) rfl (by simp [Value.category]) (Nat.le_of_ble_eq_true rfl) rfl rfl (fun E hC hR => b_X4_mergeAll hC hR hG)

theorem k_mergeAll {G : GG} {v : VV} (h : Rel v) : Two G v yX3_mergeAll wsX3_mergeAll 4 96 [.ref (G.1 0)] yX4_mergeAll wsX4_mergeAll 7 161 [.ref (G.1 270)] := by
  obtain ⟨P, hP⟩ := h
  have hc := hP.1.1
  refine ⟨_, fun l => c_X3_mergeAll l (c := P.1) ⟨P, v 271, hP.2.1, hP.2.2.1, hP.1, rfl⟩, fun r1 v1 h1 => ?_⟩
  obtain ⟨e1, e2⟩ := h1
  have f1 : ∀ q, 89 ≤ q → v1 q = v q := fun q hq => by rw [e2]; exact caF_far hq _ _ _
  have hM : MA (v1 271) P := by rw [f1 _ (by omega)]; exact hP.2.2.1
  refine ⟨_, fun l => c_X4_mergeAll l (c := P.1) ⟨P, hM, hP.1, rfl⟩, fun r2 v2 h2 => ?_⟩
  obtain ⟨e3, e4⟩ := h2
  obtain ⟨a1, P', a2, a3, a4⟩ := all_same (f := 12 - P.1) 0 v v1 P (by omega) hP.2.1 hM hP.1
  exact ⟨by rw [e1, e3, a1], Rel_op hP f1 (fun q h _ => by rw [e4]; exact raF_ne h _ _ _) (by rw [e4, raF_ne (by omega)]) a2 (by rw [e2]; exact a3) (by rw [e4]; exact a4)⟩
