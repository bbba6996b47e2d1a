theorem MW.n {g : Nat → Int32} {c : Nat} (h : MW g c) : ∀ b, b < c → (mw g b).1 ≤ 10 := fun b hb => (h.2.2 b hb).2
def mtR2 (g : Nat → Int32) (c : Nat) (x : Int32) : Int32 := if wsR g c x = 0 then (if 0 < svg g c (tn x) then (if c < 12 then nI c else -1004) else -1006) else wsR g c x
def mtV2 (v : VV) (c : Nat) (x : Int32) : VV := if wsR (v 271) c x = 0 ∧ 0 < svg (v 271) c (tn x) ∧ c < 12 then mgm v c (tn x) (tn (tfR (v 271) c (tn x))) else v
theorem tfR_ok {g : Nat → Int32} {c S : Nat} (hM : MW g c) (hp : 2 ≤ pop S) (h : S < 2 ^ c) (h0 : 0 ≤ tfR g c S) : ∃ m, m ≤ 10 ∧ tfR g c S = nI m ∧ ∀ b, b < c → Nat.testBit S b = true → m ≤ mnb g b := by
  rw [tfR_V] at h0 ⊢
  rcases tfV_ok (B := mw g) hM.n hp h hM.2.1 with h3 | ⟨m, h3, h4, h5⟩
  · rw [h3] at h0; exact absurd h0 n1005
  · exact ⟨m, h3, h4, fun b hb hbS => (h5 b hb hbS).1⟩

set_option maxRecDepth 100000 in
set_option maxHeartbeats 4000000 in
theorem b_X4_mergeTail {E : TE} {G : GG} {v : VV} {c : Nat} {x : Int32} (hC : Cx E G cX4_mergeTail RX4 3 wsX4_mergeTail 6 141) (hR : RtI E G cX4_mergeTail (fun r v' => r = mtR2 (v 271) c x ∧ v' = mtV2 v c x)) (hM : MW (v 271) c) : Wv E G v 0 [some (.ref (G.1 270)), some (.int x), none] [] := by
  have h12 := hM.2.1
  have hp := pow12 h12
  have i_X4 : ∀ w ∈ wsX40, w ∈ wsX4_mergeTail := by decide +kernel
  have l_7 : lnk E RX4 7 (TX4 0) := hC.fl (by decide +kernel)
  refine r_aload_n hC (q := 1) dX4_mergeTail_0 rfl rfl ?_
  refine r_iload_n hC (q := 2) dX4_mergeTail_1 rfl rfl ?_
  refine r_cVI hC (q := 5) (n := 1) (As := [_]) (fun lch => c_X4_wrongSet lch hM) gX4_mergeTail_X4_wrongSet rfl (by decide +kernel) ⟨by decide, by decide⟩ ob_270 rfl rfl rfl rfl (Nat.le_of_ble_eq_true rfl) dX4_mergeTail_2 rfl ?_
  rintro _ _ ⟨rfl, rfl⟩
  refine r_istore_n hC (q := 6) (L' := [_, _, _]) dX4_mergeTail_5 (Nat.le_of_ble_eq_true rfl) rfl rfl ?_
  refine r_iload_n hC (q := 7) dX4_mergeTail_6 rfl rfl ?_
  refine r_if_eq hC (q := 10) (t := 12) dX4_mergeTail_7 (by decide) rfl (fun h7 => ?_) (fun h7 => ?_)
  · obtain ⟨hi, hp2, ht0⟩ := wsR0 h7; obtain ⟨ex, bx⟩ := inb_tn (by omega) hi; have hs0 := pop_0 (S := tn x) (by omega); obtain ⟨m, hm, em, hmb⟩ := tfR_ok hM hp2 bx ht0
    refine r_aload_n hC (q := 13) dX4_mergeTail_12 rfl rfl ?_
    refine r_iload_n hC (q := 14) dX4_mergeTail_13 rfl rfl ?_
    refine r_top (y := nI (tn x)) ex ?_
    refine r_cVI hC (q := 17) (n := 1) (As := [_]) (fun lch => c_X4_savingOf lch hM hs0 bx) gX4_mergeTail_X4_savingOf rfl (by decide +kernel) ⟨by decide, by decide⟩ ob_270 rfl rfl rfl rfl (Nat.le_of_ble_eq_true rfl) dX4_mergeTail_14 rfl ?_
    rintro _ _ ⟨rfl, rfl⟩
    refine r_if_gt hC (q := 20) (t := 24) dX4_mergeTail_17 (by decide) rfl (fun h17 => ?_) (fun h17 => ?_)
    · skip
      refine r_aload_n hC (q := 25) dX4_mergeTail_24 rfl rfl ?_
      refine g_X4 hC 0 i_X4 l_7 (by decide) (q := 28) dX4_mergeTail_25 rfl rfl ?_
      refine r_iconst hC (x := 0) (q := 29) dX4_mergeTail_28 (by decide) rfl ?_
      refine r_iaN hC (q := 30) (i := 0) dX4_mergeTail_29 iA_271 rfl (by omega) rfl ?_
      refine r_top (y := nI c) hM.1 ?_
      refine r_bipush hC (x := 12) (q := 32) dX4_mergeTail_30 (by decide) rfl ?_
      refine r_icmp_neN hC (q := 35) (t := 41) (b := 12) dX4_mergeTail_32 rfl rfl (by omega) (by omega) (by decide) rfl (fun h32 => ?_) (fun h32 => ?_)
      · skip
        refine r_aload_n hC (q := 42) dX4_mergeTail_41 rfl rfl ?_
        refine r_iload_n hC (q := 43) dX4_mergeTail_42 rfl rfl ?_
        refine r_top (y := nI (tn x)) ex ?_
        refine r_cVI hC (q := 46) (n := 1) (As := [_]) (fun lch => c_X4_mergeSet lch hM hs0 bx (by omega) em hm hmb) gX4_mergeTail_X4_mergeSet rfl (by decide +kernel) ⟨by decide, by decide⟩ ob_270 rfl rfl rfl rfl (Nat.le_of_ble_eq_true rfl) dX4_mergeTail_43 rfl ?_
        rintro _ _ ⟨rfl, rfl⟩
        exact hR _ _ _ _ dX4_mergeTail_46 ⟨by rw [mtR2, if_pos h7, if_pos h17, if_pos (by omega)], by rw [mtV2, if_pos ⟨h7, h17, by omega⟩, em, tn_nI (by omega)]⟩
      · skip
        refine r_sipush hC (x := (-1004)) (q := 38) dX4_mergeTail_35 (by decide) rfl ?_
        refine r_goto hC (t := 46) dX4_mergeTail_38 (by decide) ?_
        exact hR _ _ _ _ dX4_mergeTail_46 ⟨by rw [mtR2, if_pos h7, if_pos h17, if_neg (by omega)], by rw [mtV2, if_neg (fun e => by omega)]⟩
    · skip
      refine r_sipush hC (x := (-1006)) (q := 23) dX4_mergeTail_20 (by decide) rfl ?_
      exact hR _ _ _ _ dX4_mergeTail_23 ⟨by rw [mtR2, if_pos h7, if_neg h17], by rw [mtV2, if_neg (fun e => h17 e.2.1)]⟩
  · skip
    refine r_iload_n hC (q := 11) dX4_mergeTail_10 rfl rfl ?_
    exact hR _ _ _ _ dX4_mergeTail_11 ⟨by rw [mtR2, if_neg h7], by rw [mtV2, if_neg (fun e => h7 e.1)]⟩
theorem c_X4_mergeTail (l : Launch) {G : GG} {v : VV} {c : Nat} {x : Int32} (hM : MW (v 271) c) : MtI l G yX4_mergeTail wsX4_mergeTail 6 141 [.ref (G.1 270), .int x] v (fun r v' => r = mtR2 (v 271) c x ∧ v' = mtV2 v c x) := mt_int (Or.inl rfl) (by decide) rfl (by simp [Value.category]) (Nat.le_of_ble_eq_true rfl) rfl rfl (fun E hC hR => b_X4_mergeTail hC hR hM)

theorem plF_ok (x y : Bv) : ∀ (f k : Nat) (fd : Int32) (dn : Nat) (cl : Bool) (v : VV), 1 ≤ k → plQ v k dn → (fd = -1005 ∨ ∃ m q, fd = nI m ∧ v 270 3 = nI q ∧ 1 ≤ q ∧ q ≤ m ∧ m < k ∧ 1 ≤ dn) → ((plF x y f k fd dn cl v).1 = -1005 ∨ ∃ m q, (plF x y f k fd dn cl v).1 = nI m ∧ (plF x y f k fd dn cl v).2 270 3 = nI q ∧ 1 ≤ q ∧ q ≤ m ∧ m < k + f) := by
  intro f
  induction f with
  | zero =>
    intro k fd dn cl v hk hq h
    rcases h with h | ⟨m, q, h1, h2, h3, h4, h5, -⟩
    · exact Or.inl h
    · exact Or.inr ⟨m, q, h1, h2, h3, h4, by omega⟩
  | succ f ih =>
    intro k fd dn cl v hk hq h
    have hq2 : plQ (plV v x y k dn) (k + 1) (plD x y k dn) := by
      unfold plQ plD plV
      by_cases he : eqAb x y k = true
      · rw [if_pos he, if_pos he]
        intro h
        obtain ⟨q, g1, g2, g3⟩ := hq h
        exact ⟨q, g1, g2, by omega⟩
      · rw [if_neg he, if_neg he]
        intro _
        by_cases hd : dn + 1 = 1
        · rw [if_pos hd]
          exact ⟨k, u2_same, hk, Nat.lt_succ_self k⟩
        · rw [if_neg hd]
          obtain ⟨q, g1, g2, g3⟩ := hq (by omega)
          exact ⟨q, by rw [u2_same]; exact g1, g2, by omega⟩
    have hkeep : 1 ≤ dn → plV v x y k dn 270 3 = v 270 3 := by
      intro hd
      unfold plV
      by_cases he : eqAb x y k = true
      · rw [if_pos he]
      · rw [if_neg he, if_neg (by omega), u2_same]
    have hdd : dn ≤ plD x y k dn := by unfold plD; split <;> omega
    rw [plF]
    have h2 := ih (k + 1) (if (plC x y k cl && decide (plD x y k dn = 1) && sctb x y (tn (plV v x y k dn 270 3))) = true then nI k else fd) (plD x y k dn) (plC x y k cl) (plV v x y k dn) (by omega) hq2 ?_
    · rcases h2 with h2 | ⟨m, q, g1, g2, g3, g4, g5⟩
      · exact Or.inl h2
      · exact Or.inr ⟨m, q, g1, g2, g3, g4, by omega⟩
    · by_cases hc : (plC x y k cl && decide (plD x y k dn = 1) && sctb x y (tn (plV v x y k dn 270 3))) = true
      · rw [if_pos hc]
        have h1 : plD x y k dn = 1 := by simp at hc; exact hc.1.2
        obtain ⟨q, g1, g2, g3⟩ := hq2 (by omega)
        exact Or.inr ⟨k, q, rfl, g1, g2, by omega, by omega, by omega⟩
      · rw [if_neg hc]
        rcases h with h | ⟨m, q, h1, h2, h3, h4, h5, h6⟩
        · exact Or.inl h
        · exact Or.inr ⟨m, q, h1, by rw [hkeep h6]; exact h2, h3, h4, by omega, by omega⟩
theorem plF_ne (x y : Bv) {q : Nat} (h : q ≠ 270) : ∀ (f k : Nat) (fd : Int32) (dn : Nat) (cl : Bool) (v : VV), (plF x y f k fd dn cl v).2 q = v q := by
  intro f
  induction f with
  | zero => intro k fd dn cl v; rfl
  | succ f ih => intro k fd dn cl v; rw [plF, ih, plV_ne h]
theorem plen_ne {v : VV} {a b q : Nat} (h : q ≠ 270) : (plen v a b).2 q = v q := by
  unfold plen
  split
  · exact plF_ne _ _ h _ _ _ _ _ _
  · rfl
theorem plF_6 (x y : Bv) : ∀ (f k : Nat) (fd : Int32) (dn : Nat) (cl : Bool) (v : VV), (plF x y f k fd dn cl v).2 270 6 = v 270 6 := by
  intro f
  induction f with
  | zero => intro k fd dn cl v; rfl
  | succ f ih =>
    intro k fd dn cl v
    rw [plF, ih]
    unfold plV
    split
    · rfl
    · exact u2_at (by omega)
theorem plen_6 {v : VV} {a b : Nat} : (plen v a b).2 270 6 = v 270 6 := by
  unfold plen
  split
  · exact plF_6 _ _ _ _ _ _ _ _
  · rfl
theorem plen_ok {v : VV} {a b : Nat} (h : 0 ≤ (plen v a b).1) : ∃ m q, (plen v a b).1 = nI m ∧ (plen v a b).2 270 3 = nI q ∧ 1 ≤ q ∧ q ≤ m ∧ m ≤ mnb (v 271) a ∧ m ≤ mnb (v 271) b := by
  unfold plen at h ⊢
  by_cases h1 : eqTb (mw (v 271) a) (mw (v 271) b) = true ∧ (mw (v 271) a).2.2 0 = 2
  · rw [if_pos h1] at h ⊢
    rcases plF_ok (mw (v 271) a) (mw (v 271) b) (min (mnb (v 271) a) (mnb (v 271) b)) 1 (-1005) 0 true v (by omega) (fun h => by omega) (Or.inl rfl) with h2 | ⟨m, q, g1, g2, g3, g4, g5⟩
    · rw [h2] at h; exact absurd h n1005
    · have h5 := Nat.min_le_left (mnb (v 271) a) (mnb (v 271) b)
      have h6 := Nat.min_le_right (mnb (v 271) a) (mnb (v 271) b)
      exact ⟨m, q, g1, g2, g3, g4, by omega, by omega⟩
  · rw [if_neg h1] at h; exact absurd h n1005
def psR2 (v : VV) (c : Nat) (x y : Int32) : Int32 := if q_pair c x y = 0 then (if 0 ≤ (plen v (tn x) (tn y)).1 then (plen v (tn x) (tn y)).1 + tcm (v 271) (tn x) - 2 * v 271 1 - 2 else -1005) else q_pair c x y
def mpM (w : VV) (c a b m q : Nat) : VV := mpp (mpp (u2 (u2 (u2 (muF b c (mnb (w 271) b) m m 0 (mcT (mnw w c) a c 0 (mnb (w 271) a) m)) 271 (10 + 55 * c + 1 + 5 * (m - q)) 1) 271 (10 + 55 * c + 1 + 5 * (m - q) + 2) 7) 271 (10 + 55 * c + 1 + 5 * (m - q) + 3) 0) a (mnb (w 271) a) m q (nI c)) b (mnb (w 271) b) m q (nI c)
def mwR2 (v : VV) (c : Nat) (x y : Int32) : Int32 := if q_pair c x y = 0 then (if 0 ≤ (plen v (tn x) (tn y)).1 then (if c < 12 then nI c else -1004) else -1005) else q_pair c x y
def mwV2 (v : VV) (c : Nat) (x y : Int32) : VV := if q_pair c x y = 0 then (if 0 ≤ (plen v (tn x) (tn y)).1 ∧ c < 12 then mpM (plen v (tn x) (tn y)).2 c (tn x) (tn y) (tn (plen v (tn x) (tn y)).1) (tn ((plen v (tn x) (tn y)).2 270 3)) else (plen v (tn x) (tn y)).2) else v

set_option maxRecDepth 100000 in
set_option maxHeartbeats 4000000 in
theorem b_X4_parameterSaving {E : TE} {G : GG} {v : VV} {c : Nat} {x y : Int32} (hC : Cx E G cX4_parameterSaving RX4 5 wsX4_parameterSaving 4 94) (hR : RtI E G cX4_parameterSaving (fun r v' => r = psR2 v c x y ∧ v' = plS v c x y)) (hM : MW (v 271) c) : Wv E G v 0 [some (.ref (G.1 270)), some (.int x), some (.int y), none, none] [] := by
  have h12 := hM.2.1
  have i_X4 : ∀ w ∈ wsX40, w ∈ wsX4_parameterSaving := by decide +kernel
  have l_7 : lnk E RX4 7 (TX4 0) := hC.fl (by decide +kernel)
  refine r_aload_n hC (q := 1) dX4_parameterSaving_0 rfl rfl ?_
  refine r_iload_n hC (q := 2) dX4_parameterSaving_1 rfl rfl ?_
  refine r_iload_n hC (q := 3) dX4_parameterSaving_2 rfl rfl ?_
  refine r_cVI hC (q := 6) (n := 2) (As := [_, _]) (fun lch => c_X4_wrongPair lch hM) gX4_parameterSaving_X4_wrongPair rfl (by decide +kernel) ⟨by decide, by decide⟩ ob_270 rfl rfl rfl rfl (Nat.le_of_ble_eq_true rfl) dX4_parameterSaving_3 rfl ?_
  rintro _ _ ⟨rfl, rfl⟩
  refine r_istore_n hC (q := 7) (L' := [_, _, _, _, _]) dX4_parameterSaving_6 (Nat.le_of_ble_eq_true rfl) rfl rfl ?_
  refine r_iload_n hC (q := 8) dX4_parameterSaving_7 rfl rfl ?_
  refine r_if_eq hC (q := 11) (t := 13) dX4_parameterSaving_8 (by decide) rfl (fun h8 => ?_) (fun h8 => ?_)
  · obtain ⟨hx1, hy1, hxy⟩ := q_pair0 h8; obtain ⟨ex, bx⟩ := inb_tn (by omega) hx1; obtain ⟨ey, by1⟩ := inb_tn (by omega) hy1; have e271 : (plen v (tn x) (tn y)).2 271 = v 271 := plen_ne (by omega)
    refine r_aload_n hC (q := 14) dX4_parameterSaving_13 rfl rfl ?_
    refine r_iload_n hC (q := 15) dX4_parameterSaving_14 rfl rfl ?_
    refine r_top (y := nI (tn x)) ex ?_
    refine r_iload_n hC (q := 16) dX4_parameterSaving_15 rfl rfl ?_
    refine r_top (y := nI (tn y)) ey ?_
    refine r_cVI hC (q := 19) (n := 2) (As := [_, _]) (fun lch => c_X4_parameterLength lch hM bx by1) gX4_parameterSaving_X4_parameterLength rfl (by decide +kernel) ⟨by decide, by decide⟩ ob_270 rfl rfl rfl rfl (Nat.le_of_ble_eq_true rfl) dX4_parameterSaving_16 rfl ?_
    rintro _ _ ⟨rfl, rfl⟩
    refine r_istore hC (q := 21) (L' := [_, _, _, _, _]) dX4_parameterSaving_19 (Nat.le_of_ble_eq_true rfl) rfl rfl ?_
    refine r_iload hC (q := 23) dX4_parameterSaving_21 rfl rfl ?_
    refine r_if_ge hC (q := 26) (t := 32) dX4_parameterSaving_23 (by decide) rfl (fun h23 => ?_) (fun h23 => ?_)
    · skip
      refine r_iload hC (q := 34) dX4_parameterSaving_32 rfl rfl ?_
      refine r_aload_n hC (q := 35) dX4_parameterSaving_34 rfl rfl ?_
      refine r_iload_n hC (q := 36) dX4_parameterSaving_35 rfl rfl ?_
      refine r_top (y := nI (tn x)) ex ?_
      refine r_cVI hC (q := 39) (n := 1) (As := [_]) (fun lch => c_X4_costOf lch (by omega)) gX4_parameterSaving_X4_costOf rfl (by decide +kernel) ⟨by decide, by decide⟩ ob_270 rfl rfl rfl rfl (Nat.le_of_ble_eq_true rfl) dX4_parameterSaving_36 rfl ?_
      rintro _ _ ⟨rfl, rfl⟩
      refine r_iadd hC (q := 40) dX4_parameterSaving_39 rfl ?_
      refine r_iconst hC (x := 2) (q := 41) dX4_parameterSaving_40 (by decide) rfl ?_
      refine r_aload_n hC (q := 42) dX4_parameterSaving_41 rfl rfl ?_
      refine g_X4 hC 0 i_X4 l_7 (by decide) (q := 45) dX4_parameterSaving_42 rfl rfl ?_
      refine r_iconst hC (x := 1) (q := 46) dX4_parameterSaving_45 (by decide) rfl ?_
      refine r_iaN hC (q := 47) (i := 1) dX4_parameterSaving_46 iA_271 rfl (by omega) rfl ?_
      refine r_imul hC (q := 48) dX4_parameterSaving_47 rfl ?_
      refine r_isub hC (q := 49) dX4_parameterSaving_48 rfl ?_
      refine r_iconst hC (x := 2) (q := 50) dX4_parameterSaving_49 (by decide) rfl ?_
      refine r_isub hC (q := 51) dX4_parameterSaving_50 rfl ?_
      exact hR _ _ _ _ dX4_parameterSaving_51 ⟨by rw [psR2, if_pos h8, if_pos h23, e271], by rw [plS, if_pos h8]⟩
    · skip
      refine r_sipush hC (x := (-1005)) (q := 29) dX4_parameterSaving_26 (by decide) rfl ?_
      refine r_goto hC (t := 51) dX4_parameterSaving_29 (by decide) ?_
      exact hR _ _ _ _ dX4_parameterSaving_51 ⟨by rw [psR2, if_pos h8, if_neg h23], by rw [plS, if_pos h8]⟩
  · skip
    refine r_iload_n hC (q := 12) dX4_parameterSaving_11 rfl rfl ?_
    exact hR _ _ _ _ dX4_parameterSaving_12 ⟨by rw [psR2, if_neg h8], by rw [plS, if_neg h8]⟩
theorem c_X4_parameterSaving (l : Launch) {G : GG} {v : VV} {c : Nat} {x y : Int32} (hM : MW (v 271) c) : MtI l G yX4_parameterSaving wsX4_parameterSaving 4 94 [.ref (G.1 270), .int x, .int y] v (fun r v' => r = psR2 v c x y ∧ v' = plS v c x y) := mt_int (Or.inl rfl) (by decide) rfl (by simp [Value.category]) (Nat.le_of_ble_eq_true rfl) rfl rfl (fun E hC hR => b_X4_parameterSaving hC hR hM)

set_option maxRecDepth 100000 in
set_option maxHeartbeats 4000000 in
theorem b_X4_mergeWithParameter {E : TE} {G : GG} {v : VV} {c : Nat} {x y : Int32} (hC : Cx E G cX4_mergeWithParameter RX4 8 wsX4_mergeWithParameter 5 116) (hR : RtI E G cX4_mergeWithParameter (fun r v' => r = mwR2 v c x y ∧ v' = mwV2 v c x y)) (hM : MW (v 271) c) : Wv E G v 0 [some (.ref (G.1 270)), some (.int x), some (.int y), none, none, none, none, none] [] := by
  have h12 := hM.2.1
  have i_X4 : ∀ w ∈ wsX40, w ∈ wsX4_mergeWithParameter := by decide +kernel
  have l_7 : lnk E RX4 7 (TX4 0) := hC.fl (by decide +kernel)
  have l_88 : lnk E RX4 88 (TX4 3) := hC.fl (by decide +kernel)
  refine r_aload_n hC (q := 1) dX4_mergeWithParameter_0 rfl rfl ?_
  refine r_iload_n hC (q := 2) dX4_mergeWithParameter_1 rfl rfl ?_
  refine r_iload_n hC (q := 3) dX4_mergeWithParameter_2 rfl rfl ?_
  refine r_cVI hC (q := 6) (n := 2) (As := [_, _]) (fun lch => c_X4_wrongPair lch hM) gX4_mergeWithParameter_X4_wrongPair rfl (by decide +kernel) ⟨by decide, by decide⟩ ob_270 rfl rfl rfl rfl (Nat.le_of_ble_eq_true rfl) dX4_mergeWithParameter_3 rfl ?_
  rintro _ _ ⟨rfl, rfl⟩
  refine r_istore_n hC (q := 7) (L' := [_, _, _, _, _, _, _, _]) dX4_mergeWithParameter_6 (Nat.le_of_ble_eq_true rfl) rfl rfl ?_
  refine r_iload_n hC (q := 8) dX4_mergeWithParameter_7 rfl rfl ?_
  refine r_if_eq hC (q := 11) (t := 13) dX4_mergeWithParameter_8 (by decide) rfl (fun h8 => ?_) (fun h8 => ?_)
  · obtain ⟨hx1, hy1, hxy⟩ := q_pair0 h8; obtain ⟨ex, bx⟩ := inb_tn (by omega) hx1; obtain ⟨ey, by1⟩ := inb_tn (by omega) hy1; have e271 : (plen v (tn x) (tn y)).2 271 = v 271 := plen_ne (by omega)
    refine r_aload_n hC (q := 14) dX4_mergeWithParameter_13 rfl rfl ?_
    refine r_iload_n hC (q := 15) dX4_mergeWithParameter_14 rfl rfl ?_
    refine r_top (y := nI (tn x)) ex ?_
    refine r_iload_n hC (q := 16) dX4_mergeWithParameter_15 rfl rfl ?_
    refine r_top (y := nI (tn y)) ey ?_
    refine r_cVI hC (q := 19) (n := 2) (As := [_, _]) (fun lch => c_X4_parameterLength lch hM bx by1) gX4_mergeWithParameter_X4_parameterLength rfl (by decide +kernel) ⟨by decide, by decide⟩ ob_270 rfl rfl rfl rfl (Nat.le_of_ble_eq_true rfl) dX4_mergeWithParameter_16 rfl ?_
    rintro _ _ ⟨rfl, rfl⟩
    refine r_istore hC (q := 21) (L' := [_, _, _, _, _, _, _, _]) dX4_mergeWithParameter_19 (Nat.le_of_ble_eq_true rfl) rfl rfl ?_
    refine r_iload hC (q := 23) dX4_mergeWithParameter_21 rfl rfl ?_
    refine r_if_ge hC (q := 26) (t := 30) dX4_mergeWithParameter_23 (by decide) rfl (fun h23 => ?_) (fun h23 => ?_)
    · obtain ⟨m, q, em, eq, hq1, hqm, hma, hmb⟩ := plen_ok h23; have hna := hM.2.2 _ bx; have hnb := hM.2.2 _ by1; have hab : tn x ≠ tn y := fun e => hxy (by rw [ex, ey, e])
      refine r_aload_n hC (q := 31) dX4_mergeWithParameter_30 rfl rfl ?_
      refine g_X4 hC 0 i_X4 l_7 (by decide) (q := 34) dX4_mergeWithParameter_31 rfl rfl ?_
      refine r_iconst hC (x := 0) (q := 35) dX4_mergeWithParameter_34 (by decide) rfl ?_
      refine r_iaN hC (q := 36) (i := 0) dX4_mergeWithParameter_35 iA_271 rfl (by omega) rfl ?_
      refine r_top (y := nI c) (by rw [e271]; exact hM.1) ?_
      refine r_bipush hC (x := 12) (q := 38) dX4_mergeWithParameter_36 (by decide) rfl ?_
      refine r_icmp_neN hC (q := 41) (t := 45) (b := 12) dX4_mergeWithParameter_38 rfl rfl (by omega) (by omega) (by decide) rfl (fun h38 => ?_) (fun h38 => ?_)
      · skip
        refine r_aload_n hC (q := 46) dX4_mergeWithParameter_45 rfl rfl ?_
        refine g_X4 hC 3 i_X4 l_88 (by decide) (q := 49) dX4_mergeWithParameter_46 rfl rfl ?_
        refine r_top (y := nI q) eq ?_
        refine r_istore hC (q := 51) (L' := [_, _, _, _, _, _, _, _]) dX4_mergeWithParameter_49 (Nat.le_of_ble_eq_true rfl) rfl rfl ?_
        refine r_aload_n hC (q := 52) dX4_mergeWithParameter_51 rfl rfl ?_
        refine r_cVI hC (q := 55) (n := 0) (As := []) (fun lch => c_X4_newBlock lch (by rw [e271]; exact hM.1) (by omega)) gX4_mergeWithParameter_X4_newBlock rfl (by decide +kernel) ⟨by decide, by decide⟩ ob_270 rfl rfl rfl rfl (Nat.le_of_ble_eq_true rfl) dX4_mergeWithParameter_52 rfl ?_
        rintro _ _ ⟨rfl, rfl⟩
        refine r_istore hC (q := 57) (L' := [_, _, _, _, _, _, _, _]) dX4_mergeWithParameter_55 (Nat.le_of_ble_eq_true rfl) rfl rfl ?_
        refine r_aload_n hC (q := 58) dX4_mergeWithParameter_57 rfl rfl ?_
        refine r_iload_n hC (q := 59) dX4_mergeWithParameter_58 rfl rfl ?_
        refine r_top (y := nI (tn x)) ex ?_
        refine r_iload hC (q := 61) dX4_mergeWithParameter_59 rfl rfl ?_
        refine r_iload hC (q := 63) dX4_mergeWithParameter_61 rfl rfl ?_
        refine r_top (y := nI m) em ?_
        refine r_cVV hC (q := 66) (n := 3) (As := [_, _, _]) (fun lch => c_X4_copyTail lch (n := mnb (v 271) (tn x)) (k := 0) (by omega) (by omega) (by omega) (by rw [mnw_at (by omega) (by omega), e271]; exact hna.1) hna.2 hma mnw_cnt (by omega)) gX4_mergeWithParameter_X4_copyTail rfl (by decide +kernel) ⟨by decide, by decide⟩ ob_270 rfl rfl rfl rfl (Nat.le_of_ble_eq_true rfl) dX4_mergeWithParameter_63 rfl ?_
        rintro _ rfl
        refine r_aload_n hC (q := 67) dX4_mergeWithParameter_66 rfl rfl ?_
        refine r_iload_n hC (q := 68) dX4_mergeWithParameter_67 rfl rfl ?_
        refine r_top (y := nI (tn y)) ey ?_
        refine r_iload hC (q := 70) dX4_mergeWithParameter_68 rfl rfl ?_
        refine r_iload hC (q := 72) dX4_mergeWithParameter_70 rfl rfl ?_
        refine r_top (y := nI m) em ?_
        refine r_cVV hC (q := 75) (n := 3) (As := [_, _, _]) (fun lch => c_X4_uniteLines lch (n := mnb (v 271) (tn y)) (by omega) (by omega) (by omega) (by rw [mcT_at (by omega) (by omega), mnw_at (by omega) (by omega), e271]; exact hnb.1) hnb.2 hmb) gX4_mergeWithParameter_X4_uniteLines rfl (by decide +kernel) ⟨by decide, by decide⟩ ob_270 rfl rfl rfl rfl (Nat.le_of_ble_eq_true rfl) dX4_mergeWithParameter_72 rfl ?_
        rintro _ rfl
        refine r_iload hC (q := 77) dX4_mergeWithParameter_75 rfl rfl ?_
        refine r_iload hC (q := 79) dX4_mergeWithParameter_77 rfl rfl ?_
        refine r_top (y := nI m) em ?_
        refine r_iload hC (q := 81) dX4_mergeWithParameter_79 rfl rfl ?_
        refine r_isubN hC (q := 82) dX4_mergeWithParameter_81 rfl rfl (by omega) rfl ?_
        refine r_cSI hC (q := 85) (n := 2) (As := [_, _]) (fun lch => c_X4_at lch ) gX4_mergeWithParameter_X4_at rfl (by decide +kernel) ⟨by decide, by decide⟩ rfl rfl rfl (Nat.le_of_ble_eq_true rfl) dX4_mergeWithParameter_82 rfl ?_
        rintro _ _ ⟨rfl, rfl⟩
        refine r_istore hC (q := 87) (L' := [_, _, _, _, _, _, _, _]) dX4_mergeWithParameter_85 (Nat.le_of_ble_eq_true rfl) rfl rfl ?_
        refine r_aload_n hC (q := 88) dX4_mergeWithParameter_87 rfl rfl ?_
        refine g_X4 hC 0 i_X4 l_7 (by decide) (q := 91) dX4_mergeWithParameter_88 rfl rfl ?_
        refine r_iload hC (q := 93) dX4_mergeWithParameter_91 rfl rfl ?_
        refine r_iconst hC (x := 1) (q := 94) dX4_mergeWithParameter_93 (by decide) rfl ?_
        refine r_isN hC (q := 95) dX4_mergeWithParameter_94 iA_271 rfl (by omega) rfl ?_
        refine r_aload_n hC (q := 96) dX4_mergeWithParameter_95 rfl rfl ?_
        refine g_X4 hC 0 i_X4 l_7 (by decide) (q := 99) dX4_mergeWithParameter_96 rfl rfl ?_
        refine r_iload hC (q := 101) dX4_mergeWithParameter_99 rfl rfl ?_
        refine r_iconst hC (x := 2) (q := 102) dX4_mergeWithParameter_101 (by decide) rfl ?_
        refine r_iaddN hC (q := 103) (b := 2) dX4_mergeWithParameter_102 rfl rfl rfl ?_
        refine r_bipush hC (x := 7) (q := 105) dX4_mergeWithParameter_103 (by decide) rfl ?_
        refine r_isN hC (q := 106) dX4_mergeWithParameter_105 iA_271 rfl (by omega) rfl ?_
        refine r_aload_n hC (q := 107) dX4_mergeWithParameter_106 rfl rfl ?_
        refine g_X4 hC 0 i_X4 l_7 (by decide) (q := 110) dX4_mergeWithParameter_107 rfl rfl ?_
        refine r_iload hC (q := 112) dX4_mergeWithParameter_110 rfl rfl ?_
        refine r_iconst hC (x := 3) (q := 113) dX4_mergeWithParameter_112 (by decide) rfl ?_
        refine r_iaddN hC (q := 114) (b := 3) dX4_mergeWithParameter_113 rfl rfl rfl ?_
        refine r_iconst hC (x := 0) (q := 115) dX4_mergeWithParameter_114 (by decide) rfl ?_
        refine r_isN hC (q := 116) dX4_mergeWithParameter_115 iA_271 rfl (by omega) rfl ?_
        refine r_aload_n hC (q := 117) dX4_mergeWithParameter_116 rfl rfl ?_
        refine r_iload_n hC (q := 118) dX4_mergeWithParameter_117 rfl rfl ?_
        refine r_top (y := nI (tn x)) ex ?_
        refine r_iload hC (q := 120) dX4_mergeWithParameter_118 rfl rfl ?_
        refine r_top (y := nI m) em ?_
        refine r_iload hC (q := 122) dX4_mergeWithParameter_120 rfl rfl ?_
        refine r_iload hC (q := 124) dX4_mergeWithParameter_122 rfl rfl ?_
        refine r_cVV hC (q := 127) (n := 4) (As := [_, _, _, _]) (fun lch => c_X4_passParameter lch (n := mnb (v 271) (tn x)) (by omega) (by rw [vu_at (by omega), vu_at (by omega), vu_at (by omega), muF_at (by omega) _ _ _ (by omega), mcT_at (by omega) (by omega), mnw_at (by omega) (by omega), e271]; exact hna.1) hna.2 hma hqm hq1) gX4_mergeWithParameter_X4_passParameter rfl (by decide +kernel) ⟨by decide, by decide⟩ ob_270 rfl rfl rfl rfl (Nat.le_of_ble_eq_true rfl) dX4_mergeWithParameter_124 rfl ?_
        rintro _ rfl
        refine r_aload_n hC (q := 128) dX4_mergeWithParameter_127 rfl rfl ?_
        refine r_iload_n hC (q := 129) dX4_mergeWithParameter_128 rfl rfl ?_
        refine r_top (y := nI (tn y)) ey ?_
        refine r_iload hC (q := 131) dX4_mergeWithParameter_129 rfl rfl ?_
        refine r_top (y := nI m) em ?_
        refine r_iload hC (q := 133) dX4_mergeWithParameter_131 rfl rfl ?_
        refine r_iload hC (q := 135) dX4_mergeWithParameter_133 rfl rfl ?_
        refine r_cVV hC (q := 138) (n := 4) (As := [_, _, _, _]) (fun lch => c_X4_passParameter lch (n := mnb (v 271) (tn y)) (by omega) (by rw [mpp, map5_at (by omega) (by omega), mcut_at (by omega) (by omega), vu_at (by omega), vu_at (by omega), vu_at (by omega), muF_at (by omega) _ _ _ (by omega), mcT_at (by omega) (by omega), mnw_at (by omega) (by omega), e271]; exact hnb.1) hnb.2 hmb hqm hq1) gX4_mergeWithParameter_X4_passParameter rfl (by decide +kernel) ⟨by decide, by decide⟩ ob_270 rfl rfl rfl rfl (Nat.le_of_ble_eq_true rfl) dX4_mergeWithParameter_135 rfl ?_
        rintro _ rfl
        refine r_iload hC (q := 140) dX4_mergeWithParameter_138 rfl rfl ?_
        exact hR _ _ _ _ dX4_mergeWithParameter_140 ⟨by rw [mwR2, if_pos h8, if_pos h23, if_pos (by omega)], by rw [mwV2, if_pos h8, if_pos ⟨h23, by omega⟩, mpM, em, eq, tn_nI (by omega), tn_nI (by omega), e271]⟩
      · skip
        refine r_sipush hC (x := (-1004)) (q := 44) dX4_mergeWithParameter_41 (by decide) rfl ?_
        exact hR _ _ _ _ dX4_mergeWithParameter_44 ⟨by rw [mwR2, if_pos h8, if_pos h23, if_neg (by omega)], by rw [mwV2, if_pos h8, if_neg (fun e => by omega)]⟩
    · skip
      refine r_sipush hC (x := (-1005)) (q := 29) dX4_mergeWithParameter_26 (by decide) rfl ?_
      exact hR _ _ _ _ dX4_mergeWithParameter_29 ⟨by rw [mwR2, if_pos h8, if_neg h23], by rw [mwV2, if_pos h8, if_neg (fun e => h23 e.1)]⟩
  · skip
    refine r_iload_n hC (q := 12) dX4_mergeWithParameter_11 rfl rfl ?_
    exact hR _ _ _ _ dX4_mergeWithParameter_12 ⟨by rw [mwR2, if_neg h8], by rw [mwV2, if_neg h8]⟩
theorem c_X4_mergeWithParameter (l : Launch) {G : GG} {v : VV} {c : Nat} {x y : Int32} (hM : MW (v 271) c) : MtI l G yX4_mergeWithParameter wsX4_mergeWithParameter 5 116 [.ref (G.1 270), .int x, .int y] v (fun r v' => r = mwR2 v c x y ∧ v' = mwV2 v c x y) := mt_int (Or.inl rfl) (by decide) rfl (by simp [Value.category]) (Nat.le_of_ble_eq_true rfl) rfl rfl (fun E hC hR => b_X4_mergeWithParameter hC hR hM)
