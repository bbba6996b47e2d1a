def plV (v : VV) (x y : Bv) (k dn : Nat) : VV := if eqAb x y k = true then v else u2 v 270 3 (if dn + 1 = 1 then nI k else v 270 3)
def plD (x y : Bv) (k dn : Nat) : Nat := if eqAb x y k = true then dn else dn + 1
def plC (x y : Bv) (k : Nat) (cl : Bool) : Bool := cl && !(us7m x k) && !(us7m y k)
def plF (x y : Bv) : Nat → Nat → Int32 → Nat → Bool → VV → Int32 × VV
  | 0, _, fd, _, _, v => (fd, v)
  | f + 1, k, fd, dn, cl, v => plF x y f (k + 1) (if (plC x y k cl && decide (plD x y k dn = 1) && sctb x y (tn (plV v x y k dn 270 3))) = true then nI k else fd) (plD x y k dn) (plC x y k cl) (plV v x y k dn)
def plQ (v : VV) (k dn : Nat) : Prop := 1 ≤ dn → ∃ q, v 270 3 = nI q ∧ 1 ≤ q ∧ q < k
theorem plV_ne {v : VV} {x y : Bv} {k dn q : Nat} (h : q ≠ 270) : plV v x y k dn q = v q := by
  unfold plV
  split
  · rfl
  · exact u2_ne h

set_option maxRecDepth 100000 in
set_option maxHeartbeats 4000000 in
theorem lC_X4_parameterLength {E : TE} {G : GG} {v : VV} {c a b k dn : Nat} {fd : Int32} {cl : Bool} (hC : Cx E G cX4_parameterLength RX4 7 wsX4_parameterLength 3 68) (hM : MW (v 271) c) (ha : a < c) (hb : b < c) (hk1 : 1 ≤ k) (hka : k ≤ mnb (v 271) a) (hkb : k ≤ mnb (v 271) b) (hdk : dn ≤ k) (hq : dn = 1 → ∃ q, v 270 3 = nI q ∧ 1 ≤ q ∧ q ≤ k) (kk : Wv E G v 155 [some (.ref (G.1 270)), some (.int (nI a)), some (.int (nI b)), some (.int (if (cl && decide (dn = 1) && sctb (mw (v 271) a) (mw (v 271) b) (tn (v 270 3))) = true then nI k else fd)), some (.int (nI dn)), some (.int (bI cl)), some (.int (nI k))] []) : Wv E G v 124 [some (.ref (G.1 270)), some (.int (nI a)), some (.int (nI b)), some (.int fd), some (.int (nI dn)), some (.int (bI cl)), some (.int (nI k))] [] := by
  have h12 := hM.2.1
  have hna := (hM.2.2 a ha).2
  have hnb := (hM.2.2 b hb).2
  have i_X4 : ∀ w ∈ wsX40, w ∈ wsX4_parameterLength := by decide +kernel
  have l_88 : lnk E RX4 88 (TX4 3) := hC.fl (by decide +kernel)
  refine r_iload hC (q := 126) dX4_parameterLength_124 rfl rfl ?_
  refine r_if_eqB hC (q := 129) (t := 153) dX4_parameterLength_126 (by decide) rfl (fun h126 => ?_) (fun h126 => ?_)
  · skip
    refine r_iload_n hC (q := 154) dX4_parameterLength_153 rfl rfl ?_
    refine r_istore_n hC (q := 155) (L' := [_, _, _, _, _, _, _]) dX4_parameterLength_154 (Nat.le_of_ble_eq_true rfl) rfl rfl ?_
    rw [if_neg (by simp [h126])] at kk
    exact kk
  · skip
    refine r_iload hC (q := 131) dX4_parameterLength_129 rfl rfl ?_
    refine r_iconst hC (x := 1) (q := 132) dX4_parameterLength_131 (by decide) rfl ?_
    refine r_icmp_neN hC (q := 135) (t := 153) (b := 1) dX4_parameterLength_132 rfl rfl (by omega) (by omega) (by decide) rfl (fun h132 => ?_) (fun h132 => ?_)
    · skip
      refine r_iload_n hC (q := 154) dX4_parameterLength_153 rfl rfl ?_
      refine r_istore_n hC (q := 155) (L' := [_, _, _, _, _, _, _]) dX4_parameterLength_154 (Nat.le_of_ble_eq_true rfl) rfl rfl ?_
      rw [if_neg (by simp [h126, h132])] at kk
      exact kk
    · obtain ⟨q, e3, hq1, hq2⟩ := hq h132
      refine r_aload_n hC (q := 136) dX4_parameterLength_135 rfl rfl ?_
      refine r_iload_n hC (q := 137) dX4_parameterLength_136 rfl rfl ?_
      refine r_iload_n hC (q := 138) dX4_parameterLength_137 rfl rfl ?_
      refine r_aload_n hC (q := 139) dX4_parameterLength_138 rfl rfl ?_
      refine g_X4 hC 3 i_X4 l_88 (by decide) (q := 142) dX4_parameterLength_139 rfl rfl ?_
      refine r_top (y := nI q) e3 ?_
      refine r_cVI hC (q := 145) (n := 3) (As := [_, _, _]) (fun lch => c_X4_canDiffer lch hM ha hb hq1 (by omega) (by omega)) gX4_parameterLength_X4_canDiffer rfl (by decide +kernel) ⟨by decide, by decide⟩ ob_270 rfl rfl rfl rfl (Nat.le_of_ble_eq_true rfl) dX4_parameterLength_142 rfl ?_
      rintro _ _ ⟨rfl, rfl⟩
      refine r_if_eqB hC (q := 148) (t := 153) dX4_parameterLength_145 (by decide) rfl (fun h145 => ?_) (fun h145 => ?_)
      · skip
        refine r_iload_n hC (q := 154) dX4_parameterLength_153 rfl rfl ?_
        refine r_istore_n hC (q := 155) (L' := [_, _, _, _, _, _, _]) dX4_parameterLength_154 (Nat.le_of_ble_eq_true rfl) rfl rfl ?_
        rw [if_neg (by simp [h126, h132, e3, tn_nI (show q < 2 ^ 31 by omega), h145])] at kk
        exact kk
      · skip
        refine r_iload hC (q := 150) dX4_parameterLength_148 rfl rfl ?_
        refine r_goto hC (t := 154) dX4_parameterLength_150 (by decide) ?_
        refine r_istore_n hC (q := 155) (L' := [_, _, _, _, _, _, _]) dX4_parameterLength_154 (Nat.le_of_ble_eq_true rfl) rfl rfl ?_
        rw [if_pos (by simp [h126, h132, e3, tn_nI (show q < 2 ^ 31 by omega), h145])] at kk
        exact kk

set_option maxRecDepth 100000 in
set_option maxHeartbeats 4000000 in
theorem lB_X4_parameterLength {E : TE} {G : GG} {v : VV} {c a b k dn : Nat} {fd z : Int32} (hC : Cx E G cX4_parameterLength RX4 7 wsX4_parameterLength 3 68) (hM : MW (v 271) c) (ha : a < c) (hb : b < c) (hk1 : 1 ≤ k) (hka : k ≤ mnb (v 271) a) (hkb : k ≤ mnb (v 271) b) (hdk : dn + 1 ≤ k) (kk : Wv E G (plV v (mw (v 271) a) (mw (v 271) b) k dn) 124 [some (.ref (G.1 270)), some (.int (nI a)), some (.int (nI b)), some (.int fd), some (.int (nI (plD (mw (v 271) a) (mw (v 271) b) k dn))), some (.int z), some (.int (nI k))] []) : Wv E G v 91 [some (.ref (G.1 270)), some (.int (nI a)), some (.int (nI b)), some (.int fd), some (.int (nI dn)), some (.int z), some (.int (nI k))] [] := by
  have h12 := hM.2.1
  have hna := (hM.2.2 a ha).2
  have hnb := (hM.2.2 b hb).2
  have i_X4 : ∀ w ∈ wsX40, w ∈ wsX4_parameterLength := by decide +kernel
  have l_88 : lnk E RX4 88 (TX4 3) := hC.fl (by decide +kernel)
  refine r_aload_n hC (q := 92) dX4_parameterLength_91 rfl rfl ?_
  refine r_iload_n hC (q := 93) dX4_parameterLength_92 rfl rfl ?_
  refine r_iload_n hC (q := 94) dX4_parameterLength_93 rfl rfl ?_
  refine r_iload hC (q := 96) dX4_parameterLength_94 rfl rfl ?_
  refine r_cVI hC (q := 99) (n := 3) (As := [_, _, _]) (fun lch => c_X4_sameFromEnd lch hM ha hb hk1 (by omega) (by omega)) gX4_parameterLength_X4_sameFromEnd rfl (by decide +kernel) ⟨by decide, by decide⟩ ob_270 rfl rfl rfl rfl (Nat.le_of_ble_eq_true rfl) dX4_parameterLength_96 rfl ?_
  rintro _ _ ⟨rfl, rfl⟩
  refine r_if_neB hC (q := 102) (t := 124) dX4_parameterLength_99 (by decide) rfl (fun h99 => ?_) (fun h99 => ?_)
  · skip
    rw [plV, plD, if_pos h99, if_pos h99] at kk
    exact kk
  · skip
    refine r_iincN hC (q := 105) (L' := [_, _, _, _, _, _, _]) (c := 1) dX4_parameterLength_102 rfl rfl rfl rfl rfl ?_
    refine r_aload_n hC (q := 106) dX4_parameterLength_105 rfl rfl ?_
    refine r_iload hC (q := 108) dX4_parameterLength_106 rfl rfl ?_
    refine r_iconst hC (x := 1) (q := 109) dX4_parameterLength_108 (by decide) rfl ?_
    refine r_icmp_neN hC (q := 112) (t := 117) (b := 1) dX4_parameterLength_109 rfl rfl (by omega) (by omega) (by decide) rfl (fun h109 => ?_) (fun h109 => ?_)
    · skip
      refine r_aload_n hC (q := 118) dX4_parameterLength_117 rfl rfl ?_
      refine g_X4 hC 3 i_X4 l_88 (by decide) (q := 121) dX4_parameterLength_118 rfl rfl ?_
      refine p_X4_3 hC i_X4 l_88 (q := 124) dX4_parameterLength_121 rfl ?_
      rw [plV, plD, if_neg h99, if_neg h99, if_neg h109] at kk
      exact kk
    · skip
      refine r_iload hC (q := 114) dX4_parameterLength_112 rfl rfl ?_
      refine r_goto hC (t := 121) dX4_parameterLength_114 (by decide) ?_
      refine p_X4_3 hC i_X4 l_88 (q := 124) dX4_parameterLength_121 rfl ?_
      rw [plV, plD, if_neg h99, if_neg h99, if_pos h109] at kk
      exact kk

set_option maxRecDepth 100000 in
set_option maxHeartbeats 4000000 in
theorem lA_X4_parameterLength {E : TE} {G : GG} {v : VV} {c a b k dn : Nat} {fd z : Int32} {cl : Bool} (hC : Cx E G cX4_parameterLength RX4 7 wsX4_parameterLength 3 68) (hM : MW (v 271) c) (ha : a < c) (hb : b < c) (hz : z = bI cl) (hk1 : 1 ≤ k) (hka : k ≤ mnb (v 271) a) (hkb : k ≤ mnb (v 271) b) (kk : Wv E G v 91 [some (.ref (G.1 270)), some (.int (nI a)), some (.int (nI b)), some (.int fd), some (.int (nI dn)), some (.int (bI (plC (mw (v 271) a) (mw (v 271) b) k cl))), some (.int (nI k))] []) : Wv E G v 59 [some (.ref (G.1 270)), some (.int (nI a)), some (.int (nI b)), some (.int fd), some (.int (nI dn)), some (.int z), some (.int (nI k))] [] := by
  have h12 := hM.2.1
  have hna := (hM.2.2 a ha).2
  have hnb := (hM.2.2 b hb).2
  subst hz
  refine r_iload hC (q := 61) dX4_parameterLength_59 rfl rfl ?_
  refine r_if_eqB hC (q := 64) (t := 88) dX4_parameterLength_61 (by decide) rfl (fun h61 => ?_) (fun h61 => ?_)
  · skip
    refine r_iconst hC (x := 0) (q := 89) dX4_parameterLength_88 (by decide) rfl ?_
    refine r_istore hC (q := 91) (L' := [_, _, _, _, _, _, _]) dX4_parameterLength_89 (Nat.le_of_ble_eq_true rfl) rfl rfl ?_
    rw [show bI (plC (mw (v 271) a) (mw (v 271) b) k cl) = 0 from (by simp [plC, h61])] at kk
    exact kk
  · skip
    refine r_aload_n hC (q := 65) dX4_parameterLength_64 rfl rfl ?_
    refine r_iload_n hC (q := 66) dX4_parameterLength_65 rfl rfl ?_
    refine r_iload hC (q := 68) dX4_parameterLength_66 rfl rfl ?_
    refine r_cVI hC (q := 71) (n := 2) (As := [_, _]) (fun lch => c_X4_uses7 lch hM ha hk1 hka) gX4_parameterLength_X4_uses7 rfl (by decide +kernel) ⟨by decide, by decide⟩ ob_270 rfl rfl rfl rfl (Nat.le_of_ble_eq_true rfl) dX4_parameterLength_68 rfl ?_
    rintro _ _ ⟨rfl, rfl⟩
    refine r_if_neB hC (q := 74) (t := 88) dX4_parameterLength_71 (by decide) rfl (fun h71 => ?_) (fun h71 => ?_)
    · skip
      refine r_iconst hC (x := 0) (q := 89) dX4_parameterLength_88 (by decide) rfl ?_
      refine r_istore hC (q := 91) (L' := [_, _, _, _, _, _, _]) dX4_parameterLength_89 (Nat.le_of_ble_eq_true rfl) rfl rfl ?_
      rw [show bI (plC (mw (v 271) a) (mw (v 271) b) k cl) = 0 from (by simp [plC, h61, h71])] at kk
      exact kk
    · skip
      refine r_aload_n hC (q := 75) dX4_parameterLength_74 rfl rfl ?_
      refine r_iload_n hC (q := 76) dX4_parameterLength_75 rfl rfl ?_
      refine r_iload hC (q := 78) dX4_parameterLength_76 rfl rfl ?_
      refine r_cVI hC (q := 81) (n := 2) (As := [_, _]) (fun lch => c_X4_uses7 lch hM hb hk1 hkb) gX4_parameterLength_X4_uses7 rfl (by decide +kernel) ⟨by decide, by decide⟩ ob_270 rfl rfl rfl rfl (Nat.le_of_ble_eq_true rfl) dX4_parameterLength_78 rfl ?_
      rintro _ _ ⟨rfl, rfl⟩
      refine r_if_neB hC (q := 84) (t := 88) dX4_parameterLength_81 (by decide) rfl (fun h81 => ?_) (fun h81 => ?_)
      · skip
        refine r_iconst hC (x := 0) (q := 89) dX4_parameterLength_88 (by decide) rfl ?_
        refine r_istore hC (q := 91) (L' := [_, _, _, _, _, _, _]) dX4_parameterLength_89 (Nat.le_of_ble_eq_true rfl) rfl rfl ?_
        rw [show bI (plC (mw (v 271) a) (mw (v 271) b) k cl) = 0 from (by simp [plC, h61, h71, h81])] at kk
        exact kk
      · skip
        refine r_iconst hC (x := 1) (q := 85) dX4_parameterLength_84 (by decide) rfl ?_
        refine r_goto hC (t := 89) dX4_parameterLength_85 (by decide) ?_
        refine r_istore hC (q := 91) (L' := [_, _, _, _, _, _, _]) dX4_parameterLength_89 (Nat.le_of_ble_eq_true rfl) rfl rfl ?_
        rw [show bI (plC (mw (v 271) a) (mw (v 271) b) k cl) = 1 from (by simp [plC, h61, h71, h81])] at kk
        exact kk

set_option maxRecDepth 100000 in
set_option maxHeartbeats 4000000 in
theorem lp_X4_parameterLength {E : TE} {G : GG} {x y : Bv} {c a b : Nat} {post : Int32 → VV → Prop} (hC : Cx E G cX4_parameterLength RX4 7 wsX4_parameterLength 3 68) (hR : RtI E G cX4_parameterLength post) (ha : a < c) (hb : b < c) : ∀ (f k dn : Nat) (fd z : Int32) (cl : Bool) (v : VV), MW (v 271) c → mw (v 271) a = x → mw (v 271) b = y → z = bI cl → k + f = min x.1 y.1 + 1 → 1 ≤ k → dn < k → plQ v k dn → post (plF x y f k fd dn cl v).1 (plF x y f k fd dn cl v).2 → Wv E G v 39 [some (.ref (G.1 270)), some (.int (nI a)), some (.int (nI b)), some (.int fd), some (.int (nI dn)), some (.int z), some (.int (nI k))] [] := by
  intro f
  induction f with
  | zero =>
    intro k dn fd z cl v hM hx hy hz hkf hk1 hdk hq hpost
    have h12 := hM.2.1
    have hna := (hM.2.2 a ha).2
    have hnb := (hM.2.2 b hb).2
    have ex : x.1 = mnb (v 271) a := by rw [← hx]; rfl
    have ey : y.1 = mnb (v 271) b := by rw [← hy]; rfl
    refine r_iload hC (q := 41) dX4_parameterLength_39 rfl rfl ?_
    refine r_aload_n hC (q := 42) dX4_parameterLength_41 rfl rfl ?_
    refine r_iload_n hC (q := 43) dX4_parameterLength_42 rfl rfl ?_
    refine r_cVI hC (q := 46) (n := 1) (As := [_]) (fun lch => c_X4_many lch (by omega)) gX4_parameterLength_X4_many rfl (by decide +kernel) ⟨by decide, by decide⟩ ob_270 rfl rfl rfl rfl (Nat.le_of_ble_eq_true rfl) dX4_parameterLength_43 rfl ?_
    rintro _ _ ⟨rfl, rfl⟩
    refine r_top (y := nI (mnb (v 271) a)) (hM.2.2 a (by omega)).1 ?_
    refine r_icmp_gtN hC (q := 49) (t := 161) dX4_parameterLength_46 rfl rfl (by omega) (by omega) (by decide) rfl (fun h46 => ?_) (fun h46 => ?_)
    · skip
      refine r_iload_n hC (q := 162) dX4_parameterLength_161 rfl rfl ?_
      exact hR _ _ _ _ dX4_parameterLength_162 hpost
    · skip
      refine r_iload hC (q := 51) dX4_parameterLength_49 rfl rfl ?_
      refine r_aload_n hC (q := 52) dX4_parameterLength_51 rfl rfl ?_
      refine r_iload_n hC (q := 53) dX4_parameterLength_52 rfl rfl ?_
      refine r_cVI hC (q := 56) (n := 1) (As := [_]) (fun lch => c_X4_many lch (by omega)) gX4_parameterLength_X4_many rfl (by decide +kernel) ⟨by decide, by decide⟩ ob_270 rfl rfl rfl rfl (Nat.le_of_ble_eq_true rfl) dX4_parameterLength_53 rfl ?_
      rintro _ _ ⟨rfl, rfl⟩
      refine r_top (y := nI (mnb (v 271) b)) (hM.2.2 b (by omega)).1 ?_
      refine r_icmp_gtN hC (q := 59) (t := 161) dX4_parameterLength_56 rfl rfl (by omega) (by omega) (by decide) rfl (fun h56 => ?_) (fun h56 => ?_)
      · skip
        refine r_iload_n hC (q := 162) dX4_parameterLength_161 rfl rfl ?_
        exact hR _ _ _ _ dX4_parameterLength_162 hpost
      · skip
        omega
  | succ f ih =>
    intro k dn fd z cl v hM hx hy hz hkf hk1 hdk hq hpost
    have h12 := hM.2.1
    have hna := (hM.2.2 a ha).2
    have hnb := (hM.2.2 b hb).2
    have ex : x.1 = mnb (v 271) a := by rw [← hx]; rfl
    have ey : y.1 = mnb (v 271) b := by rw [← hy]; rfl
    have e271 : plV v x y k dn 271 = v 271 := plV_ne (by omega)
    have hq2 : plQ (plV v x y k dn) (k + 1) (plD x y k dn) := by
      unfold plQ plD plV
      by_cases he : eqAb x y k = true
      · rw [if_pos he, if_pos he]
        intro h
        obtain ⟨q, g1, g2, g3⟩ := hq h
        exact ⟨q, g1, g2, by omega⟩
      · rw [if_neg he, if_neg he]
        intro _
        by_cases hd : dn + 1 = 1
        · rw [if_pos hd]
          exact ⟨k, u2_same, hk1, Nat.lt_succ_self k⟩
        · rw [if_neg hd]
          obtain ⟨q, g1, g2, g3⟩ := hq (by omega)
          exact ⟨q, by rw [u2_same]; exact g1, g2, by omega⟩
    have hdd : plD x y k dn ≤ dn + 1 := by unfold plD; split <;> omega
    refine r_iload hC (q := 41) dX4_parameterLength_39 rfl rfl ?_
    refine r_aload_n hC (q := 42) dX4_parameterLength_41 rfl rfl ?_
    refine r_iload_n hC (q := 43) dX4_parameterLength_42 rfl rfl ?_
    refine r_cVI hC (q := 46) (n := 1) (As := [_]) (fun lch => c_X4_many lch (by omega)) gX4_parameterLength_X4_many rfl (by decide +kernel) ⟨by decide, by decide⟩ ob_270 rfl rfl rfl rfl (Nat.le_of_ble_eq_true rfl) dX4_parameterLength_43 rfl ?_
    rintro _ _ ⟨rfl, rfl⟩
    refine r_top (y := nI (mnb (v 271) a)) (hM.2.2 a (by omega)).1 ?_
    refine r_icmp_gtN hC (q := 49) (t := 161) dX4_parameterLength_46 rfl rfl (by omega) (by omega) (by decide) rfl (fun h46 => ?_) (fun h46 => ?_)
    · skip
      omega
    · skip
      refine r_iload hC (q := 51) dX4_parameterLength_49 rfl rfl ?_
      refine r_aload_n hC (q := 52) dX4_parameterLength_51 rfl rfl ?_
      refine r_iload_n hC (q := 53) dX4_parameterLength_52 rfl rfl ?_
      refine r_cVI hC (q := 56) (n := 1) (As := [_]) (fun lch => c_X4_many lch (by omega)) gX4_parameterLength_X4_many rfl (by decide +kernel) ⟨by decide, by decide⟩ ob_270 rfl rfl rfl rfl (Nat.le_of_ble_eq_true rfl) dX4_parameterLength_53 rfl ?_
      rintro _ _ ⟨rfl, rfl⟩
      refine r_top (y := nI (mnb (v 271) b)) (hM.2.2 b (by omega)).1 ?_
      refine r_icmp_gtN hC (q := 59) (t := 161) dX4_parameterLength_56 rfl rfl (by omega) (by omega) (by decide) rfl (fun h56 => ?_) (fun h56 => ?_)
      · skip
        omega
      · skip
        refine lA_X4_parameterLength hC hM ha hb hz hk1 (by omega) (by omega) ?_
        refine lB_X4_parameterLength hC hM ha hb hk1 (by omega) (by omega) (by omega) ?_
        rw [hx, hy]
        refine lC_X4_parameterLength hC (by rw [e271]; exact hM) ha hb hk1 (by rw [e271]; omega) (by rw [e271]; omega) (by omega) (fun h => by obtain ⟨q, g1, g2, g3⟩ := hq2 (by omega); exact ⟨q, g1, g2, by omega⟩) ?_
        rw [e271, hx, hy]
        refine r_iincN hC (q := 158) (L' := [_, _, _, _, _, _, _]) (c := 1) dX4_parameterLength_155 rfl rfl rfl rfl rfl ?_
        refine r_goto hC (t := 39) dX4_parameterLength_158 (by decide) ?_
        exact ih (k + 1) _ _ _ _ _ (by rw [e271]; exact hM) (by rw [e271]; exact hx) (by rw [e271]; exact hy) rfl (by omega) (by omega) (by omega) hq2 hpost

def plen (v : VV) (a b : Nat) : Int32 × VV := if eqTb (mw (v 271) a) (mw (v 271) b) = true ∧ (mw (v 271) a).2.2 0 = 2 then plF (mw (v 271) a) (mw (v 271) b) (min (mnb (v 271) a) (mnb (v 271) b)) 1 (-1005) 0 true v else (-1005, v)

set_option maxRecDepth 100000 in
set_option maxHeartbeats 4000000 in
theorem b_X4_parameterLength {E : TE} {G : GG} {v : VV} {c : Nat} {a b : Nat} (hC : Cx E G cX4_parameterLength RX4 7 wsX4_parameterLength 3 68) (hR : RtI E G cX4_parameterLength (fun r v' => r = (plen v a b).1 ∧ v' = (plen v a b).2)) (hM : MW (v 271) c) (ha : a < c) (hb : b < c) : Wv E G v 0 [some (.ref (G.1 270)), some (.int (nI a)), some (.int (nI b)), none, none, none, none] [] := by
  have h12 := hM.2.1
  have i_X4 : ∀ w ∈ wsX40, w ∈ wsX4_parameterLength := by decide +kernel
  have l_7 : lnk E RX4 7 (TX4 0) := hC.fl (by decide +kernel)
  refine r_aload_n hC (q := 1) dX4_parameterLength_0 rfl rfl ?_
  refine r_iload_n hC (q := 2) dX4_parameterLength_1 rfl rfl ?_
  refine r_iload_n hC (q := 3) dX4_parameterLength_2 rfl rfl ?_
  refine r_cVI hC (q := 6) (n := 2) (As := [_, _]) (fun lch => c_X4_sameEnds lch (by omega) (by omega)) gX4_parameterLength_X4_sameEnds rfl (by decide +kernel) ⟨by decide, by decide⟩ ob_270 rfl rfl rfl rfl (Nat.le_of_ble_eq_true rfl) dX4_parameterLength_3 rfl ?_
  rintro _ _ ⟨rfl, rfl⟩
  refine r_if_eqB hC (q := 9) (t := 22) dX4_parameterLength_6 (by decide) rfl (fun h6 => ?_) (fun h6 => ?_)
  · skip
    refine r_sipush hC (x := (-1005)) (q := 25) dX4_parameterLength_22 (by decide) rfl ?_
    exact hR _ _ _ _ dX4_parameterLength_25 ⟨by rw [plen, if_neg (fun e => h6 e.1)], by rw [plen, if_neg (fun e => h6 e.1)]⟩
  · skip
    refine r_aload_n hC (q := 10) dX4_parameterLength_9 rfl rfl ?_
    refine g_X4 hC 0 i_X4 l_7 (by decide) (q := 13) dX4_parameterLength_10 rfl rfl ?_
    refine r_iload_n hC (q := 14) dX4_parameterLength_13 rfl rfl ?_
    refine r_cSI hC (q := 17) (n := 1) (As := [_]) (fun lch => c_X4_end lch ) gX4_parameterLength_X4_end rfl (by decide +kernel) ⟨by decide, by decide⟩ rfl rfl rfl (Nat.le_of_ble_eq_true rfl) dX4_parameterLength_14 rfl ?_
    rintro _ _ ⟨rfl, rfl⟩
    refine r_iaN hC (q := 18) dX4_parameterLength_17 iA_271 rfl (by omega) rfl ?_
    refine r_iconst hC (x := 2) (q := 19) dX4_parameterLength_18 (by decide) rfl ?_
    refine r_icmp_eq hC (q := 22) (t := 26) dX4_parameterLength_19 (by decide) rfl (fun h19 => ?_) (fun h19 => ?_)
    · skip
      refine r_sipush hC (x := (-1005)) (q := 29) dX4_parameterLength_26 (by decide) rfl ?_
      refine r_istore_n hC (q := 30) (L' := [_, _, _, _, _, _, _]) dX4_parameterLength_29 (Nat.le_of_ble_eq_true rfl) rfl rfl ?_
      refine r_iconst hC (x := 0) (q := 31) dX4_parameterLength_30 (by decide) rfl ?_
      refine r_istore hC (q := 33) (L' := [_, _, _, _, _, _, _]) dX4_parameterLength_31 (Nat.le_of_ble_eq_true rfl) rfl rfl ?_
      refine r_iconst hC (x := 1) (q := 34) dX4_parameterLength_33 (by decide) rfl ?_
      refine r_istore hC (q := 36) (L' := [_, _, _, _, _, _, _]) dX4_parameterLength_34 (Nat.le_of_ble_eq_true rfl) rfl rfl ?_
      refine r_iconst hC (x := 1) (q := 37) dX4_parameterLength_36 (by decide) rfl ?_
      refine r_istore hC (q := 39) (L' := [_, _, _, _, _, _, _]) dX4_parameterLength_37 (Nat.le_of_ble_eq_true rfl) rfl rfl ?_
      exact lp_X4_parameterLength (x := mw (v 271) a) (y := mw (v 271) b) hC hR ha hb _ 1 0 (-1005) 1 true v hM rfl rfl rfl (Nat.add_comm _ _) (by omega) (by omega) (fun h => by omega) (by rw [plen, if_pos ⟨h6, h19⟩]; exact ⟨rfl, rfl⟩)
    · skip
      refine r_sipush hC (x := (-1005)) (q := 25) dX4_parameterLength_22 (by decide) rfl ?_
      exact hR _ _ _ _ dX4_parameterLength_25 ⟨by rw [plen, if_neg (fun e => h19 e.2)], by rw [plen, if_neg (fun e => h19 e.2)]⟩
theorem c_X4_parameterLength (l : Launch) {G : GG} {v : VV} {c : Nat} {a b : Nat} (hM : MW (v 271) c) (ha : a < c) (hb : b < c) : MtI l G yX4_parameterLength wsX4_parameterLength 3 68 [.ref (G.1 270), .int (nI a), .int (nI b)] v (fun r v' => r = (plen v a b).1 ∧ v' = (plen v a b).2) := mt_int (Or.inl rfl) (by decide) rfl (by simp [Value.category]) (Nat.le_of_ble_eq_true rfl) rfl rfl (fun E hC hR => b_X4_parameterLength hC hR hM ha hb)

def plR (v : VV) (c : Nat) (x y : Int32) : Int32 := if q_pair c x y = 0 then (plen v (tn x) (tn y)).1 else q_pair c x y
def plS (v : VV) (c : Nat) (x y : Int32) : VV := if q_pair c x y = 0 then (plen v (tn x) (tn y)).2 else v

set_option maxRecDepth 100000 in
set_option maxHeartbeats 4000000 in
theorem b_X4_parameterTail {E : TE} {G : GG} {v : VV} {c : Nat} {x y : Int32} (hC : Cx E G cX4_parameterTail RX4 4 wsX4_parameterTail 4 94) (hR : RtI E G cX4_parameterTail (fun r v' => r = plR v c x y ∧ v' = plS v c x y)) (hM : MW (v 271) c) : Wv E G v 0 [some (.ref (G.1 270)), some (.int x), some (.int y), none] [] := by
  have h12 := hM.2.1
  refine r_aload_n hC (q := 1) dX4_parameterTail_0 rfl rfl ?_
  refine r_iload_n hC (q := 2) dX4_parameterTail_1 rfl rfl ?_
  refine r_iload_n hC (q := 3) dX4_parameterTail_2 rfl rfl ?_
  refine r_cVI hC (q := 6) (n := 2) (As := [_, _]) (fun lch => c_X4_wrongPair lch hM) gX4_parameterTail_X4_wrongPair rfl (by decide +kernel) ⟨by decide, by decide⟩ ob_270 rfl rfl rfl rfl (Nat.le_of_ble_eq_true rfl) dX4_parameterTail_3 rfl ?_
  rintro _ _ ⟨rfl, rfl⟩
  refine r_istore_n hC (q := 7) (L' := [_, _, _, _]) dX4_parameterTail_6 (Nat.le_of_ble_eq_true rfl) rfl rfl ?_
  refine r_iload_n hC (q := 8) dX4_parameterTail_7 rfl rfl ?_
  refine r_if_eq hC (q := 11) (t := 15) dX4_parameterTail_8 (by decide) rfl (fun h8 => ?_) (fun h8 => ?_)
  · obtain ⟨hx1, hy1, hxy⟩ := q_pair0 h8; obtain ⟨ex, bx⟩ := inb_tn (by omega) hx1; obtain ⟨ey, by1⟩ := inb_tn (by omega) hy1
    refine r_aload_n hC (q := 16) dX4_parameterTail_15 rfl rfl ?_
    refine r_iload_n hC (q := 17) dX4_parameterTail_16 rfl rfl ?_
    refine r_top (y := nI (tn x)) ex ?_
    refine r_iload_n hC (q := 18) dX4_parameterTail_17 rfl rfl ?_
    refine r_top (y := nI (tn y)) ey ?_
    refine r_cVI hC (q := 21) (n := 2) (As := [_, _]) (fun lch => c_X4_parameterLength lch hM bx by1) gX4_parameterTail_X4_parameterLength rfl (by decide +kernel) ⟨by decide, by decide⟩ ob_270 rfl rfl rfl rfl (Nat.le_of_ble_eq_true rfl) dX4_parameterTail_18 rfl ?_
    rintro _ _ ⟨rfl, rfl⟩
    exact hR _ _ _ _ dX4_parameterTail_21 ⟨by rw [plR, if_pos h8], by rw [plS, if_pos h8]⟩
  · skip
    refine r_iload_n hC (q := 12) dX4_parameterTail_11 rfl rfl ?_
    refine r_goto hC (t := 21) dX4_parameterTail_12 (by decide) ?_
    exact hR _ _ _ _ dX4_parameterTail_21 ⟨by rw [plR, if_neg h8], by rw [plS, if_neg h8]⟩
theorem c_X4_parameterTail (l : Launch) {G : GG} {v : VV} {c : Nat} {x y : Int32} (hM : MW (v 271) c) : MtI l G yX4_parameterTail wsX4_parameterTail 4 94 [.ref (G.1 270), .int x, .int y] v (fun r v' => r = plR v c x y ∧ v' = plS v c x y) := mt_int (Or.inl rfl) (by decide) rfl (by simp [Value.category]) (Nat.le_of_ble_eq_true rfl) rfl rfl (fun E hC hR => b_X4_parameterTail hC hR hM)

theorem inR_5 {x : Int32} : inR x 0 5 = inb x 6 := inR_of (c := 6) rfl (by omega)
def tcm (g : Nat → Int32) (b : Nat) : Int32 := if g (10 + 55 * b + 51) = 2 then 1 else if g (10 + 55 * b + 51) = 1 then 2 else g 1

set_option maxRecDepth 100000 in
set_option maxHeartbeats 4000000 in
theorem b_X4_setJumpCost {E : TE} {G : GG} {v : VV} {x : Int32} (hC : Cx E G cX4_setJumpCost RX4 3 wsX4_setJumpCost 1 22) (hR : RtI E G cX4_setJumpCost (fun r v' => r = (if inb x 6 = true then v 271 1 else -1003) ∧ v' = (if inb x 6 = true then u2 v 271 1 x else v)))  : Wv E G v 0 [some (.ref (G.1 270)), some (.int x), none] [] := by
  have i_X4 : ∀ w ∈ wsX40, w ∈ wsX4_setJumpCost := by decide +kernel
  have l_7 : lnk E RX4 7 (TX4 0) := hC.fl (by decide +kernel)
  refine r_iload_n hC (q := 1) dX4_setJumpCost_0 rfl rfl ?_
  refine r_iconst hC (x := 0) (q := 2) dX4_setJumpCost_1 (by decide) rfl ?_
  refine r_iconst hC (x := 5) (q := 3) dX4_setJumpCost_2 (by decide) rfl ?_
  refine r_cSI hC (q := 6) (n := 3) (As := [_, _, _]) (fun lch => c_X4_in lch ) gX4_setJumpCost_X4_in rfl (by decide +kernel) ⟨by decide, by decide⟩ rfl rfl rfl (Nat.le_of_ble_eq_true rfl) dX4_setJumpCost_3 rfl ?_
  rintro _ _ ⟨rfl, rfl⟩
  refine r_if_neB hC (q := 9) (t := 13) dX4_setJumpCost_6 (by decide) rfl (fun h6 => ?_) (fun h6 => ?_)
  · rw [inR_5] at h6
    refine r_aload_n hC (q := 14) dX4_setJumpCost_13 rfl rfl ?_
    refine g_X4 hC 0 i_X4 l_7 (by decide) (q := 17) dX4_setJumpCost_14 rfl rfl ?_
    refine r_iconst hC (x := 1) (q := 18) dX4_setJumpCost_17 (by decide) rfl ?_
    refine r_iaN hC (q := 19) (i := 1) dX4_setJumpCost_18 iA_271 rfl (by omega) rfl ?_
    refine r_istore_n hC (q := 20) (L' := [_, _, _]) dX4_setJumpCost_19 (Nat.le_of_ble_eq_true rfl) rfl rfl ?_
    refine r_aload_n hC (q := 21) dX4_setJumpCost_20 rfl rfl ?_
    refine g_X4 hC 0 i_X4 l_7 (by decide) (q := 24) dX4_setJumpCost_21 rfl rfl ?_
    refine r_iconst hC (x := 1) (q := 25) dX4_setJumpCost_24 (by decide) rfl ?_
    refine r_iload_n hC (q := 26) dX4_setJumpCost_25 rfl rfl ?_
    refine r_isN hC (q := 27) (i := 1) dX4_setJumpCost_26 iA_271 rfl (by omega) rfl ?_
    refine r_iload_n hC (q := 28) dX4_setJumpCost_27 rfl rfl ?_
    exact hR _ _ _ _ dX4_setJumpCost_28 ⟨by rw [if_pos h6], by rw [if_pos h6]⟩
  · rw [inR_5] at h6
    refine r_sipush hC (x := (-1003)) (q := 12) dX4_setJumpCost_9 (by decide) rfl ?_
    exact hR _ _ _ _ dX4_setJumpCost_12 ⟨by rw [if_neg h6], by rw [if_neg h6]⟩
theorem c_X4_setJumpCost (l : Launch) {G : GG} {v : VV} {x : Int32}  : MtI l G yX4_setJumpCost wsX4_setJumpCost 1 22 [.ref (G.1 270), .int x] v (fun r v' => r = (if inb x 6 = true then v 271 1 else -1003) ∧ v' = (if inb x 6 = true then u2 v 271 1 x else v)) := mt_int (Or.inl rfl) (by decide) rfl (by simp [Value.category]) (Nat.le_of_ble_eq_true rfl) rfl rfl (fun E hC hR => b_X4_setJumpCost hC hR )

set_option maxRecDepth 100000 in
set_option maxHeartbeats 4000000 in
theorem b_X4_costOf {E : TE} {G : GG} {v : VV} {b : Nat} (hC : Cx E G cX4_costOf RX4 3 wsX4_costOf 2 40) (hR : RtI E G cX4_costOf (fun r v' => r = tcm (v 271) b ∧ v = v')) (hb : b < 12) : Wv E G v 0 [some (.ref (G.1 270)), some (.int (nI b)), none] [] := by
  have i_X4 : ∀ w ∈ wsX40, w ∈ wsX4_costOf := by decide +kernel
  have l_7 : lnk E RX4 7 (TX4 0) := hC.fl (by decide +kernel)
  refine r_aload_n hC (q := 1) dX4_costOf_0 rfl rfl ?_
  refine g_X4 hC 0 i_X4 l_7 (by decide) (q := 4) dX4_costOf_1 rfl rfl ?_
  refine r_iload_n hC (q := 5) dX4_costOf_4 rfl rfl ?_
  refine r_cSI hC (q := 8) (n := 1) (As := [_]) (fun lch => c_X4_end lch ) gX4_costOf_X4_end rfl (by decide +kernel) ⟨by decide, by decide⟩ rfl rfl rfl (Nat.le_of_ble_eq_true rfl) dX4_costOf_5 rfl ?_
  rintro _ _ ⟨rfl, rfl⟩
  refine r_iaN hC (q := 9) dX4_costOf_8 iA_271 rfl (by omega) rfl ?_
  refine r_istore_n hC (q := 10) (L' := [_, _, _]) dX4_costOf_9 (Nat.le_of_ble_eq_true rfl) rfl rfl ?_
  refine r_iload_n hC (q := 11) dX4_costOf_10 rfl rfl ?_
  refine r_iconst hC (x := 2) (q := 12) dX4_costOf_11 (by decide) rfl ?_
  refine r_icmp_ne hC (q := 15) (t := 19) dX4_costOf_12 (by decide) rfl (fun h12 => ?_) (fun h12 => ?_)
  · skip
    refine r_iload_n hC (q := 20) dX4_costOf_19 rfl rfl ?_
    refine r_iconst hC (x := 1) (q := 21) dX4_costOf_20 (by decide) rfl ?_
    refine r_icmp_ne hC (q := 24) (t := 28) dX4_costOf_21 (by decide) rfl (fun h21 => ?_) (fun h21 => ?_)
    · skip
      refine r_aload_n hC (q := 29) dX4_costOf_28 rfl rfl ?_
      refine g_X4 hC 0 i_X4 l_7 (by decide) (q := 32) dX4_costOf_29 rfl rfl ?_
      refine r_iconst hC (x := 1) (q := 33) dX4_costOf_32 (by decide) rfl ?_
      refine r_iaN hC (q := 34) (i := 1) dX4_costOf_33 iA_271 rfl (by omega) rfl ?_
      exact hR _ _ _ _ dX4_costOf_34 ⟨by rw [tcm, if_neg h12, if_neg h21], rfl⟩
    · skip
      refine r_iconst hC (x := 2) (q := 25) dX4_costOf_24 (by decide) rfl ?_
      refine r_goto hC (t := 34) dX4_costOf_25 (by decide) ?_
      exact hR _ _ _ _ dX4_costOf_34 ⟨by rw [tcm, if_neg h12, if_pos h21], rfl⟩
  · skip
    refine r_iconst hC (x := 1) (q := 16) dX4_costOf_15 (by decide) rfl ?_
    refine r_goto hC (t := 34) dX4_costOf_16 (by decide) ?_
    exact hR _ _ _ _ dX4_costOf_34 ⟨by rw [tcm, if_pos h12], rfl⟩
theorem c_X4_costOf (l : Launch) {G : GG} {v : VV} {b : Nat} (hb : b < 12) : MtI l G yX4_costOf wsX4_costOf 2 40 [.ref (G.1 270), .int (nI b)] v (fun r v' => r = tcm (v 271) b ∧ v = v') := mt_int (Or.inl rfl) (by decide) rfl (by simp [Value.category]) (Nat.le_of_ble_eq_true rfl) rfl rfl (fun E hC hR => b_X4_costOf hC hR hb)

def szm (g : Nat → Int32) : Nat → Nat → Int32 → Int32
  | 0, _, s => s
  | f + 1, b, s => szm g f (b + 1) (s + (g (10 + 55 * b) + tcm g b))

set_option maxRecDepth 100000 in
set_option maxHeartbeats 4000000 in
theorem lp_X4_codeSize {E : TE} {G : GG} {v : VV} {c : Nat} {post : Int32 → VV → Prop} (hC : Cx E G cX4_codeSize RX4 3 wsX4_codeSize 3 62) (hR : RtI E G cX4_codeSize post) (h0 : v 271 0 = nI c) (h12 : c ≤ 12) : ∀ (f b : Nat) (s : Int32), b + f = c → post (szm (v 271) f b s) v → Wv E G v 4 [some (.ref (G.1 270)), some (.int s), some (.int (nI b))] [] := by
  intro f
  induction f with
  | zero =>
    intro b s hbf hpost
    have i_X4 : ∀ w ∈ wsX40, w ∈ wsX4_codeSize := by decide +kernel
    have l_7 : lnk E RX4 7 (TX4 0) := hC.fl (by decide +kernel)
    refine r_iload_n hC (q := 5) dX4_codeSize_4 rfl rfl ?_
    refine r_aload_n hC (q := 6) dX4_codeSize_5 rfl rfl ?_
    refine g_X4 hC 0 i_X4 l_7 (by decide) (q := 9) dX4_codeSize_6 rfl rfl ?_
    refine r_iconst hC (x := 0) (q := 10) dX4_codeSize_9 (by decide) rfl ?_
    refine r_iaN hC (q := 11) (i := 0) dX4_codeSize_10 iA_271 rfl (by omega) rfl ?_
    refine r_top (y := nI c) h0 ?_
    refine r_icmp_geN hC (q := 14) (t := 34) dX4_codeSize_11 rfl rfl (by omega) (by omega) (by decide) rfl (fun h11 => ?_) (fun h11 => ?_)
    · skip
      refine r_iload_n hC (q := 35) dX4_codeSize_34 rfl rfl ?_
      exact hR _ _ _ _ dX4_codeSize_35 hpost
    · skip
      omega
  | succ f ih =>
    intro b s hbf hpost
    have i_X4 : ∀ w ∈ wsX40, w ∈ wsX4_codeSize := by decide +kernel
    have l_7 : lnk E RX4 7 (TX4 0) := hC.fl (by decide +kernel)
    refine r_iload_n hC (q := 5) dX4_codeSize_4 rfl rfl ?_
    refine r_aload_n hC (q := 6) dX4_codeSize_5 rfl rfl ?_
    refine g_X4 hC 0 i_X4 l_7 (by decide) (q := 9) dX4_codeSize_6 rfl rfl ?_
    refine r_iconst hC (x := 0) (q := 10) dX4_codeSize_9 (by decide) rfl ?_
    refine r_iaN hC (q := 11) (i := 0) dX4_codeSize_10 iA_271 rfl (by omega) rfl ?_
    refine r_top (y := nI c) h0 ?_
    refine r_icmp_geN hC (q := 14) (t := 34) dX4_codeSize_11 rfl rfl (by omega) (by omega) (by decide) rfl (fun h11 => ?_) (fun h11 => ?_)
    · skip
      omega
    · skip
      refine r_iload_n hC (q := 15) dX4_codeSize_14 rfl rfl ?_
      refine r_aload_n hC (q := 16) dX4_codeSize_15 rfl rfl ?_
      refine r_iload_n hC (q := 17) dX4_codeSize_16 rfl rfl ?_
      refine r_cVI hC (q := 20) (n := 1) (As := [_]) (fun lch => c_X4_many lch (by omega)) gX4_codeSize_X4_many rfl (by decide +kernel) ⟨by decide, by decide⟩ ob_270 rfl rfl rfl rfl (Nat.le_of_ble_eq_true rfl) dX4_codeSize_17 rfl ?_
      rintro _ _ ⟨rfl, rfl⟩
      refine r_aload_n hC (q := 21) dX4_codeSize_20 rfl rfl ?_
      refine r_iload_n hC (q := 22) dX4_codeSize_21 rfl rfl ?_
      refine r_cVI hC (q := 25) (n := 1) (As := [_]) (fun lch => c_X4_costOf lch (by omega)) gX4_codeSize_X4_costOf rfl (by decide +kernel) ⟨by decide, by decide⟩ ob_270 rfl rfl rfl rfl (Nat.le_of_ble_eq_true rfl) dX4_codeSize_22 rfl ?_
      rintro _ _ ⟨rfl, rfl⟩
      refine r_iadd hC (q := 26) dX4_codeSize_25 rfl ?_
      refine r_iadd hC (q := 27) dX4_codeSize_26 rfl ?_
      refine r_istore_n hC (q := 28) (L' := [_, _, _]) dX4_codeSize_27 (Nat.le_of_ble_eq_true rfl) rfl rfl ?_
      refine r_iincN hC (q := 31) (L' := [_, _, _]) (c := 1) dX4_codeSize_28 rfl rfl rfl rfl rfl ?_
      refine r_goto hC (t := 4) dX4_codeSize_31 (by decide) ?_
      exact ih (b + 1) _ (by omega) hpost

set_option maxRecDepth 100000 in
set_option maxHeartbeats 4000000 in
theorem b_X4_codeSize {E : TE} {G : GG} {v : VV} {c : Nat}  (hC : Cx E G cX4_codeSize RX4 3 wsX4_codeSize 3 62) (hR : RtI E G cX4_codeSize (fun r v' => r = szm (v 271) c 0 0 ∧ v = v')) (hM : MW (v 271) c) : Wv E G v 0 [some (.ref (G.1 270)), none, none] [] := by
  refine r_iconst hC (x := 0) (q := 1) dX4_codeSize_0 (by decide) rfl ?_
  refine r_istore_n hC (q := 2) (L' := [_, _, _]) dX4_codeSize_1 (Nat.le_of_ble_eq_true rfl) rfl rfl ?_
  refine r_iconst hC (x := 0) (q := 3) dX4_codeSize_2 (by decide) rfl ?_
  refine r_istore_n hC (q := 4) (L' := [_, _, _]) dX4_codeSize_3 (Nat.le_of_ble_eq_true rfl) rfl rfl ?_
  exact lp_X4_codeSize hC hR hM.1 hM.2.1 c 0 0 (by omega) ⟨rfl, rfl⟩
theorem c_X4_codeSize (l : Launch) {G : GG} {v : VV} {c : Nat}  (hM : MW (v 271) c) : MtI l G yX4_codeSize wsX4_codeSize 3 62 [.ref (G.1 270)] v (fun r v' => r = szm (v 271) c 0 0 ∧ v = v') := mt_int (Or.inl rfl) (by decide) rfl (by simp [Value.category]) (Nat.le_of_ble_eq_true rfl) rfl rfl (fun E hC hR => b_X4_codeSize hC hR hM)
