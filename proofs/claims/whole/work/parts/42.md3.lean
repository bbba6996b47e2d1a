def mhI (g : Nat → Int32) (P : Nat) : Nat → Nat → Int32 → Int32
  | 0, _, h => h
  | f + 1, k, h => mhI g P f (k + 1) (31 * h + g (P + k))

set_option maxRecDepth 100000 in
set_option maxHeartbeats 4000000 in
theorem l1_X4_tailHash {E : TE} {G : GG} {v : VV} {b i : Nat} {y : Int32} (hC : Cx E G cX4_tailHash RX4 6 wsX4_tailHash 2 43) (hb : b < 12) (hi : i < 10) : ∀ (f k : Nat) (h : Int32), k + f = 4 → Wv E G v 86 [some (.ref (G.1 270)), some (.int (nI b)), some (.int y), some (.int (mhI (v 271) (10 + 55 * b + 1 + 5 * i) f k h)), some (.int (nI i)), none] [] → Wv E G v 54 [some (.ref (G.1 270)), some (.int (nI b)), some (.int y), some (.int h), some (.int (nI i)), some (.int (nI k))] [] := by
  intro f
  induction f with
  | zero =>
    intro k h hkf kk
    refine r_iload hC (q := 56) dX4_tailHash_54 rfl rfl ?_
    refine r_iconst hC (x := 4) (q := 57) dX4_tailHash_56 (by decide) rfl ?_
    refine r_icmp_geN hC (q := 60) (t := 86) (b := 4) dX4_tailHash_57 rfl rfl (by omega) (by omega) (by decide) rfl (fun h57 => ?_) (fun h57 => ?_)
    · skip
      exact r_weak kk ⟨Or.inr rfl, Or.inr rfl, Or.inr rfl, Or.inr rfl, Or.inr rfl, Or.inl rfl, trivial⟩
    · skip
      omega
  | succ f ih =>
    intro k h hkf kk
    have i_X4 : ∀ w ∈ wsX40, w ∈ wsX4_tailHash := by decide +kernel
    have l_7 : lnk E RX4 7 (TX4 0) := hC.fl (by decide +kernel)
    refine r_iload hC (q := 56) dX4_tailHash_54 rfl rfl ?_
    refine r_iconst hC (x := 4) (q := 57) dX4_tailHash_56 (by decide) rfl ?_
    refine r_icmp_geN hC (q := 60) (t := 86) (b := 4) dX4_tailHash_57 rfl rfl (by omega) (by omega) (by decide) rfl (fun h57 => ?_) (fun h57 => ?_)
    · skip
      omega
    · skip
      refine r_bipush hC (x := 31) (q := 62) dX4_tailHash_60 (by decide) rfl ?_
      refine r_iload_n hC (q := 63) dX4_tailHash_62 rfl rfl ?_
      refine r_imul hC (q := 64) dX4_tailHash_63 rfl ?_
      refine r_aload_n hC (q := 65) dX4_tailHash_64 rfl rfl ?_
      refine g_X4 hC 0 i_X4 l_7 (by decide) (q := 68) dX4_tailHash_65 rfl rfl ?_
      refine r_iload_n hC (q := 69) dX4_tailHash_68 rfl rfl ?_
      refine r_iload hC (q := 71) dX4_tailHash_69 rfl rfl ?_
      refine r_cSI hC (q := 74) (n := 2) (As := [_, _]) (fun lch => c_X4_at lch ) gX4_tailHash_X4_at rfl (by decide +kernel) ⟨by decide, by decide⟩ rfl rfl rfl (Nat.le_of_ble_eq_true rfl) dX4_tailHash_71 rfl ?_
      rintro _ _ ⟨rfl, rfl⟩
      refine r_iload hC (q := 76) dX4_tailHash_74 rfl rfl ?_
      refine r_iaddN hC (q := 77) dX4_tailHash_76 rfl rfl rfl ?_
      refine r_iaN hC (q := 78) dX4_tailHash_77 iA_271 rfl (by omega) rfl ?_
      refine r_iadd hC (q := 79) dX4_tailHash_78 rfl ?_
      refine r_istore_n hC (q := 80) (L' := [_, _, _, _, _, _]) dX4_tailHash_79 (Nat.le_of_ble_eq_true rfl) rfl rfl ?_
      refine r_iincN hC (q := 83) (L' := [_, _, _, _, _, _]) (c := 1) dX4_tailHash_80 rfl rfl rfl rfl rfl ?_
      refine r_goto hC (t := 54) dX4_tailHash_83 (by decide) ?_
      exact ih (k + 1) _ (by omega) kk

set_option maxRecDepth 100000 in
set_option maxHeartbeats 4000000 in
theorem l2_X4_tailHash {E : TE} {G : GG} {v : VV} {b : Nat} {y : Int32} {post : Int32 → VV → Prop} (hC : Cx E G cX4_tailHash RX4 6 wsX4_tailHash 2 43) (hR : RtI E G cX4_tailHash post) (hb : b < 12) : ∀ (f i : Nat) (h : Int32), i + f = 4 → post (mhI (v 271) (10 + 55 * b + 51) f i h &&& 2147483647) v → Wv E G v 95 [some (.ref (G.1 270)), some (.int (nI b)), some (.int y), some (.int h), some (.int (nI i)), none] [] := by
  intro f
  induction f with
  | zero =>
    intro i h hif hpost
    refine r_iload hC (q := 97) dX4_tailHash_95 rfl rfl ?_
    refine r_iconst hC (x := 4) (q := 98) dX4_tailHash_97 (by decide) rfl ?_
    refine r_icmp_geN hC (q := 101) (t := 125) (b := 4) dX4_tailHash_98 rfl rfl (by omega) (by omega) (by decide) rfl (fun h98 => ?_) (fun h98 => ?_)
    · skip
      refine r_iload_n hC (q := 126) dX4_tailHash_125 rfl rfl ?_
      refine r_ldc hC (x := 2147483647) (q := 128) (by decide +kernel) dX4_tailHash_126 rfl ?_
      refine r_iand hC (q := 129) dX4_tailHash_128 rfl ?_
      exact hR _ _ _ _ dX4_tailHash_129 hpost
    · skip
      omega
  | succ f ih =>
    intro i h hif hpost
    have i_X4 : ∀ w ∈ wsX40, w ∈ wsX4_tailHash := by decide +kernel
    have l_7 : lnk E RX4 7 (TX4 0) := hC.fl (by decide +kernel)
    refine r_iload hC (q := 97) dX4_tailHash_95 rfl rfl ?_
    refine r_iconst hC (x := 4) (q := 98) dX4_tailHash_97 (by decide) rfl ?_
    refine r_icmp_geN hC (q := 101) (t := 125) (b := 4) dX4_tailHash_98 rfl rfl (by omega) (by omega) (by decide) rfl (fun h98 => ?_) (fun h98 => ?_)
    · skip
      omega
    · skip
      refine r_bipush hC (x := 31) (q := 103) dX4_tailHash_101 (by decide) rfl ?_
      refine r_iload_n hC (q := 104) dX4_tailHash_103 rfl rfl ?_
      refine r_imul hC (q := 105) dX4_tailHash_104 rfl ?_
      refine r_aload_n hC (q := 106) dX4_tailHash_105 rfl rfl ?_
      refine g_X4 hC 0 i_X4 l_7 (by decide) (q := 109) dX4_tailHash_106 rfl rfl ?_
      refine r_iload_n hC (q := 110) dX4_tailHash_109 rfl rfl ?_
      refine r_cSI hC (q := 113) (n := 1) (As := [_]) (fun lch => c_X4_end lch ) gX4_tailHash_X4_end rfl (by decide +kernel) ⟨by decide, by decide⟩ rfl rfl rfl (Nat.le_of_ble_eq_true rfl) dX4_tailHash_110 rfl ?_
      rintro _ _ ⟨rfl, rfl⟩
      refine r_iload hC (q := 115) dX4_tailHash_113 rfl rfl ?_
      refine r_iaddN hC (q := 116) dX4_tailHash_115 rfl rfl rfl ?_
      refine r_iaN hC (q := 117) dX4_tailHash_116 iA_271 rfl (by omega) rfl ?_
      refine r_iadd hC (q := 118) dX4_tailHash_117 rfl ?_
      refine r_istore_n hC (q := 119) (L' := [_, _, _, _, _, _]) dX4_tailHash_118 (Nat.le_of_ble_eq_true rfl) rfl rfl ?_
      refine r_iincN hC (q := 122) (L' := [_, _, _, _, _, _]) (c := 1) dX4_tailHash_119 rfl rfl rfl rfl rfl ?_
      refine r_goto hC (t := 95) dX4_tailHash_122 (by decide) ?_
      exact ih (i + 1) _ (by omega) hpost

set_option maxRecDepth 100000 in
set_option maxHeartbeats 4000000 in
theorem l3_X4_tailHash {E : TE} {G : GG} {v : VV} {b n : Nat} {y : Int32} {post : Int32 → VV → Prop} (hC : Cx E G cX4_tailHash RX4 6 wsX4_tailHash 2 43) (hR : RtI E G cX4_tailHash post) (hb : b < 12) (hn : v 271 (10 + 55 * b) = nI n) (h10 : n ≤ 10) : ∀ (f i : Nat) (h : Int32), i + f = n → post (hsT (mw (v 271) b) (hsI (mw (v 271) b) f i h) &&& 2147483647) v → Wv E G v 41 [some (.ref (G.1 270)), some (.int (nI b)), some (.int y), some (.int h), some (.int (nI i)), none] [] := by
  intro f
  induction f with
  | zero =>
    intro i h hif hpost
    refine r_iload hC (q := 43) dX4_tailHash_41 rfl rfl ?_
    refine r_aload_n hC (q := 44) dX4_tailHash_43 rfl rfl ?_
    refine r_iload_n hC (q := 45) dX4_tailHash_44 rfl rfl ?_
    refine r_cVI hC (q := 48) (n := 1) (As := [_]) (fun lch => c_X4_many lch hb) gX4_tailHash_X4_many rfl (by decide +kernel) ⟨by decide, by decide⟩ ob_270 rfl rfl rfl rfl (Nat.le_of_ble_eq_true rfl) dX4_tailHash_45 rfl ?_
    rintro _ _ ⟨rfl, rfl⟩
    refine r_top (y := nI n) hn ?_
    refine r_icmp_geN hC (q := 51) (t := 92) dX4_tailHash_48 rfl rfl (by omega) (by omega) (by decide) rfl (fun h48 => ?_) (fun h48 => ?_)
    · skip
      refine r_iconst hC (x := 0) (q := 93) dX4_tailHash_92 (by decide) rfl ?_
      refine r_istore hC (q := 95) (L' := [_, _, _, _, _, _]) dX4_tailHash_93 (Nat.le_of_ble_eq_true rfl) rfl rfl ?_
      exact l2_X4_tailHash hC hR hb 4 0 _ rfl hpost
    · skip
      omega
  | succ f ih =>
    intro i h hif hpost
    refine r_iload hC (q := 43) dX4_tailHash_41 rfl rfl ?_
    refine r_aload_n hC (q := 44) dX4_tailHash_43 rfl rfl ?_
    refine r_iload_n hC (q := 45) dX4_tailHash_44 rfl rfl ?_
    refine r_cVI hC (q := 48) (n := 1) (As := [_]) (fun lch => c_X4_many lch hb) gX4_tailHash_X4_many rfl (by decide +kernel) ⟨by decide, by decide⟩ ob_270 rfl rfl rfl rfl (Nat.le_of_ble_eq_true rfl) dX4_tailHash_45 rfl ?_
    rintro _ _ ⟨rfl, rfl⟩
    refine r_top (y := nI n) hn ?_
    refine r_icmp_geN hC (q := 51) (t := 92) dX4_tailHash_48 rfl rfl (by omega) (by omega) (by decide) rfl (fun h48 => ?_) (fun h48 => ?_)
    · skip
      omega
    · skip
      refine r_iconst hC (x := 0) (q := 52) dX4_tailHash_51 (by decide) rfl ?_
      refine r_istore hC (q := 54) (L' := [_, _, _, _, _, _]) dX4_tailHash_52 (Nat.le_of_ble_eq_true rfl) rfl rfl ?_
      refine l1_X4_tailHash hC hb (by omega) 4 0 _ rfl ?_
      refine r_iincN hC (q := 89) (L' := [_, _, _, _, _, _]) (c := 1) dX4_tailHash_86 rfl rfl rfl rfl rfl ?_
      refine r_goto hC (t := 41) dX4_tailHash_89 (by decide) ?_
      exact ih (i + 1) _ (by omega) hpost

set_option maxRecDepth 100000 in
set_option maxHeartbeats 4000000 in
theorem b_X4_tailHash {E : TE} {G : GG} {v : VV} {c : Nat} {x y : Int32} (hC : Cx E G cX4_tailHash RX4 6 wsX4_tailHash 2 43) (hR : RtI E G cX4_tailHash (fun r v' => r = q_hash c (mw (v 271)) x y ∧ v = v')) (hM : MW (v 271) c) : Wv E G v 0 [some (.ref (G.1 270)), some (.int x), some (.int y), none, none, none] [] := by
  have h12 := hM.2.1
  refine r_aload_n hC (q := 1) dX4_tailHash_0 rfl rfl ?_
  refine r_iload_n hC (q := 2) dX4_tailHash_1 rfl rfl ?_
  refine r_cVI hC (q := 5) (n := 1) (As := [_]) (fun lch => c_X4_isBlock lch hM) gX4_tailHash_X4_isBlock rfl (by decide +kernel) ⟨by decide, by decide⟩ ob_270 rfl rfl rfl rfl (Nat.le_of_ble_eq_true rfl) dX4_tailHash_2 rfl ?_
  rintro _ _ ⟨rfl, rfl⟩
  refine r_if_neB hC (q := 8) (t := 12) dX4_tailHash_5 (by decide) rfl (fun h5 => ?_) (fun h5 => ?_)
  · obtain ⟨ex, bx⟩ := inb_tn (by omega) h5; have hn := (hM.2.2 _ bx).2
    refine r_iload_n hC (q := 13) dX4_tailHash_12 rfl rfl ?_
    refine r_iconst hC (x := 0) (q := 14) dX4_tailHash_13 (by decide) rfl ?_
    refine r_aload_n hC (q := 15) dX4_tailHash_14 rfl rfl ?_
    refine r_iload_n hC (q := 16) dX4_tailHash_15 rfl rfl ?_
    refine r_top (y := nI (tn x)) ex ?_
    refine r_cVI hC (q := 19) (n := 1) (As := [_]) (fun lch => c_X4_many lch (by omega)) gX4_tailHash_X4_many rfl (by decide +kernel) ⟨by decide, by decide⟩ ob_270 rfl rfl rfl rfl (Nat.le_of_ble_eq_true rfl) dX4_tailHash_16 rfl ?_
    rintro _ _ ⟨rfl, rfl⟩
    refine r_top (y := nI (mnb (v 271) (tn x))) (hM.2.2 _ bx).1 ?_
    refine r_cSI hC (q := 22) (n := 3) (As := [_, _, _]) (fun lch => c_X4_in lch ) gX4_tailHash_X4_in rfl (by decide +kernel) ⟨by decide, by decide⟩ rfl rfl rfl (Nat.le_of_ble_eq_true rfl) dX4_tailHash_19 rfl ?_
    rintro _ _ ⟨rfl, rfl⟩
    refine r_if_neB hC (q := 25) (t := 29) dX4_tailHash_22 (by decide) rfl (fun h22 => ?_) (fun h22 => ?_)
    · rw [inR_n (by omega)] at h22; obtain ⟨ey, by1⟩ := inb_tn (by omega) h22
      refine r_bipush hC (x := 17) (q := 31) dX4_tailHash_29 (by decide) rfl ?_
      refine r_istore_n hC (q := 32) (L' := [_, _, _, _, _, _]) dX4_tailHash_31 (Nat.le_of_ble_eq_true rfl) rfl rfl ?_
      refine r_aload_n hC (q := 33) dX4_tailHash_32 rfl rfl ?_
      refine r_iload_n hC (q := 34) dX4_tailHash_33 rfl rfl ?_
      refine r_top (y := nI (tn x)) ex ?_
      refine r_cVI hC (q := 37) (n := 1) (As := [_]) (fun lch => c_X4_many lch (by omega)) gX4_tailHash_X4_many rfl (by decide +kernel) ⟨by decide, by decide⟩ ob_270 rfl rfl rfl rfl (Nat.le_of_ble_eq_true rfl) dX4_tailHash_34 rfl ?_
      rintro _ _ ⟨rfl, rfl⟩
      refine r_top (y := nI (mnb (v 271) (tn x))) (hM.2.2 _ bx).1 ?_
      refine r_iload_n hC (q := 38) dX4_tailHash_37 rfl rfl ?_
      refine r_top (y := nI (tn y)) ey ?_
      refine r_isubN hC (q := 39) dX4_tailHash_38 rfl rfl (by omega) rfl ?_
      refine r_istore hC (q := 41) (L' := [_, _, _, _, _, _]) dX4_tailHash_39 (Nat.le_of_ble_eq_true rfl) rfl rfl ?_
      have key := l3_X4_tailHash (y := y) hC hR (b := tn x) (by omega) (hM.2.2 _ bx).1 hn (tn y) (mnb (v 271) (tn x) - tn y) 17 (by omega) ⟨(q_hash1 (B := mw (v 271)) (n := mnb (v 271) (tn x)) h5 rfl h22).symm, rfl⟩
      rw [← ex] at key
      exact key
    · rw [inR_n (by omega)] at h22
      refine r_sipush hC (x := (-1003)) (q := 28) dX4_tailHash_25 (by decide) rfl ?_
      exact hR _ _ _ _ dX4_tailHash_28 ⟨(q_hash2 (B := mw (v 271)) h5 rfl h22).symm, rfl⟩
  · skip
    refine r_sipush hC (x := (-1001)) (q := 11) dX4_tailHash_8 (by decide) rfl ?_
    exact hR _ _ _ _ dX4_tailHash_11 ⟨by rw [q_hash, if_neg h5], rfl⟩
theorem c_X4_tailHash (l : Launch) {G : GG} {v : VV} {c : Nat} {x y : Int32} (hM : MW (v 271) c) : MtI l G yX4_tailHash wsX4_tailHash 2 43 [.ref (G.1 270), .int x, .int y] v (fun r v' => r = q_hash c (mw (v 271)) x y ∧ v = v') := mt_int (Or.inl rfl) (by decide) rfl (by simp [Value.category]) (Nat.le_of_ble_eq_true rfl) rfl rfl (fun E hC hR => b_X4_tailHash hC hR hM)

def seF (g : Nat → Int32) (P Q : Nat) : Nat → Nat → Bool → Bool
  | 0, _, s => s
  | f + 1, k, s => seF g P Q f (k + 1) (s && decide (g (P + k) = g (Q + k)))
theorem se_T {g : Nat → Int32} {a b : Nat} : seF g (10 + 55 * a + 51) (10 + 55 * b + 51) 4 0 true = eqTb (mw g a) (mw g b) := by
  rw [Bool.eq_iff_iff, eqTb_iff]
  simp [seF, eqT, mw, and_assoc]
theorem se_A {g : Nat → Int32} {a b t : Nat} : seF g (10 + 55 * a + 1 + 5 * (mnb g a - t)) (10 + 55 * b + 1 + 5 * (mnb g b - t)) 4 0 true = eqAb (mw g a) (mw g b) t := by
  rw [Bool.eq_iff_iff, eqAb_iff]
  simp [seF, eqA, mw, and_assoc]

set_option maxRecDepth 100000 in
set_option maxHeartbeats 4000000 in
theorem lp_X4_sameEnds {E : TE} {G : GG} {v : VV} {a b : Nat} {post : Int32 → VV → Prop} (hC : Cx E G cX4_sameEnds RX4 5 wsX4_sameEnds 2 40) (hR : RtI E G cX4_sameEnds post) (ha : a < 12) (hb : b < 12) : ∀ (f k : Nat) (s : Bool) (z : Int32), z = bI s → k + f = 4 → post (bI (seF (v 271) (10 + 55 * a + 51) (10 + 55 * b + 51) f k s)) v → Wv E G v 5 [some (.ref (G.1 270)), some (.int (nI a)), some (.int (nI b)), some (.int z), some (.int (nI k))] [] := by
  intro f
  induction f with
  | zero =>
    intro k s z hz hkf hpost
    subst hz
    refine r_iload hC (q := 7) dX4_sameEnds_5 rfl rfl ?_
    refine r_iconst hC (x := 4) (q := 8) dX4_sameEnds_7 (by decide) rfl ?_
    refine r_icmp_geN hC (q := 11) (t := 54) (b := 4) dX4_sameEnds_8 rfl rfl (by omega) (by omega) (by decide) rfl (fun h8 => ?_) (fun h8 => ?_)
    · skip
      refine r_iload_n hC (q := 55) dX4_sameEnds_54 rfl rfl ?_
      exact hR _ _ _ _ dX4_sameEnds_55 hpost
    · skip
      omega
  | succ f ih =>
    intro k s z hz hkf hpost
    subst hz
    have i_X4 : ∀ w ∈ wsX40, w ∈ wsX4_sameEnds := by decide +kernel
    have l_7 : lnk E RX4 7 (TX4 0) := hC.fl (by decide +kernel)
    refine r_iload hC (q := 7) dX4_sameEnds_5 rfl rfl ?_
    refine r_iconst hC (x := 4) (q := 8) dX4_sameEnds_7 (by decide) rfl ?_
    refine r_icmp_geN hC (q := 11) (t := 54) (b := 4) dX4_sameEnds_8 rfl rfl (by omega) (by omega) (by decide) rfl (fun h8 => ?_) (fun h8 => ?_)
    · skip
      omega
    · skip
      refine r_iload_n hC (q := 12) dX4_sameEnds_11 rfl rfl ?_
      refine r_if_eqB hC (q := 15) (t := 46) dX4_sameEnds_12 (by decide) rfl (fun h12 => ?_) (fun h12 => ?_)
      · skip
        refine r_iconst hC (x := 0) (q := 47) dX4_sameEnds_46 (by decide) rfl ?_
        refine r_istore_n hC (q := 48) (L' := [_, _, _, _, _]) dX4_sameEnds_47 (Nat.le_of_ble_eq_true rfl) rfl rfl ?_
        refine r_iincN hC (q := 51) (L' := [_, _, _, _, _]) (c := 1) dX4_sameEnds_48 rfl rfl rfl rfl rfl ?_
        refine r_goto hC (t := 5) dX4_sameEnds_51 (by decide) ?_
        exact ih (k + 1) (s && decide (v 271 (10 + 55 * a + 51 + k) = v 271 (10 + 55 * b + 51 + k))) _ (by simp [bI, h8, h12]) (by omega) hpost
      · skip
        refine r_aload_n hC (q := 16) dX4_sameEnds_15 rfl rfl ?_
        refine g_X4 hC 0 i_X4 l_7 (by decide) (q := 19) dX4_sameEnds_16 rfl rfl ?_
        refine r_iload_n hC (q := 20) dX4_sameEnds_19 rfl rfl ?_
        refine r_cSI hC (q := 23) (n := 1) (As := [_]) (fun lch => c_X4_end lch ) gX4_sameEnds_X4_end rfl (by decide +kernel) ⟨by decide, by decide⟩ rfl rfl rfl (Nat.le_of_ble_eq_true rfl) dX4_sameEnds_20 rfl ?_
        rintro _ _ ⟨rfl, rfl⟩
        refine r_iload hC (q := 25) dX4_sameEnds_23 rfl rfl ?_
        refine r_iaddN hC (q := 26) dX4_sameEnds_25 rfl rfl rfl ?_
        refine r_iaN hC (q := 27) dX4_sameEnds_26 iA_271 rfl (by omega) rfl ?_
        refine r_aload_n hC (q := 28) dX4_sameEnds_27 rfl rfl ?_
        refine g_X4 hC 0 i_X4 l_7 (by decide) (q := 31) dX4_sameEnds_28 rfl rfl ?_
        refine r_iload_n hC (q := 32) dX4_sameEnds_31 rfl rfl ?_
        refine r_cSI hC (q := 35) (n := 1) (As := [_]) (fun lch => c_X4_end lch ) gX4_sameEnds_X4_end rfl (by decide +kernel) ⟨by decide, by decide⟩ rfl rfl rfl (Nat.le_of_ble_eq_true rfl) dX4_sameEnds_32 rfl ?_
        rintro _ _ ⟨rfl, rfl⟩
        refine r_iload hC (q := 37) dX4_sameEnds_35 rfl rfl ?_
        refine r_iaddN hC (q := 38) dX4_sameEnds_37 rfl rfl rfl ?_
        refine r_iaN hC (q := 39) dX4_sameEnds_38 iA_271 rfl (by omega) rfl ?_
        refine r_icmp_ne hC (q := 42) (t := 46) dX4_sameEnds_39 (by decide) rfl (fun h39 => ?_) (fun h39 => ?_)
        · skip
          refine r_iconst hC (x := 0) (q := 47) dX4_sameEnds_46 (by decide) rfl ?_
          refine r_istore_n hC (q := 48) (L' := [_, _, _, _, _]) dX4_sameEnds_47 (Nat.le_of_ble_eq_true rfl) rfl rfl ?_
          refine r_iincN hC (q := 51) (L' := [_, _, _, _, _]) (c := 1) dX4_sameEnds_48 rfl rfl rfl rfl rfl ?_
          refine r_goto hC (t := 5) dX4_sameEnds_51 (by decide) ?_
          exact ih (k + 1) (s && decide (v 271 (10 + 55 * a + 51 + k) = v 271 (10 + 55 * b + 51 + k))) _ (by simp [bI, h8, h12, h39]) (by omega) hpost
        · skip
          refine r_iconst hC (x := 1) (q := 43) dX4_sameEnds_42 (by decide) rfl ?_
          refine r_goto hC (t := 47) dX4_sameEnds_43 (by decide) ?_
          refine r_istore_n hC (q := 48) (L' := [_, _, _, _, _]) dX4_sameEnds_47 (Nat.le_of_ble_eq_true rfl) rfl rfl ?_
          refine r_iincN hC (q := 51) (L' := [_, _, _, _, _]) (c := 1) dX4_sameEnds_48 rfl rfl rfl rfl rfl ?_
          refine r_goto hC (t := 5) dX4_sameEnds_51 (by decide) ?_
          exact ih (k + 1) (s && decide (v 271 (10 + 55 * a + 51 + k) = v 271 (10 + 55 * b + 51 + k))) _ (by simp [bI, h8, h12, h39]) (by omega) hpost

set_option maxRecDepth 100000 in
set_option maxHeartbeats 4000000 in
theorem b_X4_sameEnds {E : TE} {G : GG} {v : VV} {a b : Nat} (hC : Cx E G cX4_sameEnds RX4 5 wsX4_sameEnds 2 40) (hR : RtI E G cX4_sameEnds (fun r v' => r = bI (eqTb (mw (v 271) a) (mw (v 271) b)) ∧ v = v')) (ha : a < 12) (hb : b < 12) : Wv E G v 0 [some (.ref (G.1 270)), some (.int (nI a)), some (.int (nI b)), none, none] [] := by
  refine r_iconst hC (x := 1) (q := 1) dX4_sameEnds_0 (by decide) rfl ?_
  refine r_istore_n hC (q := 2) (L' := [_, _, _, _, _]) dX4_sameEnds_1 (Nat.le_of_ble_eq_true rfl) rfl rfl ?_
  refine r_iconst hC (x := 0) (q := 3) dX4_sameEnds_2 (by decide) rfl ?_
  refine r_istore hC (q := 5) (L' := [_, _, _, _, _]) dX4_sameEnds_3 (Nat.le_of_ble_eq_true rfl) rfl rfl ?_
  exact lp_X4_sameEnds hC hR ha hb 4 0 true 1 rfl rfl ⟨by rw [se_T], rfl⟩
theorem c_X4_sameEnds (l : Launch) {G : GG} {v : VV} {a b : Nat} (ha : a < 12) (hb : b < 12) : MtI l G yX4_sameEnds wsX4_sameEnds 2 40 [.ref (G.1 270), .int (nI a), .int (nI b)] v (fun r v' => r = bI (eqTb (mw (v 271) a) (mw (v 271) b)) ∧ v = v') := mt_int (Or.inr ⟨rfl, fun r v' h => by rw [h.1]; exact ite01 _⟩) (by decide) rfl (by simp [Value.category]) (Nat.le_of_ble_eq_true rfl) rfl rfl (fun E hC hR => b_X4_sameEnds hC hR ha hb)

set_option maxRecDepth 100000 in
set_option maxHeartbeats 4000000 in
theorem lp_X4_sameFromEnd {E : TE} {G : GG} {v : VV} {a b t P Q : Nat} {post : Int32 → VV → Prop} (hC : Cx E G cX4_sameFromEnd RX4 8 wsX4_sameFromEnd 2 41) (hR : RtI E G cX4_sameFromEnd post) (hP : P < 667) (hQ : Q < 667) : ∀ (f k : Nat) (s : Bool) (z : Int32), z = bI s → k + f = 4 → post (bI (seF (v 271) P Q f k s)) v → Wv E G v 32 [some (.ref (G.1 270)), some (.int (nI a)), some (.int (nI b)), some (.int (nI t)), some (.int (nI P)), some (.int (nI Q)), some (.int z), some (.int (nI k))] [] := by
  intro f
  induction f with
  | zero =>
    intro k s z hz hkf hpost
    subst hz
    refine r_iload hC (q := 34) dX4_sameFromEnd_32 rfl rfl ?_
    refine r_iconst hC (x := 4) (q := 35) dX4_sameFromEnd_34 (by decide) rfl ?_
    refine r_icmp_geN hC (q := 38) (t := 79) (b := 4) dX4_sameFromEnd_35 rfl rfl (by omega) (by omega) (by decide) rfl (fun h35 => ?_) (fun h35 => ?_)
    · skip
      refine r_iload hC (q := 81) dX4_sameFromEnd_79 rfl rfl ?_
      exact hR _ _ _ _ dX4_sameFromEnd_81 hpost
    · skip
      omega
  | succ f ih =>
    intro k s z hz hkf hpost
    subst hz
    have i_X4 : ∀ w ∈ wsX40, w ∈ wsX4_sameFromEnd := by decide +kernel
    have l_7 : lnk E RX4 7 (TX4 0) := hC.fl (by decide +kernel)
    refine r_iload hC (q := 34) dX4_sameFromEnd_32 rfl rfl ?_
    refine r_iconst hC (x := 4) (q := 35) dX4_sameFromEnd_34 (by decide) rfl ?_
    refine r_icmp_geN hC (q := 38) (t := 79) (b := 4) dX4_sameFromEnd_35 rfl rfl (by omega) (by omega) (by decide) rfl (fun h35 => ?_) (fun h35 => ?_)
    · skip
      omega
    · skip
      refine r_iload hC (q := 40) dX4_sameFromEnd_38 rfl rfl ?_
      refine r_if_eqB hC (q := 43) (t := 70) dX4_sameFromEnd_40 (by decide) rfl (fun h40 => ?_) (fun h40 => ?_)
      · skip
        refine r_iconst hC (x := 0) (q := 71) dX4_sameFromEnd_70 (by decide) rfl ?_
        refine r_istore hC (q := 73) (L' := [_, _, _, _, _, _, _, _]) dX4_sameFromEnd_71 (Nat.le_of_ble_eq_true rfl) rfl rfl ?_
        refine r_iincN hC (q := 76) (L' := [_, _, _, _, _, _, _, _]) (c := 1) dX4_sameFromEnd_73 rfl rfl rfl rfl rfl ?_
        refine r_goto hC (t := 32) dX4_sameFromEnd_76 (by decide) ?_
        exact ih (k + 1) (s && decide (v 271 (P + k) = v 271 (Q + k))) _ (by simp [bI, h35, h40]) (by omega) hpost
      · skip
        refine r_aload_n hC (q := 44) dX4_sameFromEnd_43 rfl rfl ?_
        refine g_X4 hC 0 i_X4 l_7 (by decide) (q := 47) dX4_sameFromEnd_44 rfl rfl ?_
        refine r_iload hC (q := 49) dX4_sameFromEnd_47 rfl rfl ?_
        refine r_iload hC (q := 51) dX4_sameFromEnd_49 rfl rfl ?_
        refine r_iaddN hC (q := 52) dX4_sameFromEnd_51 rfl rfl rfl ?_
        refine r_iaN hC (q := 53) dX4_sameFromEnd_52 iA_271 rfl (by omega) rfl ?_
        refine r_aload_n hC (q := 54) dX4_sameFromEnd_53 rfl rfl ?_
        refine g_X4 hC 0 i_X4 l_7 (by decide) (q := 57) dX4_sameFromEnd_54 rfl rfl ?_
        refine r_iload hC (q := 59) dX4_sameFromEnd_57 rfl rfl ?_
        refine r_iload hC (q := 61) dX4_sameFromEnd_59 rfl rfl ?_
        refine r_iaddN hC (q := 62) dX4_sameFromEnd_61 rfl rfl rfl ?_
        refine r_iaN hC (q := 63) dX4_sameFromEnd_62 iA_271 rfl (by omega) rfl ?_
        refine r_icmp_ne hC (q := 66) (t := 70) dX4_sameFromEnd_63 (by decide) rfl (fun h63 => ?_) (fun h63 => ?_)
        · skip
          refine r_iconst hC (x := 0) (q := 71) dX4_sameFromEnd_70 (by decide) rfl ?_
          refine r_istore hC (q := 73) (L' := [_, _, _, _, _, _, _, _]) dX4_sameFromEnd_71 (Nat.le_of_ble_eq_true rfl) rfl rfl ?_
          refine r_iincN hC (q := 76) (L' := [_, _, _, _, _, _, _, _]) (c := 1) dX4_sameFromEnd_73 rfl rfl rfl rfl rfl ?_
          refine r_goto hC (t := 32) dX4_sameFromEnd_76 (by decide) ?_
          exact ih (k + 1) (s && decide (v 271 (P + k) = v 271 (Q + k))) _ (by simp [bI, h35, h40, h63]) (by omega) hpost
        · skip
          refine r_iconst hC (x := 1) (q := 67) dX4_sameFromEnd_66 (by decide) rfl ?_
          refine r_goto hC (t := 71) dX4_sameFromEnd_67 (by decide) ?_
          refine r_istore hC (q := 73) (L' := [_, _, _, _, _, _, _, _]) dX4_sameFromEnd_71 (Nat.le_of_ble_eq_true rfl) rfl rfl ?_
          refine r_iincN hC (q := 76) (L' := [_, _, _, _, _, _, _, _]) (c := 1) dX4_sameFromEnd_73 rfl rfl rfl rfl rfl ?_
          refine r_goto hC (t := 32) dX4_sameFromEnd_76 (by decide) ?_
          exact ih (k + 1) (s && decide (v 271 (P + k) = v 271 (Q + k))) _ (by simp [bI, h35, h40, h63]) (by omega) hpost

set_option maxRecDepth 100000 in
set_option maxHeartbeats 4000000 in
theorem b_X4_sameFromEnd {E : TE} {G : GG} {v : VV} {c : Nat} {a b t : Nat} (hC : Cx E G cX4_sameFromEnd RX4 8 wsX4_sameFromEnd 2 41) (hR : RtI E G cX4_sameFromEnd (fun r v' => r = bI (eqAb (mw (v 271) a) (mw (v 271) b) t) ∧ v = v')) (hM : MW (v 271) c) (ha : a < c) (hb : b < c) (ht1 : 1 ≤ t) (hta : t ≤ mnb (v 271) a) (htb : t ≤ mnb (v 271) b) : Wv E G v 0 [some (.ref (G.1 270)), some (.int (nI a)), some (.int (nI b)), some (.int (nI t)), none, none, none, none] [] := by
  have h12 := hM.2.1
  have hna := (hM.2.2 a ha).2
  have hnb := (hM.2.2 b hb).2
  refine r_iload_n hC (q := 1) dX4_sameFromEnd_0 rfl rfl ?_
  refine r_aload_n hC (q := 2) dX4_sameFromEnd_1 rfl rfl ?_
  refine r_iload_n hC (q := 3) dX4_sameFromEnd_2 rfl rfl ?_
  refine r_cVI hC (q := 6) (n := 1) (As := [_]) (fun lch => c_X4_many lch (by omega)) gX4_sameFromEnd_X4_many rfl (by decide +kernel) ⟨by decide, by decide⟩ ob_270 rfl rfl rfl rfl (Nat.le_of_ble_eq_true rfl) dX4_sameFromEnd_3 rfl ?_
  rintro _ _ ⟨rfl, rfl⟩
  refine r_top (y := nI (mnb (v 271) a)) (hM.2.2 a (by omega)).1 ?_
  refine r_iload_n hC (q := 7) dX4_sameFromEnd_6 rfl rfl ?_
  refine r_isubN hC (q := 8) dX4_sameFromEnd_7 rfl rfl (by omega) rfl ?_
  refine r_cSI hC (q := 11) (n := 2) (As := [_, _]) (fun lch => c_X4_at lch ) gX4_sameFromEnd_X4_at rfl (by decide +kernel) ⟨by decide, by decide⟩ rfl rfl rfl (Nat.le_of_ble_eq_true rfl) dX4_sameFromEnd_8 rfl ?_
  rintro _ _ ⟨rfl, rfl⟩
  refine r_istore hC (q := 13) (L' := [_, _, _, _, _, _, _, _]) dX4_sameFromEnd_11 (Nat.le_of_ble_eq_true rfl) rfl rfl ?_
  refine r_iload_n hC (q := 14) dX4_sameFromEnd_13 rfl rfl ?_
  refine r_aload_n hC (q := 15) dX4_sameFromEnd_14 rfl rfl ?_
  refine r_iload_n hC (q := 16) dX4_sameFromEnd_15 rfl rfl ?_
  refine r_cVI hC (q := 19) (n := 1) (As := [_]) (fun lch => c_X4_many lch (by omega)) gX4_sameFromEnd_X4_many rfl (by decide +kernel) ⟨by decide, by decide⟩ ob_270 rfl rfl rfl rfl (Nat.le_of_ble_eq_true rfl) dX4_sameFromEnd_16 rfl ?_
  rintro _ _ ⟨rfl, rfl⟩
  refine r_top (y := nI (mnb (v 271) b)) (hM.2.2 b (by omega)).1 ?_
  refine r_iload_n hC (q := 20) dX4_sameFromEnd_19 rfl rfl ?_
  refine r_isubN hC (q := 21) dX4_sameFromEnd_20 rfl rfl (by omega) rfl ?_
  refine r_cSI hC (q := 24) (n := 2) (As := [_, _]) (fun lch => c_X4_at lch ) gX4_sameFromEnd_X4_at rfl (by decide +kernel) ⟨by decide, by decide⟩ rfl rfl rfl (Nat.le_of_ble_eq_true rfl) dX4_sameFromEnd_21 rfl ?_
  rintro _ _ ⟨rfl, rfl⟩
  refine r_istore hC (q := 26) (L' := [_, _, _, _, _, _, _, _]) dX4_sameFromEnd_24 (Nat.le_of_ble_eq_true rfl) rfl rfl ?_
  refine r_iconst hC (x := 1) (q := 27) dX4_sameFromEnd_26 (by decide) rfl ?_
  refine r_istore hC (q := 29) (L' := [_, _, _, _, _, _, _, _]) dX4_sameFromEnd_27 (Nat.le_of_ble_eq_true rfl) rfl rfl ?_
  refine r_iconst hC (x := 0) (q := 30) dX4_sameFromEnd_29 (by decide) rfl ?_
  refine r_istore hC (q := 32) (L' := [_, _, _, _, _, _, _, _]) dX4_sameFromEnd_30 (Nat.le_of_ble_eq_true rfl) rfl rfl ?_
  exact lp_X4_sameFromEnd hC hR (by omega) (by omega) 4 0 true 1 rfl rfl ⟨by rw [se_A], rfl⟩
theorem c_X4_sameFromEnd (l : Launch) {G : GG} {v : VV} {c : Nat} {a b t : Nat} (hM : MW (v 271) c) (ha : a < c) (hb : b < c) (ht1 : 1 ≤ t) (hta : t ≤ mnb (v 271) a) (htb : t ≤ mnb (v 271) b) : MtI l G yX4_sameFromEnd wsX4_sameFromEnd 2 41 [.ref (G.1 270), .int (nI a), .int (nI b), .int (nI t)] v (fun r v' => r = bI (eqAb (mw (v 271) a) (mw (v 271) b) t) ∧ v = v') := mt_int (Or.inr ⟨rfl, fun r v' h => by rw [h.1]; exact ite01 _⟩) (by decide) rfl (by simp [Value.category]) (Nat.le_of_ble_eq_true rfl) rfl rfl (fun E hC hR => b_X4_sameFromEnd hC hR hM ha hb ht1 hta htb)

set_option maxRecDepth 100000 in
set_option maxHeartbeats 4000000 in
theorem lp_X4_tailOfTwo {E : TE} {G : GG} {v : VV} {c a b : Nat} {post : Int32 → VV → Prop} (hC : Cx E G cX4_tailOfTwo RX4 4 wsX4_tailOfTwo 3 68) (hR : RtI E G cX4_tailOfTwo post) (hM : MW (v 271) c) (ha : a < c) (hb : b < c) : ∀ (f t : Nat), t + f = min (mnb (v 271) a) (mnb (v 271) b) → post (nI (tlF (mw (v 271) a) (mw (v 271) b) f t)) v → Wv E G v 15 [some (.ref (G.1 270)), some (.int (nI a)), some (.int (nI b)), some (.int (nI t))] [] := by
  have h12 := hM.2.1
  have hna := (hM.2.2 a ha).2
  have hnb := (hM.2.2 b hb).2
  intro f
  induction f with
  | zero =>
    intro t htf hpost
    refine r_iload_n hC (q := 16) dX4_tailOfTwo_15 rfl rfl ?_
    refine r_aload_n hC (q := 17) dX4_tailOfTwo_16 rfl rfl ?_
    refine r_iload_n hC (q := 18) dX4_tailOfTwo_17 rfl rfl ?_
    refine r_cVI hC (q := 21) (n := 1) (As := [_]) (fun lch => c_X4_many lch (by omega)) gX4_tailOfTwo_X4_many rfl (by decide +kernel) ⟨by decide, by decide⟩ ob_270 rfl rfl rfl rfl (Nat.le_of_ble_eq_true rfl) dX4_tailOfTwo_18 rfl ?_
    rintro _ _ ⟨rfl, rfl⟩
    refine r_top (y := nI (mnb (v 271) a)) (hM.2.2 a (by omega)).1 ?_
    refine r_icmp_geN hC (q := 24) (t := 51) dX4_tailOfTwo_21 rfl rfl (by omega) (by omega) (by decide) rfl (fun h21 => ?_) (fun h21 => ?_)
    · skip
      refine r_iload_n hC (q := 52) dX4_tailOfTwo_51 rfl rfl ?_
      exact hR _ _ _ _ dX4_tailOfTwo_52 hpost
    · skip
      refine r_iload_n hC (q := 25) dX4_tailOfTwo_24 rfl rfl ?_
      refine r_aload_n hC (q := 26) dX4_tailOfTwo_25 rfl rfl ?_
      refine r_iload_n hC (q := 27) dX4_tailOfTwo_26 rfl rfl ?_
      refine r_cVI hC (q := 30) (n := 1) (As := [_]) (fun lch => c_X4_many lch (by omega)) gX4_tailOfTwo_X4_many rfl (by decide +kernel) ⟨by decide, by decide⟩ ob_270 rfl rfl rfl rfl (Nat.le_of_ble_eq_true rfl) dX4_tailOfTwo_27 rfl ?_
      rintro _ _ ⟨rfl, rfl⟩
      refine r_top (y := nI (mnb (v 271) b)) (hM.2.2 b (by omega)).1 ?_
      refine r_icmp_geN hC (q := 33) (t := 51) dX4_tailOfTwo_30 rfl rfl (by omega) (by omega) (by decide) rfl (fun h30 => ?_) (fun h30 => ?_)
      · skip
        refine r_iload_n hC (q := 52) dX4_tailOfTwo_51 rfl rfl ?_
        exact hR _ _ _ _ dX4_tailOfTwo_52 hpost
      · skip
        omega
  | succ f ih =>
    intro t htf hpost
    refine r_iload_n hC (q := 16) dX4_tailOfTwo_15 rfl rfl ?_
    refine r_aload_n hC (q := 17) dX4_tailOfTwo_16 rfl rfl ?_
    refine r_iload_n hC (q := 18) dX4_tailOfTwo_17 rfl rfl ?_
    refine r_cVI hC (q := 21) (n := 1) (As := [_]) (fun lch => c_X4_many lch (by omega)) gX4_tailOfTwo_X4_many rfl (by decide +kernel) ⟨by decide, by decide⟩ ob_270 rfl rfl rfl rfl (Nat.le_of_ble_eq_true rfl) dX4_tailOfTwo_18 rfl ?_
    rintro _ _ ⟨rfl, rfl⟩
    refine r_top (y := nI (mnb (v 271) a)) (hM.2.2 a (by omega)).1 ?_
    refine r_icmp_geN hC (q := 24) (t := 51) dX4_tailOfTwo_21 rfl rfl (by omega) (by omega) (by decide) rfl (fun h21 => ?_) (fun h21 => ?_)
    · skip
      omega
    · skip
      refine r_iload_n hC (q := 25) dX4_tailOfTwo_24 rfl rfl ?_
      refine r_aload_n hC (q := 26) dX4_tailOfTwo_25 rfl rfl ?_
      refine r_iload_n hC (q := 27) dX4_tailOfTwo_26 rfl rfl ?_
      refine r_cVI hC (q := 30) (n := 1) (As := [_]) (fun lch => c_X4_many lch (by omega)) gX4_tailOfTwo_X4_many rfl (by decide +kernel) ⟨by decide, by decide⟩ ob_270 rfl rfl rfl rfl (Nat.le_of_ble_eq_true rfl) dX4_tailOfTwo_27 rfl ?_
      rintro _ _ ⟨rfl, rfl⟩
      refine r_top (y := nI (mnb (v 271) b)) (hM.2.2 b (by omega)).1 ?_
      refine r_icmp_geN hC (q := 33) (t := 51) dX4_tailOfTwo_30 rfl rfl (by omega) (by omega) (by decide) rfl (fun h30 => ?_) (fun h30 => ?_)
      · skip
        omega
      · skip
        refine r_aload_n hC (q := 34) dX4_tailOfTwo_33 rfl rfl ?_
        refine r_iload_n hC (q := 35) dX4_tailOfTwo_34 rfl rfl ?_
        refine r_iload_n hC (q := 36) dX4_tailOfTwo_35 rfl rfl ?_
        refine r_iload_n hC (q := 37) dX4_tailOfTwo_36 rfl rfl ?_
        refine r_iconst hC (x := 1) (q := 38) dX4_tailOfTwo_37 (by decide) rfl ?_
        refine r_iaddN hC (q := 39) (b := 1) dX4_tailOfTwo_38 rfl rfl rfl ?_
        refine r_cVI hC (q := 42) (n := 3) (As := [_, _, _]) (fun lch => c_X4_sameFromEnd lch hM ha hb (by omega) (by omega) (by omega)) gX4_tailOfTwo_X4_sameFromEnd rfl (by decide +kernel) ⟨by decide, by decide⟩ ob_270 rfl rfl rfl rfl (Nat.le_of_ble_eq_true rfl) dX4_tailOfTwo_39 rfl ?_
        rintro _ _ ⟨rfl, rfl⟩
        refine r_if_eqB hC (q := 45) (t := 51) dX4_tailOfTwo_42 (by decide) rfl (fun h42 => ?_) (fun h42 => ?_)
        · skip
          refine r_iload_n hC (q := 52) dX4_tailOfTwo_51 rfl rfl ?_
          exact hR _ _ _ _ dX4_tailOfTwo_52 (by rw [tlF, if_neg h42] at hpost; exact hpost)
        · skip
          refine r_iincN hC (q := 48) (L' := [_, _, _, _]) (c := 1) dX4_tailOfTwo_45 rfl rfl rfl rfl rfl ?_
          refine r_goto hC (t := 15) dX4_tailOfTwo_48 (by decide) ?_
          exact ih (t + 1) (by omega) (by rw [tlF, if_pos h42] at hpost; exact hpost)

set_option maxRecDepth 100000 in
set_option maxHeartbeats 4000000 in
theorem b_X4_tailOfTwo {E : TE} {G : GG} {v : VV} {c : Nat} {a b : Nat} (hC : Cx E G cX4_tailOfTwo RX4 4 wsX4_tailOfTwo 3 68) (hR : RtI E G cX4_tailOfTwo (fun r v' => r = tl (mw (v 271) a) (mw (v 271) b) ∧ v = v')) (hM : MW (v 271) c) (ha : a < c) (hb : b < c) : Wv E G v 0 [some (.ref (G.1 270)), some (.int (nI a)), some (.int (nI b)), none] [] := by
  have h12 := hM.2.1
  refine r_aload_n hC (q := 1) dX4_tailOfTwo_0 rfl rfl ?_
  refine r_iload_n hC (q := 2) dX4_tailOfTwo_1 rfl rfl ?_
  refine r_iload_n hC (q := 3) dX4_tailOfTwo_2 rfl rfl ?_
  refine r_cVI hC (q := 6) (n := 2) (As := [_, _]) (fun lch => c_X4_sameEnds lch (by omega) (by omega)) gX4_tailOfTwo_X4_sameEnds rfl (by decide +kernel) ⟨by decide, by decide⟩ ob_270 rfl rfl rfl rfl (Nat.le_of_ble_eq_true rfl) dX4_tailOfTwo_3 rfl ?_
  rintro _ _ ⟨rfl, rfl⟩
  refine r_if_neB hC (q := 9) (t := 13) dX4_tailOfTwo_6 (by decide) rfl (fun h6 => ?_) (fun h6 => ?_)
  · skip
    refine r_iconst hC (x := 0) (q := 14) dX4_tailOfTwo_13 (by decide) rfl ?_
    refine r_istore_n hC (q := 15) (L' := [_, _, _, _]) dX4_tailOfTwo_14 (Nat.le_of_ble_eq_true rfl) rfl rfl ?_
    exact lp_X4_tailOfTwo hC hR hM ha hb _ 0 (Nat.zero_add _) ⟨by rw [tl, if_pos h6]; rfl, rfl⟩
  · skip
    refine r_sipush hC (x := (-1005)) (q := 12) dX4_tailOfTwo_9 (by decide) rfl ?_
    exact hR _ _ _ _ dX4_tailOfTwo_12 ⟨by rw [tl, if_neg h6], rfl⟩
theorem c_X4_tailOfTwo (l : Launch) {G : GG} {v : VV} {c : Nat} {a b : Nat} (hM : MW (v 271) c) (ha : a < c) (hb : b < c) : MtI l G yX4_tailOfTwo wsX4_tailOfTwo 3 68 [.ref (G.1 270), .int (nI a), .int (nI b)] v (fun r v' => r = tl (mw (v 271) a) (mw (v 271) b) ∧ v = v') := mt_int (Or.inl rfl) (by decide) rfl (by simp [Value.category]) (Nat.le_of_ble_eq_true rfl) rfl rfl (fun E hC hR => b_X4_tailOfTwo hC hR hM ha hb)

set_option maxRecDepth 100000 in
set_option maxHeartbeats 4000000 in
theorem b_X4_wrongPair {E : TE} {G : GG} {v : VV} {c : Nat} {x y : Int32} (hC : Cx E G cX4_wrongPair RX4 3 wsX4_wrongPair 2 43) (hR : RtI E G cX4_wrongPair (fun r v' => r = q_pair c x y ∧ v = v')) (hM : MW (v 271) c) : Wv E G v 0 [some (.ref (G.1 270)), some (.int x), some (.int y)] [] := by
  refine r_aload_n hC (q := 1) dX4_wrongPair_0 rfl rfl ?_
  refine r_iload_n hC (q := 2) dX4_wrongPair_1 rfl rfl ?_
  refine r_cVI hC (q := 5) (n := 1) (As := [_]) (fun lch => c_X4_isBlock lch hM) gX4_wrongPair_X4_isBlock rfl (by decide +kernel) ⟨by decide, by decide⟩ ob_270 rfl rfl rfl rfl (Nat.le_of_ble_eq_true rfl) dX4_wrongPair_2 rfl ?_
  rintro _ _ ⟨rfl, rfl⟩
  refine r_if_eqB hC (q := 8) (t := 16) dX4_wrongPair_5 (by decide) rfl (fun h5 => ?_) (fun h5 => ?_)
  · skip
    refine r_sipush hC (x := (-1001)) (q := 19) dX4_wrongPair_16 (by decide) rfl ?_
    refine r_goto hC (t := 34) dX4_wrongPair_19 (by decide) ?_
    exact hR _ _ _ _ dX4_wrongPair_34 ⟨by rw [q_pair, if_neg (by simp [h5])], rfl⟩
  · skip
    refine r_aload_n hC (q := 9) dX4_wrongPair_8 rfl rfl ?_
    refine r_iload_n hC (q := 10) dX4_wrongPair_9 rfl rfl ?_
    refine r_cVI hC (q := 13) (n := 1) (As := [_]) (fun lch => c_X4_isBlock lch hM) gX4_wrongPair_X4_isBlock rfl (by decide +kernel) ⟨by decide, by decide⟩ ob_270 rfl rfl rfl rfl (Nat.le_of_ble_eq_true rfl) dX4_wrongPair_10 rfl ?_
    rintro _ _ ⟨rfl, rfl⟩
    refine r_if_neB hC (q := 16) (t := 22) dX4_wrongPair_13 (by decide) rfl (fun h13 => ?_) (fun h13 => ?_)
    · skip
      refine r_iload_n hC (q := 23) dX4_wrongPair_22 rfl rfl ?_
      refine r_iload_n hC (q := 24) dX4_wrongPair_23 rfl rfl ?_
      refine r_icmp_ne hC (q := 27) (t := 33) dX4_wrongPair_24 (by decide) rfl (fun h24 => ?_) (fun h24 => ?_)
      · skip
        refine r_iconst hC (x := 0) (q := 34) dX4_wrongPair_33 (by decide) rfl ?_
        exact hR _ _ _ _ dX4_wrongPair_34 ⟨by rw [q_pair, if_pos (by simp [h5, h13]), if_neg h24], rfl⟩
      · skip
        refine r_sipush hC (x := (-1003)) (q := 30) dX4_wrongPair_27 (by decide) rfl ?_
        refine r_goto hC (t := 34) dX4_wrongPair_30 (by decide) ?_
        exact hR _ _ _ _ dX4_wrongPair_34 ⟨by rw [q_pair, if_pos (by simp [h5, h13]), if_pos h24], rfl⟩
    · skip
      refine r_sipush hC (x := (-1001)) (q := 19) dX4_wrongPair_16 (by decide) rfl ?_
      refine r_goto hC (t := 34) dX4_wrongPair_19 (by decide) ?_
      exact hR _ _ _ _ dX4_wrongPair_34 ⟨by rw [q_pair, if_neg (by simp [h5, h13])], rfl⟩
theorem c_X4_wrongPair (l : Launch) {G : GG} {v : VV} {c : Nat} {x y : Int32} (hM : MW (v 271) c) : MtI l G yX4_wrongPair wsX4_wrongPair 2 43 [.ref (G.1 270), .int x, .int y] v (fun r v' => r = q_pair c x y ∧ v = v') := mt_int (Or.inl rfl) (by decide) rfl (by simp [Value.category]) (Nat.le_of_ble_eq_true rfl) rfl rfl (fun E hC hR => b_X4_wrongPair hC hR hM)

set_option maxRecDepth 100000 in
set_option maxHeartbeats 4000000 in
theorem b_X4_commonTail {E : TE} {G : GG} {v : VV} {c : Nat} {x y : Int32} (hC : Cx E G cX4_commonTail RX4 4 wsX4_commonTail 4 91) (hR : RtI E G cX4_commonTail (fun r v' => r = q_two tl c (mw (v 271)) x y ∧ v = v')) (hM : MW (v 271) c) : Wv E G v 0 [some (.ref (G.1 270)), some (.int x), some (.int y), none] [] := by
  have h12 := hM.2.1
  refine r_aload_n hC (q := 1) dX4_commonTail_0 rfl rfl ?_
  refine r_iload_n hC (q := 2) dX4_commonTail_1 rfl rfl ?_
  refine r_iload_n hC (q := 3) dX4_commonTail_2 rfl rfl ?_
  refine r_cVI hC (q := 6) (n := 2) (As := [_, _]) (fun lch => c_X4_wrongPair lch hM) gX4_commonTail_X4_wrongPair rfl (by decide +kernel) ⟨by decide, by decide⟩ ob_270 rfl rfl rfl rfl (Nat.le_of_ble_eq_true rfl) dX4_commonTail_3 rfl ?_
  rintro _ _ ⟨rfl, rfl⟩
  refine r_istore_n hC (q := 7) (L' := [_, _, _, _]) dX4_commonTail_6 (Nat.le_of_ble_eq_true rfl) rfl rfl ?_
  refine r_iload_n hC (q := 8) dX4_commonTail_7 rfl rfl ?_
  refine r_if_eq hC (q := 11) (t := 15) dX4_commonTail_8 (by decide) rfl (fun h8 => ?_) (fun h8 => ?_)
  · obtain ⟨hx1, hy1, hxy⟩ := q_pair0 h8; obtain ⟨ex, bx⟩ := inb_tn (by omega) hx1; obtain ⟨ey, by1⟩ := inb_tn (by omega) hy1
    refine r_aload_n hC (q := 16) dX4_commonTail_15 rfl rfl ?_
    refine r_iload_n hC (q := 17) dX4_commonTail_16 rfl rfl ?_
    refine r_top (y := nI (tn x)) ex ?_
    refine r_iload_n hC (q := 18) dX4_commonTail_17 rfl rfl ?_
    refine r_top (y := nI (tn y)) ey ?_
    refine r_cVI hC (q := 21) (n := 2) (As := [_, _]) (fun lch => c_X4_tailOfTwo lch hM bx by1) gX4_commonTail_X4_tailOfTwo rfl (by decide +kernel) ⟨by decide, by decide⟩ ob_270 rfl rfl rfl rfl (Nat.le_of_ble_eq_true rfl) dX4_commonTail_18 rfl ?_
    rintro _ _ ⟨rfl, rfl⟩
    exact hR _ _ _ _ dX4_commonTail_21 ⟨(q_two0 (F := tl) (B := mw (v 271)) h8).symm, rfl⟩
  · skip
    refine r_iload_n hC (q := 12) dX4_commonTail_11 rfl rfl ?_
    refine r_goto hC (t := 21) dX4_commonTail_12 (by decide) ?_
    exact hR _ _ _ _ dX4_commonTail_21 ⟨q_two1 (F := tl) h8, rfl⟩
theorem c_X4_commonTail (l : Launch) {G : GG} {v : VV} {c : Nat} {x y : Int32} (hM : MW (v 271) c) : MtI l G yX4_commonTail wsX4_commonTail 4 91 [.ref (G.1 270), .int x, .int y] v (fun r v' => r = q_two tl c (mw (v 271)) x y ∧ v = v') := mt_int (Or.inl rfl) (by decide) rfl (by simp [Value.category]) (Nat.le_of_ble_eq_true rfl) rfl rfl (fun E hC hR => b_X4_commonTail hC hR hM)

def us7m (x : Bv) (t : Nat) : Bool := decide (¬ x.2.1 0 (x.1 - t) = 6 ∧ x.2.1 1 (x.1 - t) = 7) || decide (¬ x.2.1 0 (x.1 - t) = 0 ∧ x.2.1 2 (x.1 - t) = 7) || decide (¬ x.2.1 0 (x.1 - t) < 2 ∧ ¬ 5 < x.2.1 0 (x.1 - t) ∧ x.2.1 3 (x.1 - t) = 7)

set_option maxRecDepth 100000 in
set_option maxHeartbeats 4000000 in
theorem b_X4_uses7 {E : TE} {G : GG} {v : VV} {c : Nat} {a t : Nat} (hC : Cx E G cX4_uses7 RX4 8 wsX4_uses7 2 41) (hR : RtI E G cX4_uses7 (fun r v' => r = bI (us7m (mw (v 271) a) t) ∧ v = v')) (hM : MW (v 271) c) (ha : a < c) (ht1 : 1 ≤ t) (hta : t ≤ mnb (v 271) a) : Wv E G v 0 [some (.ref (G.1 270)), some (.int (nI a)), some (.int (nI t)), none, none, none, none, none] [] := by
  have h12 := hM.2.1
  have hna := (hM.2.2 a ha).2
  have i_X4 : ∀ w ∈ wsX40, w ∈ wsX4_uses7 := by decide +kernel
  have l_7 : lnk E RX4 7 (TX4 0) := hC.fl (by decide +kernel)
  refine r_iload_n hC (q := 1) dX4_uses7_0 rfl rfl ?_
  refine r_aload_n hC (q := 2) dX4_uses7_1 rfl rfl ?_
  refine r_iload_n hC (q := 3) dX4_uses7_2 rfl rfl ?_
  refine r_cVI hC (q := 6) (n := 1) (As := [_]) (fun lch => c_X4_many lch (by omega)) gX4_uses7_X4_many rfl (by decide +kernel) ⟨by decide, by decide⟩ ob_270 rfl rfl rfl rfl (Nat.le_of_ble_eq_true rfl) dX4_uses7_3 rfl ?_
  rintro _ _ ⟨rfl, rfl⟩
  refine r_top (y := nI (mnb (v 271) a)) (hM.2.2 a (by omega)).1 ?_
  refine r_iload_n hC (q := 7) dX4_uses7_6 rfl rfl ?_
  refine r_isubN hC (q := 8) dX4_uses7_7 rfl rfl (by omega) rfl ?_
  refine r_cSI hC (q := 11) (n := 2) (As := [_, _]) (fun lch => c_X4_at lch ) gX4_uses7_X4_at rfl (by decide +kernel) ⟨by decide, by decide⟩ rfl rfl rfl (Nat.le_of_ble_eq_true rfl) dX4_uses7_8 rfl ?_
  rintro _ _ ⟨rfl, rfl⟩
  refine r_istore_n hC (q := 12) (L' := [_, _, _, _, _, _, _, _]) dX4_uses7_11 (Nat.le_of_ble_eq_true rfl) rfl rfl ?_
  refine r_aload_n hC (q := 13) dX4_uses7_12 rfl rfl ?_
  refine g_X4 hC 0 i_X4 l_7 (by decide) (q := 16) dX4_uses7_13 rfl rfl ?_
  refine r_iload_n hC (q := 17) dX4_uses7_16 rfl rfl ?_
  refine r_iaN hC (q := 18) dX4_uses7_17 iA_271 rfl (by omega) rfl ?_
  refine r_istore hC (q := 20) (L' := [_, _, _, _, _, _, _, _]) dX4_uses7_18 (Nat.le_of_ble_eq_true rfl) rfl rfl ?_
  refine r_iload hC (q := 22) dX4_uses7_20 rfl rfl ?_
  refine r_bipush hC (x := 6) (q := 24) dX4_uses7_22 (by decide) rfl ?_
  refine r_icmp_eq hC (q := 27) (t := 44) dX4_uses7_24 (by decide) rfl (fun h24 => ?_) (fun h24 => ?_)
  · skip
    refine r_iconst hC (x := 0) (q := 45) dX4_uses7_44 (by decide) rfl ?_
    refine r_istore hC (q := 47) (L' := [_, _, _, _, _, _, _, _]) dX4_uses7_45 (Nat.le_of_ble_eq_true rfl) rfl rfl ?_
    refine r_iload hC (q := 49) dX4_uses7_47 rfl rfl ?_
    refine r_if_eq hC (q := 52) (t := 69) dX4_uses7_49 (by decide) rfl (fun h49 => ?_) (fun h49 => ?_)
    · skip
      exact absurd (h24.symm.trans h49) (by decide)
    · skip
      refine r_aload_n hC (q := 53) dX4_uses7_52 rfl rfl ?_
      refine g_X4 hC 0 i_X4 l_7 (by decide) (q := 56) dX4_uses7_53 rfl rfl ?_
      refine r_iload_n hC (q := 57) dX4_uses7_56 rfl rfl ?_
      refine r_iconst hC (x := 2) (q := 58) dX4_uses7_57 (by decide) rfl ?_
      refine r_iaddN hC (q := 59) (b := 2) dX4_uses7_58 rfl rfl rfl ?_
      refine r_iaN hC (q := 60) dX4_uses7_59 iA_271 rfl (by omega) rfl ?_
      refine r_bipush hC (x := 7) (q := 62) dX4_uses7_60 (by decide) rfl ?_
      refine r_icmp_ne hC (q := 65) (t := 69) dX4_uses7_62 (by decide) rfl (fun h62 => ?_) (fun h62 => ?_)
      · skip
        refine r_iconst hC (x := 0) (q := 70) dX4_uses7_69 (by decide) rfl ?_
        refine r_istore hC (q := 72) (L' := [_, _, _, _, _, _, _, _]) dX4_uses7_70 (Nat.le_of_ble_eq_true rfl) rfl rfl ?_
        refine r_iload hC (q := 74) dX4_uses7_72 rfl rfl ?_
        refine r_iconst hC (x := 2) (q := 75) dX4_uses7_74 (by decide) rfl ?_
        refine r_icmp_lt hC (q := 78) (t := 101) dX4_uses7_75 (by decide) rfl (fun h75 => ?_) (fun h75 => ?_)
        · skip
          refine r_iconst hC (x := 0) (q := 102) dX4_uses7_101 (by decide) rfl ?_
          refine r_istore hC (q := 104) (L' := [_, _, _, _, _, _, _, _]) dX4_uses7_102 (Nat.le_of_ble_eq_true rfl) rfl rfl ?_
          refine r_iload hC (q := 106) dX4_uses7_104 rfl rfl ?_
          refine r_if_ne hC (q := 109) (t := 119) dX4_uses7_106 (by decide) rfl (fun h106 => ?_) (fun h106 => ?_)
          · skip
            exact absurd rfl h106
          · skip
            refine r_iload hC (q := 111) dX4_uses7_109 rfl rfl ?_
            refine r_if_ne hC (q := 114) (t := 119) dX4_uses7_111 (by decide) rfl (fun h111 => ?_) (fun h111 => ?_)
            · skip
              exact absurd rfl h111
            · skip
              refine r_iload hC (q := 116) dX4_uses7_114 rfl rfl ?_
              refine r_if_eq hC (q := 119) (t := 123) dX4_uses7_116 (by decide) rfl (fun h116 => ?_) (fun h116 => ?_)
              · skip
                refine r_iconst hC (x := 0) (q := 124) dX4_uses7_123 (by decide) rfl ?_
                exact hR _ _ _ _ dX4_uses7_124 ⟨by simp [us7m, mw, bI, h24, h49, h62, h75, h106, h111, h116], rfl⟩
              · skip
                exact absurd rfl h116
        · skip
          refine r_iload hC (q := 80) dX4_uses7_78 rfl rfl ?_
          refine r_iconst hC (x := 5) (q := 81) dX4_uses7_80 (by decide) rfl ?_
          refine r_icmp_gt hC (q := 84) (t := 101) dX4_uses7_81 (by decide) rfl (fun h81 => ?_) (fun h81 => ?_)
          · skip
            refine r_iconst hC (x := 0) (q := 102) dX4_uses7_101 (by decide) rfl ?_
            refine r_istore hC (q := 104) (L' := [_, _, _, _, _, _, _, _]) dX4_uses7_102 (Nat.le_of_ble_eq_true rfl) rfl rfl ?_
            refine r_iload hC (q := 106) dX4_uses7_104 rfl rfl ?_
            refine r_if_ne hC (q := 109) (t := 119) dX4_uses7_106 (by decide) rfl (fun h106 => ?_) (fun h106 => ?_)
            · skip
              exact absurd rfl h106
            · skip
              refine r_iload hC (q := 111) dX4_uses7_109 rfl rfl ?_
              refine r_if_ne hC (q := 114) (t := 119) dX4_uses7_111 (by decide) rfl (fun h111 => ?_) (fun h111 => ?_)
              · skip
                exact absurd rfl h111
              · skip
                refine r_iload hC (q := 116) dX4_uses7_114 rfl rfl ?_
                refine r_if_eq hC (q := 119) (t := 123) dX4_uses7_116 (by decide) rfl (fun h116 => ?_) (fun h116 => ?_)
                · skip
                  refine r_iconst hC (x := 0) (q := 124) dX4_uses7_123 (by decide) rfl ?_
                  exact hR _ _ _ _ dX4_uses7_124 ⟨by simp [us7m, mw, bI, h24, h49, h62, h75, h81, h106, h111, h116], rfl⟩
                · skip
                  exact absurd rfl h116
          · skip
            exact absurd (by rw [h24]; decide) h81
      · skip
        refine r_iconst hC (x := 1) (q := 66) dX4_uses7_65 (by decide) rfl ?_
        refine r_goto hC (t := 70) dX4_uses7_66 (by decide) ?_
        refine r_istore hC (q := 72) (L' := [_, _, _, _, _, _, _, _]) dX4_uses7_70 (Nat.le_of_ble_eq_true rfl) rfl rfl ?_
        refine r_iload hC (q := 74) dX4_uses7_72 rfl rfl ?_
        refine r_iconst hC (x := 2) (q := 75) dX4_uses7_74 (by decide) rfl ?_
        refine r_icmp_lt hC (q := 78) (t := 101) dX4_uses7_75 (by decide) rfl (fun h75 => ?_) (fun h75 => ?_)
        · skip
          refine r_iconst hC (x := 0) (q := 102) dX4_uses7_101 (by decide) rfl ?_
          refine r_istore hC (q := 104) (L' := [_, _, _, _, _, _, _, _]) dX4_uses7_102 (Nat.le_of_ble_eq_true rfl) rfl rfl ?_
          refine r_iload hC (q := 106) dX4_uses7_104 rfl rfl ?_
          refine r_if_ne hC (q := 109) (t := 119) dX4_uses7_106 (by decide) rfl (fun h106 => ?_) (fun h106 => ?_)
          · skip
            exact absurd rfl h106
          · skip
            refine r_iload hC (q := 111) dX4_uses7_109 rfl rfl ?_
            refine r_if_ne hC (q := 114) (t := 119) dX4_uses7_111 (by decide) rfl (fun h111 => ?_) (fun h111 => ?_)
            · skip
              refine r_iconst hC (x := 1) (q := 120) dX4_uses7_119 (by decide) rfl ?_
              refine r_goto hC (t := 124) dX4_uses7_120 (by decide) ?_
              exact hR _ _ _ _ dX4_uses7_124 ⟨by simp [us7m, mw, bI, h24, h49, h62, h75, h106, h111], rfl⟩
            · skip
              exact absurd h111 (by decide)
        · skip
          refine r_iload hC (q := 80) dX4_uses7_78 rfl rfl ?_
          refine r_iconst hC (x := 5) (q := 81) dX4_uses7_80 (by decide) rfl ?_
          refine r_icmp_gt hC (q := 84) (t := 101) dX4_uses7_81 (by decide) rfl (fun h81 => ?_) (fun h81 => ?_)
          · skip
            refine r_iconst hC (x := 0) (q := 102) dX4_uses7_101 (by decide) rfl ?_
            refine r_istore hC (q := 104) (L' := [_, _, _, _, _, _, _, _]) dX4_uses7_102 (Nat.le_of_ble_eq_true rfl) rfl rfl ?_
            refine r_iload hC (q := 106) dX4_uses7_104 rfl rfl ?_
            refine r_if_ne hC (q := 109) (t := 119) dX4_uses7_106 (by decide) rfl (fun h106 => ?_) (fun h106 => ?_)
            · skip
              exact absurd rfl h106
            · skip
              refine r_iload hC (q := 111) dX4_uses7_109 rfl rfl ?_
              refine r_if_ne hC (q := 114) (t := 119) dX4_uses7_111 (by decide) rfl (fun h111 => ?_) (fun h111 => ?_)
              · skip
                refine r_iconst hC (x := 1) (q := 120) dX4_uses7_119 (by decide) rfl ?_
                refine r_goto hC (t := 124) dX4_uses7_120 (by decide) ?_
                exact hR _ _ _ _ dX4_uses7_124 ⟨by simp [us7m, mw, bI, h24, h49, h62, h75, h81, h106, h111], rfl⟩
              · skip
                exact absurd h111 (by decide)
          · skip
            exact absurd (by rw [h24]; decide) h81
  · skip
    refine r_aload_n hC (q := 28) dX4_uses7_27 rfl rfl ?_
    refine g_X4 hC 0 i_X4 l_7 (by decide) (q := 31) dX4_uses7_28 rfl rfl ?_
    refine r_iload_n hC (q := 32) dX4_uses7_31 rfl rfl ?_
    refine r_iconst hC (x := 1) (q := 33) dX4_uses7_32 (by decide) rfl ?_
    refine r_iaddN hC (q := 34) (b := 1) dX4_uses7_33 rfl rfl rfl ?_
    refine r_iaN hC (q := 35) dX4_uses7_34 iA_271 rfl (by omega) rfl ?_
    refine r_bipush hC (x := 7) (q := 37) dX4_uses7_35 (by decide) rfl ?_
    refine r_icmp_ne hC (q := 40) (t := 44) dX4_uses7_37 (by decide) rfl (fun h37 => ?_) (fun h37 => ?_)
    · skip
      refine r_iconst hC (x := 0) (q := 45) dX4_uses7_44 (by decide) rfl ?_
      refine r_istore hC (q := 47) (L' := [_, _, _, _, _, _, _, _]) dX4_uses7_45 (Nat.le_of_ble_eq_true rfl) rfl rfl ?_
      refine r_iload hC (q := 49) dX4_uses7_47 rfl rfl ?_
      refine r_if_eq hC (q := 52) (t := 69) dX4_uses7_49 (by decide) rfl (fun h49 => ?_) (fun h49 => ?_)
      · skip
        refine r_iconst hC (x := 0) (q := 70) dX4_uses7_69 (by decide) rfl ?_
        refine r_istore hC (q := 72) (L' := [_, _, _, _, _, _, _, _]) dX4_uses7_70 (Nat.le_of_ble_eq_true rfl) rfl rfl ?_
        refine r_iload hC (q := 74) dX4_uses7_72 rfl rfl ?_
        refine r_iconst hC (x := 2) (q := 75) dX4_uses7_74 (by decide) rfl ?_
        refine r_icmp_lt hC (q := 78) (t := 101) dX4_uses7_75 (by decide) rfl (fun h75 => ?_) (fun h75 => ?_)
        · skip
          refine r_iconst hC (x := 0) (q := 102) dX4_uses7_101 (by decide) rfl ?_
          refine r_istore hC (q := 104) (L' := [_, _, _, _, _, _, _, _]) dX4_uses7_102 (Nat.le_of_ble_eq_true rfl) rfl rfl ?_
          refine r_iload hC (q := 106) dX4_uses7_104 rfl rfl ?_
          refine r_if_ne hC (q := 109) (t := 119) dX4_uses7_106 (by decide) rfl (fun h106 => ?_) (fun h106 => ?_)
          · skip
            exact absurd rfl h106
          · skip
            refine r_iload hC (q := 111) dX4_uses7_109 rfl rfl ?_
            refine r_if_ne hC (q := 114) (t := 119) dX4_uses7_111 (by decide) rfl (fun h111 => ?_) (fun h111 => ?_)
            · skip
              exact absurd rfl h111
            · skip
              refine r_iload hC (q := 116) dX4_uses7_114 rfl rfl ?_
              refine r_if_eq hC (q := 119) (t := 123) dX4_uses7_116 (by decide) rfl (fun h116 => ?_) (fun h116 => ?_)
              · skip
                refine r_iconst hC (x := 0) (q := 124) dX4_uses7_123 (by decide) rfl ?_
                exact hR _ _ _ _ dX4_uses7_124 ⟨by simp [us7m, mw, bI, h24, h37, h49, h75, h106, h111, h116], rfl⟩
              · skip
                exact absurd rfl h116
        · skip
          exact absurd (by rw [h49]; decide) h75
      · skip
        refine r_aload_n hC (q := 53) dX4_uses7_52 rfl rfl ?_
        refine g_X4 hC 0 i_X4 l_7 (by decide) (q := 56) dX4_uses7_53 rfl rfl ?_
        refine r_iload_n hC (q := 57) dX4_uses7_56 rfl rfl ?_
        refine r_iconst hC (x := 2) (q := 58) dX4_uses7_57 (by decide) rfl ?_
        refine r_iaddN hC (q := 59) (b := 2) dX4_uses7_58 rfl rfl rfl ?_
        refine r_iaN hC (q := 60) dX4_uses7_59 iA_271 rfl (by omega) rfl ?_
        refine r_bipush hC (x := 7) (q := 62) dX4_uses7_60 (by decide) rfl ?_
        refine r_icmp_ne hC (q := 65) (t := 69) dX4_uses7_62 (by decide) rfl (fun h62 => ?_) (fun h62 => ?_)
        · skip
          refine r_iconst hC (x := 0) (q := 70) dX4_uses7_69 (by decide) rfl ?_
          refine r_istore hC (q := 72) (L' := [_, _, _, _, _, _, _, _]) dX4_uses7_70 (Nat.le_of_ble_eq_true rfl) rfl rfl ?_
          refine r_iload hC (q := 74) dX4_uses7_72 rfl rfl ?_
          refine r_iconst hC (x := 2) (q := 75) dX4_uses7_74 (by decide) rfl ?_
          refine r_icmp_lt hC (q := 78) (t := 101) dX4_uses7_75 (by decide) rfl (fun h75 => ?_) (fun h75 => ?_)
          · skip
            refine r_iconst hC (x := 0) (q := 102) dX4_uses7_101 (by decide) rfl ?_
            refine r_istore hC (q := 104) (L' := [_, _, _, _, _, _, _, _]) dX4_uses7_102 (Nat.le_of_ble_eq_true rfl) rfl rfl ?_
            refine r_iload hC (q := 106) dX4_uses7_104 rfl rfl ?_
            refine r_if_ne hC (q := 109) (t := 119) dX4_uses7_106 (by decide) rfl (fun h106 => ?_) (fun h106 => ?_)
            · skip
              exact absurd rfl h106
            · skip
              refine r_iload hC (q := 111) dX4_uses7_109 rfl rfl ?_
              refine r_if_ne hC (q := 114) (t := 119) dX4_uses7_111 (by decide) rfl (fun h111 => ?_) (fun h111 => ?_)
              · skip
                exact absurd rfl h111
              · skip
                refine r_iload hC (q := 116) dX4_uses7_114 rfl rfl ?_
                refine r_if_eq hC (q := 119) (t := 123) dX4_uses7_116 (by decide) rfl (fun h116 => ?_) (fun h116 => ?_)
                · skip
                  refine r_iconst hC (x := 0) (q := 124) dX4_uses7_123 (by decide) rfl ?_
                  exact hR _ _ _ _ dX4_uses7_124 ⟨by simp [us7m, mw, bI, h24, h37, h49, h62, h75, h106, h111, h116], rfl⟩
                · skip
                  exact absurd rfl h116
          · skip
            refine r_iload hC (q := 80) dX4_uses7_78 rfl rfl ?_
            refine r_iconst hC (x := 5) (q := 81) dX4_uses7_80 (by decide) rfl ?_
            refine r_icmp_gt hC (q := 84) (t := 101) dX4_uses7_81 (by decide) rfl (fun h81 => ?_) (fun h81 => ?_)
            · skip
              refine r_iconst hC (x := 0) (q := 102) dX4_uses7_101 (by decide) rfl ?_
              refine r_istore hC (q := 104) (L' := [_, _, _, _, _, _, _, _]) dX4_uses7_102 (Nat.le_of_ble_eq_true rfl) rfl rfl ?_
              refine r_iload hC (q := 106) dX4_uses7_104 rfl rfl ?_
              refine r_if_ne hC (q := 109) (t := 119) dX4_uses7_106 (by decide) rfl (fun h106 => ?_) (fun h106 => ?_)
              · skip
                exact absurd rfl h106
              · skip
                refine r_iload hC (q := 111) dX4_uses7_109 rfl rfl ?_
                refine r_if_ne hC (q := 114) (t := 119) dX4_uses7_111 (by decide) rfl (fun h111 => ?_) (fun h111 => ?_)
                · skip
                  exact absurd rfl h111
                · skip
                  refine r_iload hC (q := 116) dX4_uses7_114 rfl rfl ?_
                  refine r_if_eq hC (q := 119) (t := 123) dX4_uses7_116 (by decide) rfl (fun h116 => ?_) (fun h116 => ?_)
                  · skip
                    refine r_iconst hC (x := 0) (q := 124) dX4_uses7_123 (by decide) rfl ?_
                    exact hR _ _ _ _ dX4_uses7_124 ⟨by simp [us7m, mw, bI, h24, h37, h49, h62, h75, h81, h106, h111, h116], rfl⟩
                  · skip
                    exact absurd rfl h116
            · skip
              refine r_aload_n hC (q := 85) dX4_uses7_84 rfl rfl ?_
              refine g_X4 hC 0 i_X4 l_7 (by decide) (q := 88) dX4_uses7_85 rfl rfl ?_
              refine r_iload_n hC (q := 89) dX4_uses7_88 rfl rfl ?_
              refine r_iconst hC (x := 3) (q := 90) dX4_uses7_89 (by decide) rfl ?_
              refine r_iaddN hC (q := 91) (b := 3) dX4_uses7_90 rfl rfl rfl ?_
              refine r_iaN hC (q := 92) dX4_uses7_91 iA_271 rfl (by omega) rfl ?_
              refine r_bipush hC (x := 7) (q := 94) dX4_uses7_92 (by decide) rfl ?_
              refine r_icmp_ne hC (q := 97) (t := 101) dX4_uses7_94 (by decide) rfl (fun h94 => ?_) (fun h94 => ?_)
              · skip
                refine r_iconst hC (x := 0) (q := 102) dX4_uses7_101 (by decide) rfl ?_
                refine r_istore hC (q := 104) (L' := [_, _, _, _, _, _, _, _]) dX4_uses7_102 (Nat.le_of_ble_eq_true rfl) rfl rfl ?_
                refine r_iload hC (q := 106) dX4_uses7_104 rfl rfl ?_
                refine r_if_ne hC (q := 109) (t := 119) dX4_uses7_106 (by decide) rfl (fun h106 => ?_) (fun h106 => ?_)
                · skip
                  exact absurd rfl h106
                · skip
                  refine r_iload hC (q := 111) dX4_uses7_109 rfl rfl ?_
                  refine r_if_ne hC (q := 114) (t := 119) dX4_uses7_111 (by decide) rfl (fun h111 => ?_) (fun h111 => ?_)
                  · skip
                    exact absurd rfl h111
                  · skip
                    refine r_iload hC (q := 116) dX4_uses7_114 rfl rfl ?_
                    refine r_if_eq hC (q := 119) (t := 123) dX4_uses7_116 (by decide) rfl (fun h116 => ?_) (fun h116 => ?_)
                    · skip
                      refine r_iconst hC (x := 0) (q := 124) dX4_uses7_123 (by decide) rfl ?_
                      exact hR _ _ _ _ dX4_uses7_124 ⟨by simp [us7m, mw, bI, h24, h37, h49, h62, h75, h81, h94, h106, h111, h116], rfl⟩
                    · skip
                      exact absurd rfl h116
              · skip
                refine r_iconst hC (x := 1) (q := 98) dX4_uses7_97 (by decide) rfl ?_
                refine r_goto hC (t := 102) dX4_uses7_98 (by decide) ?_
                refine r_istore hC (q := 104) (L' := [_, _, _, _, _, _, _, _]) dX4_uses7_102 (Nat.le_of_ble_eq_true rfl) rfl rfl ?_
                refine r_iload hC (q := 106) dX4_uses7_104 rfl rfl ?_
                refine r_if_ne hC (q := 109) (t := 119) dX4_uses7_106 (by decide) rfl (fun h106 => ?_) (fun h106 => ?_)
                · skip
                  exact absurd rfl h106
                · skip
                  refine r_iload hC (q := 111) dX4_uses7_109 rfl rfl ?_
                  refine r_if_ne hC (q := 114) (t := 119) dX4_uses7_111 (by decide) rfl (fun h111 => ?_) (fun h111 => ?_)
                  · skip
                    exact absurd rfl h111
                  · skip
                    refine r_iload hC (q := 116) dX4_uses7_114 rfl rfl ?_
                    refine r_if_eq hC (q := 119) (t := 123) dX4_uses7_116 (by decide) rfl (fun h116 => ?_) (fun h116 => ?_)
                    · skip
                      exact absurd h116 (by decide)
                    · skip
                      refine r_iconst hC (x := 1) (q := 120) dX4_uses7_119 (by decide) rfl ?_
                      refine r_goto hC (t := 124) dX4_uses7_120 (by decide) ?_
                      exact hR _ _ _ _ dX4_uses7_124 ⟨by simp [us7m, mw, bI, h24, h37, h49, h62, h75, h81, h94, h106, h111, h116], rfl⟩
        · skip
          refine r_iconst hC (x := 1) (q := 66) dX4_uses7_65 (by decide) rfl ?_
          refine r_goto hC (t := 70) dX4_uses7_66 (by decide) ?_
          refine r_istore hC (q := 72) (L' := [_, _, _, _, _, _, _, _]) dX4_uses7_70 (Nat.le_of_ble_eq_true rfl) rfl rfl ?_
          refine r_iload hC (q := 74) dX4_uses7_72 rfl rfl ?_
          refine r_iconst hC (x := 2) (q := 75) dX4_uses7_74 (by decide) rfl ?_
          refine r_icmp_lt hC (q := 78) (t := 101) dX4_uses7_75 (by decide) rfl (fun h75 => ?_) (fun h75 => ?_)
          · skip
            refine r_iconst hC (x := 0) (q := 102) dX4_uses7_101 (by decide) rfl ?_
            refine r_istore hC (q := 104) (L' := [_, _, _, _, _, _, _, _]) dX4_uses7_102 (Nat.le_of_ble_eq_true rfl) rfl rfl ?_
            refine r_iload hC (q := 106) dX4_uses7_104 rfl rfl ?_
            refine r_if_ne hC (q := 109) (t := 119) dX4_uses7_106 (by decide) rfl (fun h106 => ?_) (fun h106 => ?_)
            · skip
              exact absurd rfl h106
            · skip
              refine r_iload hC (q := 111) dX4_uses7_109 rfl rfl ?_
              refine r_if_ne hC (q := 114) (t := 119) dX4_uses7_111 (by decide) rfl (fun h111 => ?_) (fun h111 => ?_)
              · skip
                refine r_iconst hC (x := 1) (q := 120) dX4_uses7_119 (by decide) rfl ?_
                refine r_goto hC (t := 124) dX4_uses7_120 (by decide) ?_
                exact hR _ _ _ _ dX4_uses7_124 ⟨by simp [us7m, mw, bI, h24, h37, h49, h62, h75, h106, h111], rfl⟩
              · skip
                exact absurd h111 (by decide)
          · skip
            refine r_iload hC (q := 80) dX4_uses7_78 rfl rfl ?_
            refine r_iconst hC (x := 5) (q := 81) dX4_uses7_80 (by decide) rfl ?_
            refine r_icmp_gt hC (q := 84) (t := 101) dX4_uses7_81 (by decide) rfl (fun h81 => ?_) (fun h81 => ?_)
            · skip
              refine r_iconst hC (x := 0) (q := 102) dX4_uses7_101 (by decide) rfl ?_
              refine r_istore hC (q := 104) (L' := [_, _, _, _, _, _, _, _]) dX4_uses7_102 (Nat.le_of_ble_eq_true rfl) rfl rfl ?_
              refine r_iload hC (q := 106) dX4_uses7_104 rfl rfl ?_
              refine r_if_ne hC (q := 109) (t := 119) dX4_uses7_106 (by decide) rfl (fun h106 => ?_) (fun h106 => ?_)
              · skip
                exact absurd rfl h106
              · skip
                refine r_iload hC (q := 111) dX4_uses7_109 rfl rfl ?_
                refine r_if_ne hC (q := 114) (t := 119) dX4_uses7_111 (by decide) rfl (fun h111 => ?_) (fun h111 => ?_)
                · skip
                  refine r_iconst hC (x := 1) (q := 120) dX4_uses7_119 (by decide) rfl ?_
                  refine r_goto hC (t := 124) dX4_uses7_120 (by decide) ?_
                  exact hR _ _ _ _ dX4_uses7_124 ⟨by simp [us7m, mw, bI, h24, h37, h49, h62, h75, h81, h106, h111], rfl⟩
                · skip
                  exact absurd h111 (by decide)
            · skip
              refine r_aload_n hC (q := 85) dX4_uses7_84 rfl rfl ?_
              refine g_X4 hC 0 i_X4 l_7 (by decide) (q := 88) dX4_uses7_85 rfl rfl ?_
              refine r_iload_n hC (q := 89) dX4_uses7_88 rfl rfl ?_
              refine r_iconst hC (x := 3) (q := 90) dX4_uses7_89 (by decide) rfl ?_
              refine r_iaddN hC (q := 91) (b := 3) dX4_uses7_90 rfl rfl rfl ?_
              refine r_iaN hC (q := 92) dX4_uses7_91 iA_271 rfl (by omega) rfl ?_
              refine r_bipush hC (x := 7) (q := 94) dX4_uses7_92 (by decide) rfl ?_
              refine r_icmp_ne hC (q := 97) (t := 101) dX4_uses7_94 (by decide) rfl (fun h94 => ?_) (fun h94 => ?_)
              · skip
                refine r_iconst hC (x := 0) (q := 102) dX4_uses7_101 (by decide) rfl ?_
                refine r_istore hC (q := 104) (L' := [_, _, _, _, _, _, _, _]) dX4_uses7_102 (Nat.le_of_ble_eq_true rfl) rfl rfl ?_
                refine r_iload hC (q := 106) dX4_uses7_104 rfl rfl ?_
                refine r_if_ne hC (q := 109) (t := 119) dX4_uses7_106 (by decide) rfl (fun h106 => ?_) (fun h106 => ?_)
                · skip
                  exact absurd rfl h106
                · skip
                  refine r_iload hC (q := 111) dX4_uses7_109 rfl rfl ?_
                  refine r_if_ne hC (q := 114) (t := 119) dX4_uses7_111 (by decide) rfl (fun h111 => ?_) (fun h111 => ?_)
                  · skip
                    refine r_iconst hC (x := 1) (q := 120) dX4_uses7_119 (by decide) rfl ?_
                    refine r_goto hC (t := 124) dX4_uses7_120 (by decide) ?_
                    exact hR _ _ _ _ dX4_uses7_124 ⟨by simp [us7m, mw, bI, h24, h37, h49, h62, h75, h81, h94, h106, h111], rfl⟩
                  · skip
                    exact absurd h111 (by decide)
              · skip
                refine r_iconst hC (x := 1) (q := 98) dX4_uses7_97 (by decide) rfl ?_
                refine r_goto hC (t := 102) dX4_uses7_98 (by decide) ?_
                refine r_istore hC (q := 104) (L' := [_, _, _, _, _, _, _, _]) dX4_uses7_102 (Nat.le_of_ble_eq_true rfl) rfl rfl ?_
                refine r_iload hC (q := 106) dX4_uses7_104 rfl rfl ?_
                refine r_if_ne hC (q := 109) (t := 119) dX4_uses7_106 (by decide) rfl (fun h106 => ?_) (fun h106 => ?_)
                · skip
                  exact absurd rfl h106
                · skip
                  refine r_iload hC (q := 111) dX4_uses7_109 rfl rfl ?_
                  refine r_if_ne hC (q := 114) (t := 119) dX4_uses7_111 (by decide) rfl (fun h111 => ?_) (fun h111 => ?_)
                  · skip
                    refine r_iconst hC (x := 1) (q := 120) dX4_uses7_119 (by decide) rfl ?_
                    refine r_goto hC (t := 124) dX4_uses7_120 (by decide) ?_
                    exact hR _ _ _ _ dX4_uses7_124 ⟨by simp [us7m, mw, bI, h24, h37, h49, h62, h75, h81, h94, h106, h111], rfl⟩
                  · skip
                    exact absurd h111 (by decide)
    · skip
      refine r_iconst hC (x := 1) (q := 41) dX4_uses7_40 (by decide) rfl ?_
      refine r_goto hC (t := 45) dX4_uses7_41 (by decide) ?_
      refine r_istore hC (q := 47) (L' := [_, _, _, _, _, _, _, _]) dX4_uses7_45 (Nat.le_of_ble_eq_true rfl) rfl rfl ?_
      refine r_iload hC (q := 49) dX4_uses7_47 rfl rfl ?_
      refine r_if_eq hC (q := 52) (t := 69) dX4_uses7_49 (by decide) rfl (fun h49 => ?_) (fun h49 => ?_)
      · skip
        refine r_iconst hC (x := 0) (q := 70) dX4_uses7_69 (by decide) rfl ?_
        refine r_istore hC (q := 72) (L' := [_, _, _, _, _, _, _, _]) dX4_uses7_70 (Nat.le_of_ble_eq_true rfl) rfl rfl ?_
        refine r_iload hC (q := 74) dX4_uses7_72 rfl rfl ?_
        refine r_iconst hC (x := 2) (q := 75) dX4_uses7_74 (by decide) rfl ?_
        refine r_icmp_lt hC (q := 78) (t := 101) dX4_uses7_75 (by decide) rfl (fun h75 => ?_) (fun h75 => ?_)
        · skip
          refine r_iconst hC (x := 0) (q := 102) dX4_uses7_101 (by decide) rfl ?_
          refine r_istore hC (q := 104) (L' := [_, _, _, _, _, _, _, _]) dX4_uses7_102 (Nat.le_of_ble_eq_true rfl) rfl rfl ?_
          refine r_iload hC (q := 106) dX4_uses7_104 rfl rfl ?_
          refine r_if_ne hC (q := 109) (t := 119) dX4_uses7_106 (by decide) rfl (fun h106 => ?_) (fun h106 => ?_)
          · skip
            refine r_iconst hC (x := 1) (q := 120) dX4_uses7_119 (by decide) rfl ?_
            refine r_goto hC (t := 124) dX4_uses7_120 (by decide) ?_
            exact hR _ _ _ _ dX4_uses7_124 ⟨by simp [us7m, mw, bI, h24, h37, h49, h75, h106], rfl⟩
          · skip
            exact absurd h106 (by decide)
        · skip
          exact absurd (by rw [h49]; decide) h75
      · skip
        refine r_aload_n hC (q := 53) dX4_uses7_52 rfl rfl ?_
        refine g_X4 hC 0 i_X4 l_7 (by decide) (q := 56) dX4_uses7_53 rfl rfl ?_
        refine r_iload_n hC (q := 57) dX4_uses7_56 rfl rfl ?_
        refine r_iconst hC (x := 2) (q := 58) dX4_uses7_57 (by decide) rfl ?_
        refine r_iaddN hC (q := 59) (b := 2) dX4_uses7_58 rfl rfl rfl ?_
        refine r_iaN hC (q := 60) dX4_uses7_59 iA_271 rfl (by omega) rfl ?_
        refine r_bipush hC (x := 7) (q := 62) dX4_uses7_60 (by decide) rfl ?_
        refine r_icmp_ne hC (q := 65) (t := 69) dX4_uses7_62 (by decide) rfl (fun h62 => ?_) (fun h62 => ?_)
        · skip
          refine r_iconst hC (x := 0) (q := 70) dX4_uses7_69 (by decide) rfl ?_
          refine r_istore hC (q := 72) (L' := [_, _, _, _, _, _, _, _]) dX4_uses7_70 (Nat.le_of_ble_eq_true rfl) rfl rfl ?_
          refine r_iload hC (q := 74) dX4_uses7_72 rfl rfl ?_
          refine r_iconst hC (x := 2) (q := 75) dX4_uses7_74 (by decide) rfl ?_
          refine r_icmp_lt hC (q := 78) (t := 101) dX4_uses7_75 (by decide) rfl (fun h75 => ?_) (fun h75 => ?_)
          · skip
            refine r_iconst hC (x := 0) (q := 102) dX4_uses7_101 (by decide) rfl ?_
            refine r_istore hC (q := 104) (L' := [_, _, _, _, _, _, _, _]) dX4_uses7_102 (Nat.le_of_ble_eq_true rfl) rfl rfl ?_
            refine r_iload hC (q := 106) dX4_uses7_104 rfl rfl ?_
            refine r_if_ne hC (q := 109) (t := 119) dX4_uses7_106 (by decide) rfl (fun h106 => ?_) (fun h106 => ?_)
            · skip
              refine r_iconst hC (x := 1) (q := 120) dX4_uses7_119 (by decide) rfl ?_
              refine r_goto hC (t := 124) dX4_uses7_120 (by decide) ?_
              exact hR _ _ _ _ dX4_uses7_124 ⟨by simp [us7m, mw, bI, h24, h37, h49, h62, h75, h106], rfl⟩
            · skip
              exact absurd h106 (by decide)
          · skip
            refine r_iload hC (q := 80) dX4_uses7_78 rfl rfl ?_
            refine r_iconst hC (x := 5) (q := 81) dX4_uses7_80 (by decide) rfl ?_
            refine r_icmp_gt hC (q := 84) (t := 101) dX4_uses7_81 (by decide) rfl (fun h81 => ?_) (fun h81 => ?_)
            · skip
              refine r_iconst hC (x := 0) (q := 102) dX4_uses7_101 (by decide) rfl ?_
              refine r_istore hC (q := 104) (L' := [_, _, _, _, _, _, _, _]) dX4_uses7_102 (Nat.le_of_ble_eq_true rfl) rfl rfl ?_
              refine r_iload hC (q := 106) dX4_uses7_104 rfl rfl ?_
              refine r_if_ne hC (q := 109) (t := 119) dX4_uses7_106 (by decide) rfl (fun h106 => ?_) (fun h106 => ?_)
              · skip
                refine r_iconst hC (x := 1) (q := 120) dX4_uses7_119 (by decide) rfl ?_
                refine r_goto hC (t := 124) dX4_uses7_120 (by decide) ?_
                exact hR _ _ _ _ dX4_uses7_124 ⟨by simp [us7m, mw, bI, h24, h37, h49, h62, h75, h81, h106], rfl⟩
              · skip
                exact absurd h106 (by decide)
            · skip
              refine r_aload_n hC (q := 85) dX4_uses7_84 rfl rfl ?_
              refine g_X4 hC 0 i_X4 l_7 (by decide) (q := 88) dX4_uses7_85 rfl rfl ?_
              refine r_iload_n hC (q := 89) dX4_uses7_88 rfl rfl ?_
              refine r_iconst hC (x := 3) (q := 90) dX4_uses7_89 (by decide) rfl ?_
              refine r_iaddN hC (q := 91) (b := 3) dX4_uses7_90 rfl rfl rfl ?_
              refine r_iaN hC (q := 92) dX4_uses7_91 iA_271 rfl (by omega) rfl ?_
              refine r_bipush hC (x := 7) (q := 94) dX4_uses7_92 (by decide) rfl ?_
              refine r_icmp_ne hC (q := 97) (t := 101) dX4_uses7_94 (by decide) rfl (fun h94 => ?_) (fun h94 => ?_)
              · skip
                refine r_iconst hC (x := 0) (q := 102) dX4_uses7_101 (by decide) rfl ?_
                refine r_istore hC (q := 104) (L' := [_, _, _, _, _, _, _, _]) dX4_uses7_102 (Nat.le_of_ble_eq_true rfl) rfl rfl ?_
                refine r_iload hC (q := 106) dX4_uses7_104 rfl rfl ?_
                refine r_if_ne hC (q := 109) (t := 119) dX4_uses7_106 (by decide) rfl (fun h106 => ?_) (fun h106 => ?_)
                · skip
                  refine r_iconst hC (x := 1) (q := 120) dX4_uses7_119 (by decide) rfl ?_
                  refine r_goto hC (t := 124) dX4_uses7_120 (by decide) ?_
                  exact hR _ _ _ _ dX4_uses7_124 ⟨by simp [us7m, mw, bI, h24, h37, h49, h62, h75, h81, h94, h106], rfl⟩
                · skip
                  exact absurd h106 (by decide)
              · skip
                refine r_iconst hC (x := 1) (q := 98) dX4_uses7_97 (by decide) rfl ?_
                refine r_goto hC (t := 102) dX4_uses7_98 (by decide) ?_
                refine r_istore hC (q := 104) (L' := [_, _, _, _, _, _, _, _]) dX4_uses7_102 (Nat.le_of_ble_eq_true rfl) rfl rfl ?_
                refine r_iload hC (q := 106) dX4_uses7_104 rfl rfl ?_
                refine r_if_ne hC (q := 109) (t := 119) dX4_uses7_106 (by decide) rfl (fun h106 => ?_) (fun h106 => ?_)
                · skip
                  refine r_iconst hC (x := 1) (q := 120) dX4_uses7_119 (by decide) rfl ?_
                  refine r_goto hC (t := 124) dX4_uses7_120 (by decide) ?_
                  exact hR _ _ _ _ dX4_uses7_124 ⟨by simp [us7m, mw, bI, h24, h37, h49, h62, h75, h81, h94, h106], rfl⟩
                · skip
                  exact absurd h106 (by decide)
        · skip
          refine r_iconst hC (x := 1) (q := 66) dX4_uses7_65 (by decide) rfl ?_
          refine r_goto hC (t := 70) dX4_uses7_66 (by decide) ?_
          refine r_istore hC (q := 72) (L' := [_, _, _, _, _, _, _, _]) dX4_uses7_70 (Nat.le_of_ble_eq_true rfl) rfl rfl ?_
          refine r_iload hC (q := 74) dX4_uses7_72 rfl rfl ?_
          refine r_iconst hC (x := 2) (q := 75) dX4_uses7_74 (by decide) rfl ?_
          refine r_icmp_lt hC (q := 78) (t := 101) dX4_uses7_75 (by decide) rfl (fun h75 => ?_) (fun h75 => ?_)
          · skip
            refine r_iconst hC (x := 0) (q := 102) dX4_uses7_101 (by decide) rfl ?_
            refine r_istore hC (q := 104) (L' := [_, _, _, _, _, _, _, _]) dX4_uses7_102 (Nat.le_of_ble_eq_true rfl) rfl rfl ?_
            refine r_iload hC (q := 106) dX4_uses7_104 rfl rfl ?_
            refine r_if_ne hC (q := 109) (t := 119) dX4_uses7_106 (by decide) rfl (fun h106 => ?_) (fun h106 => ?_)
            · skip
              refine r_iconst hC (x := 1) (q := 120) dX4_uses7_119 (by decide) rfl ?_
              refine r_goto hC (t := 124) dX4_uses7_120 (by decide) ?_
              exact hR _ _ _ _ dX4_uses7_124 ⟨by simp [us7m, mw, bI, h24, h37, h49, h62, h75, h106], rfl⟩
            · skip
              exact absurd h106 (by decide)
          · skip
            refine r_iload hC (q := 80) dX4_uses7_78 rfl rfl ?_
            refine r_iconst hC (x := 5) (q := 81) dX4_uses7_80 (by decide) rfl ?_
            refine r_icmp_gt hC (q := 84) (t := 101) dX4_uses7_81 (by decide) rfl (fun h81 => ?_) (fun h81 => ?_)
            · skip
              refine r_iconst hC (x := 0) (q := 102) dX4_uses7_101 (by decide) rfl ?_
              refine r_istore hC (q := 104) (L' := [_, _, _, _, _, _, _, _]) dX4_uses7_102 (Nat.le_of_ble_eq_true rfl) rfl rfl ?_
              refine r_iload hC (q := 106) dX4_uses7_104 rfl rfl ?_
              refine r_if_ne hC (q := 109) (t := 119) dX4_uses7_106 (by decide) rfl (fun h106 => ?_) (fun h106 => ?_)
              · skip
                refine r_iconst hC (x := 1) (q := 120) dX4_uses7_119 (by decide) rfl ?_
                refine r_goto hC (t := 124) dX4_uses7_120 (by decide) ?_
                exact hR _ _ _ _ dX4_uses7_124 ⟨by simp [us7m, mw, bI, h24, h37, h49, h62, h75, h81, h106], rfl⟩
              · skip
                exact absurd h106 (by decide)
            · skip
              refine r_aload_n hC (q := 85) dX4_uses7_84 rfl rfl ?_
              refine g_X4 hC 0 i_X4 l_7 (by decide) (q := 88) dX4_uses7_85 rfl rfl ?_
              refine r_iload_n hC (q := 89) dX4_uses7_88 rfl rfl ?_
              refine r_iconst hC (x := 3) (q := 90) dX4_uses7_89 (by decide) rfl ?_
              refine r_iaddN hC (q := 91) (b := 3) dX4_uses7_90 rfl rfl rfl ?_
              refine r_iaN hC (q := 92) dX4_uses7_91 iA_271 rfl (by omega) rfl ?_
              refine r_bipush hC (x := 7) (q := 94) dX4_uses7_92 (by decide) rfl ?_
              refine r_icmp_ne hC (q := 97) (t := 101) dX4_uses7_94 (by decide) rfl (fun h94 => ?_) (fun h94 => ?_)
              · skip
                refine r_iconst hC (x := 0) (q := 102) dX4_uses7_101 (by decide) rfl ?_
                refine r_istore hC (q := 104) (L' := [_, _, _, _, _, _, _, _]) dX4_uses7_102 (Nat.le_of_ble_eq_true rfl) rfl rfl ?_
                refine r_iload hC (q := 106) dX4_uses7_104 rfl rfl ?_
                refine r_if_ne hC (q := 109) (t := 119) dX4_uses7_106 (by decide) rfl (fun h106 => ?_) (fun h106 => ?_)
                · skip
                  refine r_iconst hC (x := 1) (q := 120) dX4_uses7_119 (by decide) rfl ?_
                  refine r_goto hC (t := 124) dX4_uses7_120 (by decide) ?_
                  exact hR _ _ _ _ dX4_uses7_124 ⟨by simp [us7m, mw, bI, h24, h37, h49, h62, h75, h81, h94, h106], rfl⟩
                · skip
                  exact absurd h106 (by decide)
              · skip
                refine r_iconst hC (x := 1) (q := 98) dX4_uses7_97 (by decide) rfl ?_
                refine r_goto hC (t := 102) dX4_uses7_98 (by decide) ?_
                refine r_istore hC (q := 104) (L' := [_, _, _, _, _, _, _, _]) dX4_uses7_102 (Nat.le_of_ble_eq_true rfl) rfl rfl ?_
                refine r_iload hC (q := 106) dX4_uses7_104 rfl rfl ?_
                refine r_if_ne hC (q := 109) (t := 119) dX4_uses7_106 (by decide) rfl (fun h106 => ?_) (fun h106 => ?_)
                · skip
                  refine r_iconst hC (x := 1) (q := 120) dX4_uses7_119 (by decide) rfl ?_
                  refine r_goto hC (t := 124) dX4_uses7_120 (by decide) ?_
                  exact hR _ _ _ _ dX4_uses7_124 ⟨by simp [us7m, mw, bI, h24, h37, h49, h62, h75, h81, h94, h106], rfl⟩
                · skip
                  exact absurd h106 (by decide)
theorem c_X4_uses7 (l : Launch) {G : GG} {v : VV} {c : Nat} {a t : Nat} (hM : MW (v 271) c) (ha : a < c) (ht1 : 1 ≤ t) (hta : t ≤ mnb (v 271) a) : MtI l G yX4_uses7 wsX4_uses7 2 41 [.ref (G.1 270), .int (nI a), .int (nI t)] v (fun r v' => r = bI (us7m (mw (v 271) a) t) ∧ v = v') := mt_int (Or.inr ⟨rfl, fun r v' h => by rw [h.1]; exact ite01 _⟩) (by decide) rfl (by simp [Value.category]) (Nat.le_of_ble_eq_true rfl) rfl rfl (fun E hC hR => b_X4_uses7 hC hR hM ha ht1 hta)

set_option maxRecDepth 100000 in
set_option maxHeartbeats 4000000 in
theorem b_X4_canDiffer {E : TE} {G : GG} {v : VV} {c : Nat} {a b t : Nat} (hC : Cx E G cX4_canDiffer RX4 6 wsX4_canDiffer 2 41) (hR : RtI E G cX4_canDiffer (fun r v' => r = bI (sctb (mw (v 271) a) (mw (v 271) b) t) ∧ v = v')) (hM : MW (v 271) c) (ha : a < c) (hb : b < c) (ht1 : 1 ≤ t) (hta : t ≤ mnb (v 271) a) (htb : t ≤ mnb (v 271) b) : Wv E G v 0 [some (.ref (G.1 270)), some (.int (nI a)), some (.int (nI b)), some (.int (nI t)), none, none] [] := by
  have h12 := hM.2.1
  have hna := (hM.2.2 a ha).2
  have hnb := (hM.2.2 b hb).2
  have i_X4 : ∀ w ∈ wsX40, w ∈ wsX4_canDiffer := by decide +kernel
  have l_7 : lnk E RX4 7 (TX4 0) := hC.fl (by decide +kernel)
  refine r_iload_n hC (q := 1) dX4_canDiffer_0 rfl rfl ?_
  refine r_aload_n hC (q := 2) dX4_canDiffer_1 rfl rfl ?_
  refine r_iload_n hC (q := 3) dX4_canDiffer_2 rfl rfl ?_
  refine r_cVI hC (q := 6) (n := 1) (As := [_]) (fun lch => c_X4_many lch (by omega)) gX4_canDiffer_X4_many rfl (by decide +kernel) ⟨by decide, by decide⟩ ob_270 rfl rfl rfl rfl (Nat.le_of_ble_eq_true rfl) dX4_canDiffer_3 rfl ?_
  rintro _ _ ⟨rfl, rfl⟩
  refine r_top (y := nI (mnb (v 271) a)) (hM.2.2 a (by omega)).1 ?_
  refine r_iload_n hC (q := 7) dX4_canDiffer_6 rfl rfl ?_
  refine r_isubN hC (q := 8) dX4_canDiffer_7 rfl rfl (by omega) rfl ?_
  refine r_cSI hC (q := 11) (n := 2) (As := [_, _]) (fun lch => c_X4_at lch ) gX4_canDiffer_X4_at rfl (by decide +kernel) ⟨by decide, by decide⟩ rfl rfl rfl (Nat.le_of_ble_eq_true rfl) dX4_canDiffer_8 rfl ?_
  rintro _ _ ⟨rfl, rfl⟩
  refine r_istore hC (q := 13) (L' := [_, _, _, _, _, _]) dX4_canDiffer_11 (Nat.le_of_ble_eq_true rfl) rfl rfl ?_
  refine r_iload_n hC (q := 14) dX4_canDiffer_13 rfl rfl ?_
  refine r_aload_n hC (q := 15) dX4_canDiffer_14 rfl rfl ?_
  refine r_iload_n hC (q := 16) dX4_canDiffer_15 rfl rfl ?_
  refine r_cVI hC (q := 19) (n := 1) (As := [_]) (fun lch => c_X4_many lch (by omega)) gX4_canDiffer_X4_many rfl (by decide +kernel) ⟨by decide, by decide⟩ ob_270 rfl rfl rfl rfl (Nat.le_of_ble_eq_true rfl) dX4_canDiffer_16 rfl ?_
  rintro _ _ ⟨rfl, rfl⟩
  refine r_top (y := nI (mnb (v 271) b)) (hM.2.2 b (by omega)).1 ?_
  refine r_iload_n hC (q := 20) dX4_canDiffer_19 rfl rfl ?_
  refine r_isubN hC (q := 21) dX4_canDiffer_20 rfl rfl (by omega) rfl ?_
  refine r_cSI hC (q := 24) (n := 2) (As := [_, _]) (fun lch => c_X4_at lch ) gX4_canDiffer_X4_at rfl (by decide +kernel) ⟨by decide, by decide⟩ rfl rfl rfl (Nat.le_of_ble_eq_true rfl) dX4_canDiffer_21 rfl ?_
  rintro _ _ ⟨rfl, rfl⟩
  refine r_istore hC (q := 26) (L' := [_, _, _, _, _, _]) dX4_canDiffer_24 (Nat.le_of_ble_eq_true rfl) rfl rfl ?_
  refine r_aload_n hC (q := 27) dX4_canDiffer_26 rfl rfl ?_
  refine g_X4 hC 0 i_X4 l_7 (by decide) (q := 30) dX4_canDiffer_27 rfl rfl ?_
  refine r_iload hC (q := 32) dX4_canDiffer_30 rfl rfl ?_
  refine r_iaN hC (q := 33) dX4_canDiffer_32 iA_271 rfl (by omega) rfl ?_
  refine r_if_ne hC (q := 36) (t := 71) dX4_canDiffer_33 (by decide) rfl (fun h33 => ?_) (fun h33 => ?_)
  · skip
    refine r_iconst hC (x := 0) (q := 72) dX4_canDiffer_71 (by decide) rfl ?_
    exact hR _ _ _ _ dX4_canDiffer_72 ⟨by exact bI_f sctb_iff (by simp [sct, mw, h33]), rfl⟩
  · skip
    refine r_aload_n hC (q := 37) dX4_canDiffer_36 rfl rfl ?_
    refine g_X4 hC 0 i_X4 l_7 (by decide) (q := 40) dX4_canDiffer_37 rfl rfl ?_
    refine r_iload hC (q := 42) dX4_canDiffer_40 rfl rfl ?_
    refine r_iaN hC (q := 43) dX4_canDiffer_42 iA_271 rfl (by omega) rfl ?_
    refine r_if_ne hC (q := 46) (t := 71) dX4_canDiffer_43 (by decide) rfl (fun h43 => ?_) (fun h43 => ?_)
    · skip
      refine r_iconst hC (x := 0) (q := 72) dX4_canDiffer_71 (by decide) rfl ?_
      exact hR _ _ _ _ dX4_canDiffer_72 ⟨by exact bI_f sctb_iff (by simp [sct, mw, h33, h43]), rfl⟩
    · skip
      refine r_aload_n hC (q := 47) dX4_canDiffer_46 rfl rfl ?_
      refine g_X4 hC 0 i_X4 l_7 (by decide) (q := 50) dX4_canDiffer_47 rfl rfl ?_
      refine r_iload hC (q := 52) dX4_canDiffer_50 rfl rfl ?_
      refine r_iconst hC (x := 1) (q := 53) dX4_canDiffer_52 (by decide) rfl ?_
      refine r_iaddN hC (q := 54) (b := 1) dX4_canDiffer_53 rfl rfl rfl ?_
      refine r_iaN hC (q := 55) dX4_canDiffer_54 iA_271 rfl (by omega) rfl ?_
      refine r_aload_n hC (q := 56) dX4_canDiffer_55 rfl rfl ?_
      refine g_X4 hC 0 i_X4 l_7 (by decide) (q := 59) dX4_canDiffer_56 rfl rfl ?_
      refine r_iload hC (q := 61) dX4_canDiffer_59 rfl rfl ?_
      refine r_iconst hC (x := 1) (q := 62) dX4_canDiffer_61 (by decide) rfl ?_
      refine r_iaddN hC (q := 63) (b := 1) dX4_canDiffer_62 rfl rfl rfl ?_
      refine r_iaN hC (q := 64) dX4_canDiffer_63 iA_271 rfl (by omega) rfl ?_
      refine r_icmp_ne hC (q := 67) (t := 71) dX4_canDiffer_64 (by decide) rfl (fun h64 => ?_) (fun h64 => ?_)
      · skip
        refine r_iconst hC (x := 0) (q := 72) dX4_canDiffer_71 (by decide) rfl ?_
        exact hR _ _ _ _ dX4_canDiffer_72 ⟨by exact bI_f sctb_iff (by simp [sct, mw, h33, h43, h64]), rfl⟩
      · skip
        refine r_iconst hC (x := 1) (q := 68) dX4_canDiffer_67 (by decide) rfl ?_
        refine r_goto hC (t := 72) dX4_canDiffer_68 (by decide) ?_
        exact hR _ _ _ _ dX4_canDiffer_72 ⟨by exact bI_t sctb_iff (by simp [sct, mw, h33, h43, h64]), rfl⟩
theorem c_X4_canDiffer (l : Launch) {G : GG} {v : VV} {c : Nat} {a b t : Nat} (hM : MW (v 271) c) (ha : a < c) (hb : b < c) (ht1 : 1 ≤ t) (hta : t ≤ mnb (v 271) a) (htb : t ≤ mnb (v 271) b) : MtI l G yX4_canDiffer wsX4_canDiffer 2 41 [.ref (G.1 270), .int (nI a), .int (nI b), .int (nI t)] v (fun r v' => r = bI (sctb (mw (v 271) a) (mw (v 271) b) t) ∧ v = v') := mt_int (Or.inr ⟨rfl, fun r v' h => by rw [h.1]; exact ite01 _⟩) (by decide) rfl (by simp [Value.category]) (Nat.le_of_ble_eq_true rfl) rfl rfl (fun E hC hR => b_X4_canDiffer hC hR hM ha hb ht1 hta htb)
