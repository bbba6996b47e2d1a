theorem q_opd1 {c : Nat} {B : Nat → Bv} {x y : Int32} {n : Nat} (h : inb x c = true) (hn : (if (B (tn x)).2.2 0 = 1 then 3 else 1) = n) (hy : inb y n = true) : q_opd c B x y = (B (tn x)).2.2 (tn y + 1) := by
  rw [q_opd, if_pos h, hn, if_pos hy]
theorem q_opd2 {c : Nat} {B : Nat → Bv} {x y : Int32} {n : Nat} (h : inb x c = true) (hn : (if (B (tn x)).2.2 0 = 1 then 3 else 1) = n) (hy : ¬ inb y n = true) : q_opd c B x y = -1008 := by
  rw [q_opd, if_pos h, hn, if_neg hy]
theorem q_hash1 {c : Nat} {B : Nat → Bv} {x y : Int32} {n : Nat} (h : inb x c = true) (hn : (B (tn x)).1 = n) (hy : inb y (n + 1) = true) : q_hash c B x y = hsh (B (tn x)) (tn y) := by
  rw [q_hash, if_pos h, hn, if_pos hy]
theorem q_hash2 {c : Nat} {B : Nat → Bv} {x y : Int32} {n : Nat} (h : inb x c = true) (hn : (B (tn x)).1 = n) (hy : ¬ inb y (n + 1) = true) : q_hash c B x y = -1003 := by
  rw [q_hash, if_pos h, hn, if_neg hy]
theorem inb_lt {y : Int32} {n : Nat} (h1 : ¬ y < 0) (h2 : y < nI n) : inb y n = true := inb_iff.mpr ⟨h1, Int32.not_le.mpr h2⟩
theorem inb_n1 {y : Int32} {n : Nat} (h1 : y < 0) : ¬ inb y n = true := fun e => (inb_iff.mp e).1 h1
theorem inb_n2 {y : Int32} {n : Nat} (h1 : ¬ y < nI n) : ¬ inb y n = true := fun e => (inb_iff.mp e).2 (Int32.not_lt.mp h1)
theorem inb_le {y : Int32} {n : Nat} (hn : n + 1 < 2 ^ 31) (h1 : ¬ y < 0) (h2 : y ≤ nI n) : inb y (n + 1) = true := by
  refine inb_iff.mpr ⟨h1, fun e => ?_⟩
  rw [Int32.le_iff_toInt_le] at h2 e
  rw [nI_toInt (by omega)] at h2 e
  omega
theorem inb_n3 {y : Int32} {n : Nat} (hn : n + 1 < 2 ^ 31) (h1 : ¬ y ≤ nI n) : ¬ inb y (n + 1) = true := by
  intro e
  apply (inb_iff.mp e).2
  rw [Int32.le_iff_toInt_le] at h1 ⊢
  rw [nI_toInt (by omega)] at h1 ⊢
  omega

set_option maxRecDepth 100000 in
set_option maxHeartbeats 4000000 in
theorem b_X3_terminatorOperand {E : TE} {G : GG} {v : VV} {c : Nat} {x y : Int32} (hC : Cx E G cX3_terminatorOperand RX3 5 wsX3_terminatorOperand 1 21) (hR : RtI E G cX3_terminatorOperand (fun r v' => r = q_opd c (pv v 1) x y ∧ v = v')) (hW : PW v 1 c) : Wv E G v 0 [some (.ref (G.1 0)), some (.int x), some (.int y), none, none] [] := by
  have h12 := hW.2.1
  have i_X0 : ∀ w ∈ wsX00, w ∈ wsX3_terminatorOperand := by decide +kernel
  have i_X2 : ∀ w ∈ wsX20, w ∈ wsX3_terminatorOperand := by decide +kernel
  have i_X3 : ∀ w ∈ wsX30, w ∈ wsX3_terminatorOperand := by decide +kernel
  have l_10 : lnk E RX3 10 (TX3 0) := hC.fl (by decide +kernel)
  have l_43 : lnk E RX3 43 (TX2 0) := hC.nf 18 rfl
  have l_85 : lnk E RX3 85 (TX0 6) := hC.nf 14 rfl
  have l_88 : lnk E RX3 88 (TX0 7) := hC.nf 16 rfl
  refine r_aload_n hC (q := 1) dX3_terminatorOperand_0 rfl rfl ?_
  refine g_X3 hC 0 i_X3 l_10 (by decide) (q := 4) dX3_terminatorOperand_1 rfl rfl ?_
  refine r_iload_n hC (q := 5) dX3_terminatorOperand_4 rfl rfl ?_
  refine r_cNI hC (q := 8) (n := 1) (As := [_]) (fun lch => c_X2_has lch isPr_1 hW.1) ggX3_terminatorOperand_X2_has rfl 5 rfl (by decide +kernel) (by decide +kernel) (by decide +kernel) (by decide +kernel) ⟨by decide, by decide⟩ (ob_p isPr_1) rfl rfl rfl rfl (Nat.le_of_ble_eq_true rfl) dX3_terminatorOperand_5 rfl ?_
  rintro _ _ ⟨rfl, rfl⟩
  refine r_if_neB hC (q := 11) (t := 15) dX3_terminatorOperand_8 (by decide) rfl (fun h8 => ?_) (fun h8 => ?_)
  · obtain ⟨ex, bx⟩ := inb_tn (by have := hW.2.1; omega) h8
    refine r_aload_n hC (q := 16) dX3_terminatorOperand_15 rfl rfl ?_
    refine g_X3 hC 0 i_X3 l_10 (by decide) (q := 19) dX3_terminatorOperand_16 rfl rfl ?_
    refine g_X2 hC 0 i_X2 l_43 (by decide) (q := 22) dX3_terminatorOperand_19 isPr_1 rfl rfl ?_
    refine r_iload_n hC (q := 23) dX3_terminatorOperand_22 rfl rfl ?_
    refine r_top (y := nI (tn x)) ex ?_
    refine r_aBN hC (q := 24) dX3_terminatorOperand_23 isPr_1 rfl (by omega) rfl ?_
    refine r_astore_n hC (q := 25) (L' := [_, _, _, _, _]) dX3_terminatorOperand_24 (Nat.le_of_ble_eq_true rfl) rfl rfl ?_
    refine r_aload_n hC (q := 26) dX3_terminatorOperand_25 rfl rfl ?_
    refine g_X0 hC 6 i_X0 l_85 (by decide) (q := 29) dX3_terminatorOperand_26 (isBk_of isPr_1 (by omega)) rfl rfl ?_
    refine r_iconst hC (x := 1) (q := 30) dX3_terminatorOperand_29 (by decide) rfl ?_
    refine r_icmp_ne hC (q := 33) (t := 37) dX3_terminatorOperand_30 (by decide) rfl (fun h30 => ?_) (fun h30 => ?_)
    · skip
      refine r_iconst hC (x := 1) (q := 38) dX3_terminatorOperand_37 (by decide) rfl ?_
      refine r_istore hC (q := 40) (L' := [_, _, _, _, _]) dX3_terminatorOperand_38 (Nat.le_of_ble_eq_true rfl) rfl rfl ?_
      refine r_iload_n hC (q := 41) dX3_terminatorOperand_40 rfl rfl ?_
      refine r_if_lt hC (q := 44) (t := 50) dX3_terminatorOperand_41 (by decide) rfl (fun h41 => ?_) (fun h41 => ?_)
      · skip
        refine r_sipush hC (x := (-1008)) (q := 53) dX3_terminatorOperand_50 (by decide) rfl ?_
        exact hR _ _ _ _ dX3_terminatorOperand_53 ⟨(q_opd2 (B := pv v 1) (n := 1) h8 (if_neg h30) (inb_n1 h41)).symm, rfl⟩
      · skip
        refine r_iload_n hC (q := 45) dX3_terminatorOperand_44 rfl rfl ?_
        refine r_iload hC (q := 47) dX3_terminatorOperand_45 rfl rfl ?_
        refine r_icmp_lt hC (q := 50) (t := 54) dX3_terminatorOperand_47 (by decide) rfl (fun h47 => ?_) (fun h47 => ?_)
        · skip
          refine r_aload_n hC (q := 55) dX3_terminatorOperand_54 rfl rfl ?_
          refine g_X0 hC 7 i_X0 l_88 (by decide) (q := 58) dX3_terminatorOperand_55 (isBk_of isPr_1 (by omega)) rfl rfl ?_
          refine r_iload_n hC (q := 59) dX3_terminatorOperand_58 rfl rfl ?_
          refine r_top (y := nI (tn y)) (inb_tn (c := 1) (by omega) (inb_lt h41 h47)).1 ?_
          refine r_iaN hC (q := 60) dX3_terminatorOperand_59 (iA_b6 (isBk_of isPr_1 (by omega))) rfl (by have := (inb_tn (c := 1) (by omega) (inb_lt h41 h47)).2; omega) rfl ?_
          exact hR _ _ _ _ dX3_terminatorOperand_60 ⟨(q_opd1 (B := pv v 1) (n := 1) h8 (if_neg h30) (inb_lt h41 h47)).symm, rfl⟩
        · skip
          refine r_sipush hC (x := (-1008)) (q := 53) dX3_terminatorOperand_50 (by decide) rfl ?_
          exact hR _ _ _ _ dX3_terminatorOperand_53 ⟨(q_opd2 (B := pv v 1) (n := 1) h8 (if_neg h30) (inb_n2 h47)).symm, rfl⟩
    · skip
      refine r_iconst hC (x := 3) (q := 34) dX3_terminatorOperand_33 (by decide) rfl ?_
      refine r_goto hC (t := 38) dX3_terminatorOperand_34 (by decide) ?_
      refine r_istore hC (q := 40) (L' := [_, _, _, _, _]) dX3_terminatorOperand_38 (Nat.le_of_ble_eq_true rfl) rfl rfl ?_
      refine r_iload_n hC (q := 41) dX3_terminatorOperand_40 rfl rfl ?_
      refine r_if_lt hC (q := 44) (t := 50) dX3_terminatorOperand_41 (by decide) rfl (fun h41 => ?_) (fun h41 => ?_)
      · skip
        refine r_sipush hC (x := (-1008)) (q := 53) dX3_terminatorOperand_50 (by decide) rfl ?_
        exact hR _ _ _ _ dX3_terminatorOperand_53 ⟨(q_opd2 (B := pv v 1) (n := 3) h8 (if_pos h30) (inb_n1 h41)).symm, rfl⟩
      · skip
        refine r_iload_n hC (q := 45) dX3_terminatorOperand_44 rfl rfl ?_
        refine r_iload hC (q := 47) dX3_terminatorOperand_45 rfl rfl ?_
        refine r_icmp_lt hC (q := 50) (t := 54) dX3_terminatorOperand_47 (by decide) rfl (fun h47 => ?_) (fun h47 => ?_)
        · skip
          refine r_aload_n hC (q := 55) dX3_terminatorOperand_54 rfl rfl ?_
          refine g_X0 hC 7 i_X0 l_88 (by decide) (q := 58) dX3_terminatorOperand_55 (isBk_of isPr_1 (by omega)) rfl rfl ?_
          refine r_iload_n hC (q := 59) dX3_terminatorOperand_58 rfl rfl ?_
          refine r_top (y := nI (tn y)) (inb_tn (c := 3) (by omega) (inb_lt h41 h47)).1 ?_
          refine r_iaN hC (q := 60) dX3_terminatorOperand_59 (iA_b6 (isBk_of isPr_1 (by omega))) rfl (by have := (inb_tn (c := 3) (by omega) (inb_lt h41 h47)).2; omega) rfl ?_
          exact hR _ _ _ _ dX3_terminatorOperand_60 ⟨(q_opd1 (B := pv v 1) (n := 3) h8 (if_pos h30) (inb_lt h41 h47)).symm, rfl⟩
        · skip
          refine r_sipush hC (x := (-1008)) (q := 53) dX3_terminatorOperand_50 (by decide) rfl ?_
          exact hR _ _ _ _ dX3_terminatorOperand_53 ⟨(q_opd2 (B := pv v 1) (n := 3) h8 (if_pos h30) (inb_n2 h47)).symm, rfl⟩
  · skip
    refine r_sipush hC (x := (-1001)) (q := 14) dX3_terminatorOperand_11 (by decide) rfl ?_
    exact hR _ _ _ _ dX3_terminatorOperand_14 ⟨by rw [q_opd, if_neg h8], rfl⟩
theorem c_X3_terminatorOperand (l : Launch) {G : GG} {v : VV} {c : Nat} {x y : Int32} (hW : PW v 1 c) : MtI l G yX3_terminatorOperand wsX3_terminatorOperand 1 21 [.ref (G.1 0), .int x, .int y] v (fun r v' => r = q_opd c (pv v 1) x y ∧ v = v') := mt_int (Or.inl rfl) (by decide) rfl (by simp [Value.category]) (Nat.le_of_ble_eq_true rfl) rfl rfl (fun E hC hR => b_X3_terminatorOperand hC hR hW)

set_option maxRecDepth 100000 in
set_option maxHeartbeats 4000000 in
theorem b_X3_tailHash {E : TE} {G : GG} {v : VV} {c : Nat} {x y : Int32} (hC : Cx E G cX3_tailHash RX3 4 wsX3_tailHash 1 23) (hR : RtI E G cX3_tailHash (fun r v' => r = q_hash c (pv v 1) x y ∧ v = v')) (hW : PW v 1 c) : Wv E G v 0 [some (.ref (G.1 0)), some (.int x), some (.int y), none] [] := by
  have h12 := hW.2.1
  have i_X0 : ∀ w ∈ wsX00, w ∈ wsX3_tailHash := by decide +kernel
  have i_X2 : ∀ w ∈ wsX20, w ∈ wsX3_tailHash := by decide +kernel
  have i_X3 : ∀ w ∈ wsX30, w ∈ wsX3_tailHash := by decide +kernel
  have l_10 : lnk E RX3 10 (TX3 0) := hC.fl (by decide +kernel)
  have l_43 : lnk E RX3 43 (TX2 0) := hC.nf 18 rfl
  have l_64 : lnk E RX3 64 (TX0 5) := hC.nf 11 rfl
  refine r_aload_n hC (q := 1) dX3_tailHash_0 rfl rfl ?_
  refine g_X3 hC 0 i_X3 l_10 (by decide) (q := 4) dX3_tailHash_1 rfl rfl ?_
  refine r_iload_n hC (q := 5) dX3_tailHash_4 rfl rfl ?_
  refine r_cNI hC (q := 8) (n := 1) (As := [_]) (fun lch => c_X2_has lch isPr_1 hW.1) ggX3_tailHash_X2_has rfl 5 rfl (by decide +kernel) (by decide +kernel) (by decide +kernel) (by decide +kernel) ⟨by decide, by decide⟩ (ob_p isPr_1) rfl rfl rfl rfl (Nat.le_of_ble_eq_true rfl) dX3_tailHash_5 rfl ?_
  rintro _ _ ⟨rfl, rfl⟩
  refine r_if_neB hC (q := 11) (t := 15) dX3_tailHash_8 (by decide) rfl (fun h8 => ?_) (fun h8 => ?_)
  · obtain ⟨ex, bx⟩ := inb_tn (by have := hW.2.1; omega) h8; have hn := (hW.2.2 _ bx).2
    refine r_aload_n hC (q := 16) dX3_tailHash_15 rfl rfl ?_
    refine g_X3 hC 0 i_X3 l_10 (by decide) (q := 19) dX3_tailHash_16 rfl rfl ?_
    refine g_X2 hC 0 i_X2 l_43 (by decide) (q := 22) dX3_tailHash_19 isPr_1 rfl rfl ?_
    refine r_iload_n hC (q := 23) dX3_tailHash_22 rfl rfl ?_
    refine r_top (y := nI (tn x)) ex ?_
    refine r_aBN hC (q := 24) dX3_tailHash_23 isPr_1 rfl (by omega) rfl ?_
    refine r_astore_n hC (q := 25) (L' := [_, _, _, _]) dX3_tailHash_24 (Nat.le_of_ble_eq_true rfl) rfl rfl ?_
    refine r_iload_n hC (q := 26) dX3_tailHash_25 rfl rfl ?_
    refine r_if_lt hC (q := 29) (t := 37) dX3_tailHash_26 (by decide) rfl (fun h26 => ?_) (fun h26 => ?_)
    · skip
      refine r_sipush hC (x := (-1003)) (q := 40) dX3_tailHash_37 (by decide) rfl ?_
      exact hR _ _ _ _ dX3_tailHash_40 ⟨(q_hash2 (B := pv v 1) (n := nb v 1 (tn x)) h8 rfl (inb_n1 h26)).symm, rfl⟩
    · skip
      refine r_iload_n hC (q := 30) dX3_tailHash_29 rfl rfl ?_
      refine r_aload_n hC (q := 31) dX3_tailHash_30 rfl rfl ?_
      refine g_X0 hC 5 i_X0 l_64 (by decide) (q := 34) dX3_tailHash_31 (isBk_of isPr_1 (by omega)) rfl rfl ?_
      refine r_top (y := nI (nb v 1 (tn x))) (hW.2.2 _ bx).1 ?_
      refine r_icmp_le hC (q := 37) (t := 41) dX3_tailHash_34 (by decide) rfl (fun h34 => ?_) (fun h34 => ?_)
      · obtain ⟨ey, by1⟩ := inb_tn (c := nb v 1 (tn x) + 1) (by omega) (inb_le (by omega) h26 h34)
        refine r_aload_n hC (q := 42) dX3_tailHash_41 rfl rfl ?_
        refine r_iload_n hC (q := 43) dX3_tailHash_42 rfl rfl ?_
        refine r_top (y := nI (tn y)) ey ?_
        refine r_cNI hC (q := 46) (n := 1) (As := [_]) (fun lch => c_X0_hashOfTail lch (n := nb v 1 (tn x)) (isBk_of isPr_1 (by omega)) (hW.2.2 _ bx).1 hn (by omega)) ggX3_tailHash_X0_hashOfTail rfl 8 rfl (by decide +kernel) (by decide +kernel) (by decide +kernel) (by decide +kernel) ⟨by decide, by decide⟩ (ob_b (isBk_of isPr_1 (by omega))) rfl rfl rfl rfl (Nat.le_of_ble_eq_true rfl) dX3_tailHash_43 rfl ?_
        rintro _ _ ⟨rfl, rfl⟩
        exact hR _ _ _ _ dX3_tailHash_46 ⟨(q_hash1 (B := pv v 1) (n := nb v 1 (tn x)) h8 rfl (inb_le (by omega) h26 h34)).symm, rfl⟩
      · skip
        refine r_sipush hC (x := (-1003)) (q := 40) dX3_tailHash_37 (by decide) rfl ?_
        exact hR _ _ _ _ dX3_tailHash_40 ⟨(q_hash2 (B := pv v 1) (n := nb v 1 (tn x)) h8 rfl (inb_n3 (by omega) h34)).symm, rfl⟩
  · skip
    refine r_sipush hC (x := (-1001)) (q := 14) dX3_tailHash_11 (by decide) rfl ?_
    exact hR _ _ _ _ dX3_tailHash_14 ⟨by rw [q_hash, if_neg h8], rfl⟩
theorem c_X3_tailHash (l : Launch) {G : GG} {v : VV} {c : Nat} {x y : Int32} (hW : PW v 1 c) : MtI l G yX3_tailHash wsX3_tailHash 1 23 [.ref (G.1 0), .int x, .int y] v (fun r v' => r = q_hash c (pv v 1) x y ∧ v = v') := mt_int (Or.inl rfl) (by decide) rfl (by simp [Value.category]) (Nat.le_of_ble_eq_true rfl) rfl rfl (fun E hC hR => b_X3_tailHash hC hR hW)

set_option maxRecDepth 100000 in
set_option maxHeartbeats 4000000 in
theorem b_X3_pairError {E : TE} {G : GG} {v : VV} {c : Nat} {x y : Int32} (hC : Cx E G cX3_pairError RX3 3 wsX3_pairError 1 21) (hR : RtI E G cX3_pairError (fun r v' => r = q_pair c x y ∧ v = v')) (hW : PW v 1 c) : Wv E G v 0 [some (.ref (G.1 0)), some (.int x), some (.int y)] [] := by
  have i_X3 : ∀ w ∈ wsX30, w ∈ wsX3_pairError := by decide +kernel
  have l_10 : lnk E RX3 10 (TX3 0) := hC.fl (by decide +kernel)
  refine r_aload_n hC (q := 1) dX3_pairError_0 rfl rfl ?_
  refine g_X3 hC 0 i_X3 l_10 (by decide) (q := 4) dX3_pairError_1 rfl rfl ?_
  refine r_iload_n hC (q := 5) dX3_pairError_4 rfl rfl ?_
  refine r_cNI hC (q := 8) (n := 1) (As := [_]) (fun lch => c_X2_has lch isPr_1 hW.1) ggX3_pairError_X2_has rfl 5 rfl (by decide +kernel) (by decide +kernel) (by decide +kernel) (by decide +kernel) ⟨by decide, by decide⟩ (ob_p isPr_1) rfl rfl rfl rfl (Nat.le_of_ble_eq_true rfl) dX3_pairError_5 rfl ?_
  rintro _ _ ⟨rfl, rfl⟩
  refine r_if_eqB hC (q := 11) (t := 22) dX3_pairError_8 (by decide) rfl (fun h8 => ?_) (fun h8 => ?_)
  · skip
    refine r_sipush hC (x := (-1001)) (q := 25) dX3_pairError_22 (by decide) rfl ?_
    exact hR _ _ _ _ dX3_pairError_25 ⟨by rw [q_pair, if_neg (by simp [h8])], rfl⟩
  · skip
    refine r_aload_n hC (q := 12) dX3_pairError_11 rfl rfl ?_
    refine g_X3 hC 0 i_X3 l_10 (by decide) (q := 15) dX3_pairError_12 rfl rfl ?_
    refine r_iload_n hC (q := 16) dX3_pairError_15 rfl rfl ?_
    refine r_cNI hC (q := 19) (n := 1) (As := [_]) (fun lch => c_X2_has lch isPr_1 hW.1) ggX3_pairError_X2_has rfl 5 rfl (by decide +kernel) (by decide +kernel) (by decide +kernel) (by decide +kernel) ⟨by decide, by decide⟩ (ob_p isPr_1) rfl rfl rfl rfl (Nat.le_of_ble_eq_true rfl) dX3_pairError_16 rfl ?_
    rintro _ _ ⟨rfl, rfl⟩
    refine r_if_neB hC (q := 22) (t := 26) dX3_pairError_19 (by decide) rfl (fun h19 => ?_) (fun h19 => ?_)
    · skip
      refine r_iload_n hC (q := 27) dX3_pairError_26 rfl rfl ?_
      refine r_iload_n hC (q := 28) dX3_pairError_27 rfl rfl ?_
      refine r_icmp_ne hC (q := 31) (t := 37) dX3_pairError_28 (by decide) rfl (fun h28 => ?_) (fun h28 => ?_)
      · skip
        refine r_iconst hC (x := 0) (q := 38) dX3_pairError_37 (by decide) rfl ?_
        exact hR _ _ _ _ dX3_pairError_38 ⟨by rw [q_pair, if_pos (by simp [h8, h19]), if_neg h28], rfl⟩
      · skip
        refine r_sipush hC (x := (-1003)) (q := 34) dX3_pairError_31 (by decide) rfl ?_
        refine r_goto hC (t := 38) dX3_pairError_34 (by decide) ?_
        exact hR _ _ _ _ dX3_pairError_38 ⟨by rw [q_pair, if_pos (by simp [h8, h19]), if_pos h28], rfl⟩
    · skip
      refine r_sipush hC (x := (-1001)) (q := 25) dX3_pairError_22 (by decide) rfl ?_
      exact hR _ _ _ _ dX3_pairError_25 ⟨by rw [q_pair, if_neg (by simp [h8, h19])], rfl⟩
theorem c_X3_pairError (l : Launch) {G : GG} {v : VV} {c : Nat} {x y : Int32} (hW : PW v 1 c) : MtI l G yX3_pairError wsX3_pairError 1 21 [.ref (G.1 0), .int x, .int y] v (fun r v' => r = q_pair c x y ∧ v = v') := mt_int (Or.inl rfl) (by decide) rfl (by simp [Value.category]) (Nat.le_of_ble_eq_true rfl) rfl rfl (fun E hC hR => b_X3_pairError hC hR hW)

theorem q_pair0 {c : Nat} {x y : Int32} (h : q_pair c x y = 0) : inb x c = true ∧ inb y c = true ∧ x ≠ y := by
  unfold q_pair at h
  by_cases h1 : (inb x c && inb y c) = true
  · rw [if_pos h1] at h
    rw [Bool.and_eq_true] at h1
    by_cases h2 : x = y
    · rw [if_pos h2] at h; exact absurd h (by decide)
    · exact ⟨h1.1, h1.2, h2⟩
  · rw [if_neg h1] at h; exact absurd h (by decide)
theorem q_two0 {F : Bv → Bv → Int32} {c : Nat} {B : Nat → Bv} {x y : Int32} (h : q_pair c x y = 0) : q_two F c B x y = F (B (tn x)) (B (tn y)) := by
  obtain ⟨h1, h2, h3⟩ := q_pair0 h
  rw [q_two, if_pos (by simp [h1, h2]), if_neg h3]
theorem q_two1 {F : Bv → Bv → Int32} {c : Nat} {B : Nat → Bv} {x y : Int32} (h : ¬ q_pair c x y = 0) : q_pair c x y = q_two F c B x y := by
  unfold q_pair q_two at *
  by_cases h1 : (inb x c && inb y c) = true
  · rw [if_pos h1] at h ⊢
    rw [if_pos h1]
    by_cases h2 : x = y
    · rw [if_pos h2, if_pos h2]
    · rw [if_neg h2] at h; exact absurd rfl h
  · rw [if_neg h1, if_neg h1]

set_option maxRecDepth 100000 in
set_option maxHeartbeats 4000000 in
theorem b_X3_commonTail {E : TE} {G : GG} {v : VV} {c : Nat} {x y : Int32} (hC : Cx E G cX3_commonTail RX3 4 wsX3_commonTail 2 47) (hR : RtI E G cX3_commonTail (fun r v' => r = q_two tl c (pv v 1) x y ∧ v = v')) (hW : PW v 1 c) : Wv E G v 0 [some (.ref (G.1 0)), some (.int x), some (.int y), none] [] := by
  have h12 := hW.2.1
  have i_X2 : ∀ w ∈ wsX20, w ∈ wsX3_commonTail := by decide +kernel
  have i_X3 : ∀ w ∈ wsX30, w ∈ wsX3_commonTail := by decide +kernel
  have l_10 : lnk E RX3 10 (TX3 0) := hC.fl (by decide +kernel)
  have l_43 : lnk E RX3 43 (TX2 0) := hC.nf 18 rfl
  refine r_aload_n hC (q := 1) dX3_commonTail_0 rfl rfl ?_
  refine r_iload_n hC (q := 2) dX3_commonTail_1 rfl rfl ?_
  refine r_iload_n hC (q := 3) dX3_commonTail_2 rfl rfl ?_
  refine r_cVI hC (q := 6) (n := 2) (As := [_, _]) (fun lch => c_X3_pairError lch hW) gX3_commonTail_X3_pairError rfl (by decide +kernel) ⟨by decide, by decide⟩ ob_0 rfl rfl rfl rfl (Nat.le_of_ble_eq_true rfl) dX3_commonTail_3 rfl ?_
  rintro _ _ ⟨rfl, rfl⟩
  refine r_istore_n hC (q := 7) (L' := [_, _, _, _]) dX3_commonTail_6 (Nat.le_of_ble_eq_true rfl) rfl rfl ?_
  refine r_iload_n hC (q := 8) dX3_commonTail_7 rfl rfl ?_
  refine r_if_eq hC (q := 11) (t := 15) dX3_commonTail_8 (by decide) rfl (fun h8 => ?_) (fun h8 => ?_)
  · obtain ⟨hx1, hy1, hxy⟩ := q_pair0 h8; obtain ⟨ex, bx⟩ := inb_tn (by omega) hx1; obtain ⟨ey, by1⟩ := inb_tn (by omega) hy1
    refine r_aload_n hC (q := 16) dX3_commonTail_15 rfl rfl ?_
    refine g_X3 hC 0 i_X3 l_10 (by decide) (q := 19) dX3_commonTail_16 rfl rfl ?_
    refine g_X2 hC 0 i_X2 l_43 (by decide) (q := 22) dX3_commonTail_19 isPr_1 rfl rfl ?_
    refine r_iload_n hC (q := 23) dX3_commonTail_22 rfl rfl ?_
    refine r_top (y := nI (tn x)) ex ?_
    refine r_aBN hC (q := 24) dX3_commonTail_23 isPr_1 rfl (by omega) rfl ?_
    refine r_aload_n hC (q := 25) dX3_commonTail_24 rfl rfl ?_
    refine g_X3 hC 0 i_X3 l_10 (by decide) (q := 28) dX3_commonTail_25 rfl rfl ?_
    refine g_X2 hC 0 i_X2 l_43 (by decide) (q := 31) dX3_commonTail_28 isPr_1 rfl rfl ?_
    refine r_iload_n hC (q := 32) dX3_commonTail_31 rfl rfl ?_
    refine r_top (y := nI (tn y)) ey ?_
    refine r_aBN hC (q := 33) dX3_commonTail_32 isPr_1 rfl (by omega) rfl ?_
    refine r_cNI hC (q := 36) (n := 1) (As := [_]) (fun lch => c_X0_tailSharedWith lch (n := nb v 1 (tn x)) (n2 := nb v 1 (tn y)) (isBk_of isPr_1 (by omega)) (isBk_of isPr_1 (by omega)) (hW.2.2 _ bx).1 (hW.2.2 _ by1).1 (hW.2.2 _ bx).2 (hW.2.2 _ by1).2) ggX3_commonTail_X0_tailSharedWith rfl 9 rfl (by decide +kernel) (by decide +kernel) (by decide +kernel) (by decide +kernel) ⟨by decide, by decide⟩ (ob_b (isBk_of isPr_1 (by omega))) rfl rfl rfl rfl (Nat.le_of_ble_eq_true rfl) dX3_commonTail_33 rfl ?_
    rintro _ _ ⟨rfl, rfl⟩
    exact hR _ _ _ _ dX3_commonTail_36 ⟨(q_two0 (F := tl) (B := pv v 1) h8).symm, rfl⟩
  · skip
    refine r_iload_n hC (q := 12) dX3_commonTail_11 rfl rfl ?_
    refine r_goto hC (t := 36) dX3_commonTail_12 (by decide) ?_
    exact hR _ _ _ _ dX3_commonTail_36 ⟨q_two1 (F := tl) h8, rfl⟩
theorem c_X3_commonTail (l : Launch) {G : GG} {v : VV} {c : Nat} {x y : Int32} (hW : PW v 1 c) : MtI l G yX3_commonTail wsX3_commonTail 2 47 [.ref (G.1 0), .int x, .int y] v (fun r v' => r = q_two tl c (pv v 1) x y ∧ v = v') := mt_int (Or.inl rfl) (by decide) rfl (by simp [Value.category]) (Nat.le_of_ble_eq_true rfl) rfl rfl (fun E hC hR => b_X3_commonTail hC hR hW)

set_option maxRecDepth 100000 in
set_option maxHeartbeats 4000000 in
theorem b_X3_parameterTail {E : TE} {G : GG} {v : VV} {c : Nat} {x y : Int32} (hC : Cx E G cX3_parameterTail RX3 4 wsX3_parameterTail 3 71) (hR : RtI E G cX3_parameterTail (fun r v' => r = q_two pt c (pv v 1) x y ∧ v = v')) (hW : PW v 1 c) : Wv E G v 0 [some (.ref (G.1 0)), some (.int x), some (.int y), none] [] := by
  have h12 := hW.2.1
  have i_X2 : ∀ w ∈ wsX20, w ∈ wsX3_parameterTail := by decide +kernel
  have i_X3 : ∀ w ∈ wsX30, w ∈ wsX3_parameterTail := by decide +kernel
  have l_10 : lnk E RX3 10 (TX3 0) := hC.fl (by decide +kernel)
  have l_43 : lnk E RX3 43 (TX2 0) := hC.nf 18 rfl
  refine r_aload_n hC (q := 1) dX3_parameterTail_0 rfl rfl ?_
  refine r_iload_n hC (q := 2) dX3_parameterTail_1 rfl rfl ?_
  refine r_iload_n hC (q := 3) dX3_parameterTail_2 rfl rfl ?_
  refine r_cVI hC (q := 6) (n := 2) (As := [_, _]) (fun lch => c_X3_pairError lch hW) gX3_parameterTail_X3_pairError rfl (by decide +kernel) ⟨by decide, by decide⟩ ob_0 rfl rfl rfl rfl (Nat.le_of_ble_eq_true rfl) dX3_parameterTail_3 rfl ?_
  rintro _ _ ⟨rfl, rfl⟩
  refine r_istore_n hC (q := 7) (L' := [_, _, _, _]) dX3_parameterTail_6 (Nat.le_of_ble_eq_true rfl) rfl rfl ?_
  refine r_iload_n hC (q := 8) dX3_parameterTail_7 rfl rfl ?_
  refine r_if_eq hC (q := 11) (t := 15) dX3_parameterTail_8 (by decide) rfl (fun h8 => ?_) (fun h8 => ?_)
  · obtain ⟨hx1, hy1, hxy⟩ := q_pair0 h8; obtain ⟨ex, bx⟩ := inb_tn (by omega) hx1; obtain ⟨ey, by1⟩ := inb_tn (by omega) hy1
    refine r_aload_n hC (q := 16) dX3_parameterTail_15 rfl rfl ?_
    refine g_X3 hC 0 i_X3 l_10 (by decide) (q := 19) dX3_parameterTail_16 rfl rfl ?_
    refine g_X2 hC 0 i_X2 l_43 (by decide) (q := 22) dX3_parameterTail_19 isPr_1 rfl rfl ?_
    refine r_iload_n hC (q := 23) dX3_parameterTail_22 rfl rfl ?_
    refine r_top (y := nI (tn x)) ex ?_
    refine r_aBN hC (q := 24) dX3_parameterTail_23 isPr_1 rfl (by omega) rfl ?_
    refine r_aload_n hC (q := 25) dX3_parameterTail_24 rfl rfl ?_
    refine g_X3 hC 0 i_X3 l_10 (by decide) (q := 28) dX3_parameterTail_25 rfl rfl ?_
    refine g_X2 hC 0 i_X2 l_43 (by decide) (q := 31) dX3_parameterTail_28 isPr_1 rfl rfl ?_
    refine r_iload_n hC (q := 32) dX3_parameterTail_31 rfl rfl ?_
    refine r_top (y := nI (tn y)) ey ?_
    refine r_aBN hC (q := 33) dX3_parameterTail_32 isPr_1 rfl (by omega) rfl ?_
    refine r_cNI hC (q := 36) (n := 1) (As := [_]) (fun lch => c_X0_parameterTailWith lch (n := nb v 1 (tn x)) (n2 := nb v 1 (tn y)) (isBk_of isPr_1 (by omega)) (isBk_of isPr_1 (by omega)) (hW.2.2 _ bx).1 (hW.2.2 _ by1).1 (hW.2.2 _ bx).2 (hW.2.2 _ by1).2) ggX3_parameterTail_X0_parameterTailWith rfl 10 rfl (by decide +kernel) (by decide +kernel) (by decide +kernel) (by decide +kernel) ⟨by decide, by decide⟩ (ob_b (isBk_of isPr_1 (by omega))) rfl rfl rfl rfl (Nat.le_of_ble_eq_true rfl) dX3_parameterTail_33 rfl ?_
    rintro _ _ ⟨rfl, rfl⟩
    exact hR _ _ _ _ dX3_parameterTail_36 ⟨(q_two0 (F := pt) (B := pv v 1) h8).symm, rfl⟩
  · skip
    refine r_iload_n hC (q := 12) dX3_parameterTail_11 rfl rfl ?_
    refine r_goto hC (t := 36) dX3_parameterTail_12 (by decide) ?_
    exact hR _ _ _ _ dX3_parameterTail_36 ⟨q_two1 (F := pt) h8, rfl⟩
theorem c_X3_parameterTail (l : Launch) {G : GG} {v : VV} {c : Nat} {x y : Int32} (hW : PW v 1 c) : MtI l G yX3_parameterTail wsX3_parameterTail 3 71 [.ref (G.1 0), .int x, .int y] v (fun r v' => r = q_two pt c (pv v 1) x y ∧ v = v') := mt_int (Or.inl rfl) (by decide) rfl (by simp [Value.category]) (Nat.le_of_ble_eq_true rfl) rfl rfl (fun E hC hR => b_X3_parameterTail hC hR hW)

set_option maxRecDepth 100000 in
set_option maxHeartbeats 4000000 in
theorem b_X3_setJumpCost {E : TE} {G : GG} {v : VV} {x : Int32} (hC : Cx E G cX3_setJumpCost RX3 3 wsX3_setJumpCost 0 0) (hR : RtI E G cX3_setJumpCost (fun r v' => r = (if inb x 6 = true then v 1 2 else -1003) ∧ v' = (if inb x 6 = true then u2 v 1 2 x else v)))  : Wv E G v 0 [some (.ref (G.1 0)), some (.int x), none] [] := by
  have i_X2 : ∀ w ∈ wsX20, w ∈ wsX3_setJumpCost := by decide +kernel
  have i_X3 : ∀ w ∈ wsX30, w ∈ wsX3_setJumpCost := by decide +kernel
  have l_10 : lnk E RX3 10 (TX3 0) := hC.fl (by decide +kernel)
  have l_105 : lnk E RX3 105 (TX2 2) := hC.nf 20 rfl
  refine r_iload_n hC (q := 1) dX3_setJumpCost_0 rfl rfl ?_
  refine r_if_lt hC (q := 4) (t := 9) dX3_setJumpCost_1 (by decide) rfl (fun h1 => ?_) (fun h1 => ?_)
  · skip
    refine r_sipush hC (x := (-1003)) (q := 12) dX3_setJumpCost_9 (by decide) rfl ?_
    exact hR _ _ _ _ dX3_setJumpCost_12 ⟨by rw [if_neg (inb_n1 h1)], by rw [if_neg (inb_n1 h1)]⟩
  · skip
    refine r_iload_n hC (q := 5) dX3_setJumpCost_4 rfl rfl ?_
    refine r_iconst hC (x := 5) (q := 6) dX3_setJumpCost_5 (by decide) rfl ?_
    refine r_icmp_le hC (q := 9) (t := 13) dX3_setJumpCost_6 (by decide) rfl (fun h6 => ?_) (fun h6 => ?_)
    · skip
      refine r_aload_n hC (q := 14) dX3_setJumpCost_13 rfl rfl ?_
      refine g_X3 hC 0 i_X3 l_10 (by decide) (q := 17) dX3_setJumpCost_14 rfl rfl ?_
      refine g_X2 hC 2 i_X2 l_105 (by decide) (q := 20) dX3_setJumpCost_17 isPr_1 rfl rfl ?_
      refine r_istore_n hC (q := 21) (L' := [_, _, _]) dX3_setJumpCost_20 (Nat.le_of_ble_eq_true rfl) rfl rfl ?_
      refine r_aload_n hC (q := 22) dX3_setJumpCost_21 rfl rfl ?_
      refine g_X3 hC 0 i_X3 l_10 (by decide) (q := 25) dX3_setJumpCost_22 rfl rfl ?_
      refine r_iload_n hC (q := 26) dX3_setJumpCost_25 rfl rfl ?_
      refine p_X2_2 hC i_X2 l_105 (q := 29) dX3_setJumpCost_26 isPr_1 rfl ?_
      refine r_iload_n hC (q := 30) dX3_setJumpCost_29 rfl rfl ?_
      exact hR _ _ _ _ dX3_setJumpCost_30 ⟨by rw [if_pos (inb_le (n := 5) (by omega) h1 h6)], by rw [if_pos (inb_le (n := 5) (by omega) h1 h6)]⟩
    · skip
      refine r_sipush hC (x := (-1003)) (q := 12) dX3_setJumpCost_9 (by decide) rfl ?_
      exact hR _ _ _ _ dX3_setJumpCost_12 ⟨by rw [if_neg (inb_n3 (n := 5) (by omega) h6)], by rw [if_neg (inb_n3 (n := 5) (by omega) h6)]⟩
theorem c_X3_setJumpCost (l : Launch) {G : GG} {v : VV} {x : Int32}  : MtI l G yX3_setJumpCost wsX3_setJumpCost 0 0 [.ref (G.1 0), .int x] v (fun r v' => r = (if inb x 6 = true then v 1 2 else -1003) ∧ v' = (if inb x 6 = true then u2 v 1 2 x else v)) := mt_int (Or.inl rfl) (by decide) rfl (by simp [Value.category]) (Nat.le_of_ble_eq_true rfl) rfl rfl (fun E hC hR => b_X3_setJumpCost hC hR )

set_option maxRecDepth 100000 in
set_option maxHeartbeats 4000000 in
theorem b_X3_codeSize {E : TE} {G : GG} {v : VV} {c : Nat}  (hC : Cx E G cX3_codeSize RX3 1 wsX3_codeSize 2 43) (hR : RtI E G cX3_codeSize (fun r v' => r = szF v 1 c 0 0 ∧ v = v')) (hW : PW v 1 c) : Wv E G v 0 [some (.ref (G.1 0))] [] := by
  have i_X3 : ∀ w ∈ wsX30, w ∈ wsX3_codeSize := by decide +kernel
  have l_10 : lnk E RX3 10 (TX3 0) := hC.fl (by decide +kernel)
  refine r_aload_n hC (q := 1) dX3_codeSize_0 rfl rfl ?_
  refine g_X3 hC 0 i_X3 l_10 (by decide) (q := 4) dX3_codeSize_1 rfl rfl ?_
  refine r_cNI hC (q := 7) (n := 0) (As := []) (fun lch => c_X2_size lch isPr_1 hW.1 hW.2.1) ggX3_codeSize_X2_size rfl 11 rfl (by decide +kernel) (by decide +kernel) (by decide +kernel) (by decide +kernel) ⟨by decide, by decide⟩ (ob_p isPr_1) rfl rfl rfl rfl (Nat.le_of_ble_eq_true rfl) dX3_codeSize_4 rfl ?_
  rintro _ _ ⟨rfl, rfl⟩
  exact hR _ _ _ _ dX3_codeSize_7 ⟨rfl, rfl⟩
theorem c_X3_codeSize (l : Launch) {G : GG} {v : VV} {c : Nat}  (hW : PW v 1 c) : MtI l G yX3_codeSize wsX3_codeSize 2 43 [.ref (G.1 0)] v (fun r v' => r = szF v 1 c 0 0 ∧ v = v') := mt_int (Or.inl rfl) (by decide) rfl (by simp [Value.category]) (Nat.le_of_ble_eq_true rfl) rfl rfl (fun E hC hR => b_X3_codeSize hC hR hW)

set_option maxRecDepth 100000 in
set_option maxHeartbeats 4000000 in
theorem b_X3_bestTail {E : TE} {G : GG} {v : VV} {c : Nat}  (hC : Cx E G cX3_bestTail RX3 1 wsX3_bestTail 4 96) (hR : RtI E G cX3_bestTail (fun r v' => r = (boF 1 c c 0 (-1008) 0 v).1 ∧ v' = (boF 1 c c 0 (-1008) 0 v).2)) (hW : PW v 1 c) : Wv E G v 0 [some (.ref (G.1 0))] [] := by
  have i_X3 : ∀ w ∈ wsX30, w ∈ wsX3_bestTail := by decide +kernel
  have l_10 : lnk E RX3 10 (TX3 0) := hC.fl (by decide +kernel)
  refine r_aload_n hC (q := 1) dX3_bestTail_0 rfl rfl ?_
  refine g_X3 hC 0 i_X3 l_10 (by decide) (q := 4) dX3_bestTail_1 rfl rfl ?_
  refine r_cNI hC (q := 7) (n := 0) (As := []) (fun lch => c_X2_bestSet lch isPr_1 hW) ggX3_bestTail_X2_bestSet rfl 15 rfl (by decide +kernel) (by decide +kernel) (by decide +kernel) (by decide +kernel) ⟨by decide, by decide⟩ (ob_p isPr_1) rfl rfl rfl rfl (Nat.le_of_ble_eq_true rfl) dX3_bestTail_4 rfl ?_
  rintro _ _ ⟨rfl, rfl⟩
  exact hR _ _ _ _ dX3_bestTail_7 ⟨rfl, rfl⟩
theorem c_X3_bestTail (l : Launch) {G : GG} {v : VV} {c : Nat}  (hW : PW v 1 c) : MtI l G yX3_bestTail wsX3_bestTail 4 96 [.ref (G.1 0)] v (fun r v' => r = (boF 1 c c 0 (-1008) 0 v).1 ∧ v' = (boF 1 c c 0 (-1008) 0 v).2) := mt_int (Or.inl rfl) (by decide) rfl (by simp [Value.category]) (Nat.le_of_ble_eq_true rfl) rfl rfl (fun E hC hR => b_X3_bestTail hC hR hW)

set_option maxRecDepth 100000 in
set_option maxHeartbeats 4000000 in
theorem b_X3_setRegister {E : TE} {G : GG} {v : VV} {x y : Int32} (hC : Cx E G cX3_setRegister RX3 3 wsX3_setRegister 1 20) (hR : RtI E G cX3_setRegister (fun r v' => r = (if isG x = true then 1 else -1003) ∧ v' = (if isG x = true then u2 v 87 (tn x) y else v)))  : Wv E G v 0 [some (.ref (G.1 0)), some (.int x), some (.int y)] [] := by
  have i_X2 : ∀ w ∈ wsX20, w ∈ wsX3_setRegister := by decide +kernel
  have i_X3 : ∀ w ∈ wsX30, w ∈ wsX3_setRegister := by decide +kernel
  have l_10 : lnk E RX3 10 (TX3 0) := hC.fl (by decide +kernel)
  have l_141 : lnk E RX3 141 (TX2 3) := hC.nf 22 rfl
  refine r_iload_n hC (q := 1) dX3_setRegister_0 rfl rfl ?_
  refine r_cSI hC (q := 4) (n := 1) (As := [_]) (fun lch => c_X3_isGeneral lch ) gX3_setRegister_X3_isGeneral rfl (by decide +kernel) ⟨by decide, by decide⟩ rfl rfl rfl (Nat.le_of_ble_eq_true rfl) dX3_setRegister_1 rfl ?_
  rintro _ _ ⟨rfl, rfl⟩
  refine r_if_neB hC (q := 7) (t := 11) dX3_setRegister_4 (by decide) rfl (fun h4 => ?_) (fun h4 => ?_)
  · obtain ⟨ex, bx⟩ := inb_tn (c := 7) (by omega) h4
    refine r_aload_n hC (q := 12) dX3_setRegister_11 rfl rfl ?_
    refine g_X3 hC 0 i_X3 l_10 (by decide) (q := 15) dX3_setRegister_12 rfl rfl ?_
    refine g_X2 hC 3 i_X2 l_141 (by decide) (q := 18) dX3_setRegister_15 isPr_1 rfl rfl ?_
    refine r_iload_n hC (q := 19) dX3_setRegister_18 rfl rfl ?_
    refine r_top (y := nI (tn x)) ex ?_
    refine r_iload_n hC (q := 20) dX3_setRegister_19 rfl rfl ?_
    refine r_isN hC (q := 21) dX3_setRegister_20 (iA_p86 isPr_1) rfl (by omega) rfl ?_
    refine r_iconst hC (x := 1) (q := 22) dX3_setRegister_21 (by decide) rfl ?_
    exact hR _ _ _ _ dX3_setRegister_22 ⟨by rw [if_pos h4], by rw [if_pos h4]⟩
  · skip
    refine r_sipush hC (x := (-1003)) (q := 10) dX3_setRegister_7 (by decide) rfl ?_
    exact hR _ _ _ _ dX3_setRegister_10 ⟨by rw [if_neg h4], by rw [if_neg h4]⟩
theorem c_X3_setRegister (l : Launch) {G : GG} {v : VV} {x y : Int32}  : MtI l G yX3_setRegister wsX3_setRegister 1 20 [.ref (G.1 0), .int x, .int y] v (fun r v' => r = (if isG x = true then 1 else -1003) ∧ v' = (if isG x = true then u2 v 87 (tn x) y else v)) := mt_int (Or.inl rfl) (by decide) rfl (by simp [Value.category]) (Nat.le_of_ble_eq_true rfl) rfl rfl (fun E hC hR => b_X3_setRegister hC hR )

def inM (x : Int32) : Bool := !(decide (x < 1)) && decide (x ≤ 1000)
theorem inM_nat {x : Int32} (h1 : ¬ x < 1) (h2 : x ≤ 1000) : x = nI (tn x) ∧ tn x ≤ 1000 := by
  have h3 : ¬ x < 0 := by
    intro e
    apply h1
    rw [Int32.lt_iff_toInt_lt] at e ⊢
    have e1 : (0 : Int32).toInt = 0 := rfl
    have e2 : (1 : Int32).toInt = 1 := rfl
    omega
  obtain ⟨j, hj, rfl⟩ := nI_of2 (x := x) (M := 1000) (n := 1000) rfl h3 h2
  rw [tn_nI (by omega)]
  exact ⟨rfl, hj⟩
def runR (v : VV) (c : Nat) (x : Int32) : Int32 := if inM x = true then (if c = 0 then -1001 else (exF 1 (tn x) 1 0 0 (exI v 1)).1) else -1003
def runV (v : VV) (c : Nat) (x : Int32) : VV := if inM x = true then (if c = 0 then v else (exF 1 (tn x) 1 0 0 (exI v 1)).2) else v

set_option maxRecDepth 100000 in
set_option maxHeartbeats 4000000 in
theorem b_X3_run {E : TE} {G : GG} {v : VV} {c : Nat} {x : Int32} (hC : Cx E G cX3_run RX3 2 wsX3_run 3 85) (hR : RtI E G cX3_run (fun r v' => r = runR v c x ∧ v' = runV v c x)) (hF : PF v 1 c) : Wv E G v 0 [some (.ref (G.1 0)), some (.int x)] [] := by
  have hW := hF.1
  have h12 := hW.2.1
  have i_X2 : ∀ w ∈ wsX20, w ∈ wsX3_run := by decide +kernel
  have i_X3 : ∀ w ∈ wsX30, w ∈ wsX3_run := by decide +kernel
  have l_10 : lnk E RX3 10 (TX3 0) := hC.fl (by decide +kernel)
  have l_27 : lnk E RX3 27 (TX3 3) := hC.fl (by decide +kernel)
  have l_60 : lnk E RX3 60 (TX2 1) := hC.nf 19 rfl
  refine r_iload_n hC (q := 1) dX3_run_0 rfl rfl ?_
  refine r_iconst hC (x := 1) (q := 2) dX3_run_1 (by decide) rfl ?_
  refine r_icmp_lt hC (q := 5) (t := 12) dX3_run_2 (by decide) rfl (fun h2 => ?_) (fun h2 => ?_)
  · skip
    refine r_sipush hC (x := (-1003)) (q := 15) dX3_run_12 (by decide) rfl ?_
    exact hR _ _ _ _ dX3_run_15 ⟨by rw [runR, if_neg (by simp [inM, h2])], by rw [runV, if_neg (by simp [inM, h2])]⟩
  · skip
    refine r_iload_n hC (q := 6) dX3_run_5 rfl rfl ?_
    refine r_sipush hC (x := 1000) (q := 9) dX3_run_6 (by decide) rfl ?_
    refine r_icmp_le hC (q := 12) (t := 16) dX3_run_9 (by decide) rfl (fun h9 => ?_) (fun h9 => ?_)
    · obtain ⟨ex, bx⟩ := inM_nat h2 h9; have hi : inM x = true := by simp [inM, h2, h9]
      refine r_aload_n hC (q := 17) dX3_run_16 rfl rfl ?_
      refine g_X3 hC 0 i_X3 l_10 (by decide) (q := 20) dX3_run_17 rfl rfl ?_
      refine g_X2 hC 1 i_X2 l_60 (by decide) (q := 23) dX3_run_20 isPr_1 rfl rfl ?_
      refine r_top (y := nI c) hW.1 ?_
      refine r_if_ne hC (q := 26) (t := 30) dX3_run_23 (by decide) rfl (fun h23 => ?_) (fun h23 => ?_)
      · have hc0 : ¬ c = 0 := fun e => h23 (by rw [e]; rfl)
        refine r_aload_n hC (q := 31) dX3_run_30 rfl rfl ?_
        refine g_X3 hC 3 i_X3 l_27 (by decide) (q := 34) dX3_run_31 rfl rfl ?_
        refine r_aload_n hC (q := 35) dX3_run_34 rfl rfl ?_
        refine g_X3 hC 0 i_X3 l_10 (by decide) (q := 38) dX3_run_35 rfl rfl ?_
        refine r_iload_n hC (q := 39) dX3_run_38 rfl rfl ?_
        refine r_top (y := nI (tn x)) ex ?_
        refine r_cNI hC (q := 42) (n := 2) (As := [_, _]) (fun lch => c_X1_execute lch isPr_1 hF (by omega) bx) ggX3_run_X1_execute rfl 25 rfl (by decide +kernel) (by decide +kernel) (by decide +kernel) (by decide +kernel) ⟨by decide, by decide⟩ ob_267 rfl rfl rfl rfl (Nat.le_of_ble_eq_true rfl) dX3_run_39 rfl ?_
        rintro _ _ ⟨rfl, rfl⟩
        exact hR _ _ _ _ dX3_run_42 ⟨by rw [runR, if_pos hi, if_neg hc0], by rw [runV, if_pos hi, if_neg hc0]⟩
      · have hc0 : c = 0 := (nI_eq (by omega) (by omega)).mp h23
        refine r_sipush hC (x := (-1001)) (q := 29) dX3_run_26 (by decide) rfl ?_
        exact hR _ _ _ _ dX3_run_29 ⟨by rw [runR, if_pos hi, if_pos hc0], by rw [runV, if_pos hi, if_pos hc0]⟩
    · skip
      refine r_sipush hC (x := (-1003)) (q := 15) dX3_run_12 (by decide) rfl ?_
      exact hR _ _ _ _ dX3_run_15 ⟨by rw [runR, if_neg (by simp [inM, h2, h9])], by rw [runV, if_neg (by simp [inM, h2, h9])]⟩
theorem c_X3_run (l : Launch) {G : GG} {v : VV} {c : Nat} {x : Int32} (hF : PF v 1 c) : MtI l G yX3_run wsX3_run 3 85 [.ref (G.1 0), .int x] v (fun r v' => r = runR v c x ∧ v' = runV v c x) := mt_int (Or.inl rfl) (by decide) rfl (by simp [Value.category]) (Nat.le_of_ble_eq_true rfl) rfl rfl (fun E hC hR => b_X3_run hC hR hF)

set_option maxRecDepth 100000 in
set_option maxHeartbeats 4000000 in
theorem b_X3_traceLength {E : TE} {G : GG} {v : VV}  (hC : Cx E G cX3_traceLength RX3 1 wsX3_traceLength 0 0) (hR : RtI E G cX3_traceLength (fun r v' => r = v 267 2 ∧ v = v'))  : Wv E G v 0 [some (.ref (G.1 0))] [] := by
  have i_X1 : ∀ w ∈ wsX10, w ∈ wsX3_traceLength := by decide +kernel
  have i_X3 : ∀ w ∈ wsX30, w ∈ wsX3_traceLength := by decide +kernel
  have l_27 : lnk E RX3 27 (TX3 3) := hC.fl (by decide +kernel)
  have l_148 : lnk E RX3 148 (TX1 2) := hC.nf 25 rfl
  refine r_aload_n hC (q := 1) dX3_traceLength_0 rfl rfl ?_
  refine g_X3 hC 3 i_X3 l_27 (by decide) (q := 4) dX3_traceLength_1 rfl rfl ?_
  refine g_X1 hC 2 i_X1 l_148 (by decide) (q := 7) dX3_traceLength_4 rfl rfl ?_
  exact hR _ _ _ _ dX3_traceLength_7 ⟨rfl, rfl⟩
theorem c_X3_traceLength (l : Launch) {G : GG} {v : VV}   : MtI l G yX3_traceLength wsX3_traceLength 0 0 [.ref (G.1 0)] v (fun r v' => r = v 267 2 ∧ v = v') := mt_int (Or.inl rfl) (by decide) rfl (by simp [Value.category]) (Nat.le_of_ble_eq_true rfl) rfl rfl (fun E hC hR => b_X3_traceLength hC hR )

set_option maxRecDepth 100000 in
set_option maxHeartbeats 4000000 in
theorem b_X3_trace {E : TE} {G : GG} {v : VV} {e : Nat} {x : Int32} (hC : Cx E G cX3_trace RX3 2 wsX3_trace 0 0) (hR : RtI E G cX3_trace (fun r v' => r = (if inb x e = true then v 269 (tn x) else 0) ∧ v = v')) (he : v 267 2 = nI e) (he2 : e ≤ 1000) : Wv E G v 0 [some (.ref (G.1 0)), some (.int x)] [] := by
  have i_X1 : ∀ w ∈ wsX10, w ∈ wsX3_trace := by decide +kernel
  have i_X3 : ∀ w ∈ wsX30, w ∈ wsX3_trace := by decide +kernel
  have l_27 : lnk E RX3 27 (TX3 3) := hC.fl (by decide +kernel)
  have l_148 : lnk E RX3 148 (TX1 2) := hC.nf 25 rfl
  have l_151 : lnk E RX3 151 (TX1 1) := hC.nf 24 rfl
  refine r_iload_n hC (q := 1) dX3_trace_0 rfl rfl ?_
  refine r_if_lt hC (q := 4) (t := 27) dX3_trace_1 (by decide) rfl (fun h1 => ?_) (fun h1 => ?_)
  · skip
    refine r_iconst hC (x := 0) (q := 28) dX3_trace_27 (by decide) rfl ?_
    exact hR _ _ _ _ dX3_trace_28 ⟨by rw [if_neg (inb_n1 h1)], rfl⟩
  · skip
    refine r_iload_n hC (q := 5) dX3_trace_4 rfl rfl ?_
    refine r_aload_n hC (q := 6) dX3_trace_5 rfl rfl ?_
    refine g_X3 hC 3 i_X3 l_27 (by decide) (q := 9) dX3_trace_6 rfl rfl ?_
    refine g_X1 hC 2 i_X1 l_148 (by decide) (q := 12) dX3_trace_9 rfl rfl ?_
    refine r_top (y := nI e) he ?_
    refine r_icmp_ge hC (q := 15) (t := 27) dX3_trace_12 (by decide) rfl (fun h12 => ?_) (fun h12 => ?_)
    · skip
      refine r_iconst hC (x := 0) (q := 28) dX3_trace_27 (by decide) rfl ?_
      exact hR _ _ _ _ dX3_trace_28 ⟨by rw [if_neg (fun e => (inb_iff.mp e).2 h12)], rfl⟩
    · have hi : inb x e = true := inb_iff.mpr ⟨h1, h12⟩; obtain ⟨ex, bx⟩ := inb_tn (by omega) hi
      refine r_aload_n hC (q := 16) dX3_trace_15 rfl rfl ?_
      refine g_X3 hC 3 i_X3 l_27 (by decide) (q := 19) dX3_trace_16 rfl rfl ?_
      refine g_X1 hC 1 i_X1 l_151 (by decide) (q := 22) dX3_trace_19 rfl rfl ?_
      refine r_iload_n hC (q := 23) dX3_trace_22 rfl rfl ?_
      refine r_top (y := nI (tn x)) ex ?_
      refine r_iaN hC (q := 24) dX3_trace_23 iA_269 rfl (by omega) rfl ?_
      refine r_goto hC (t := 28) dX3_trace_24 (by decide) ?_
      exact hR _ _ _ _ dX3_trace_28 ⟨by rw [if_pos hi], rfl⟩
theorem c_X3_trace (l : Launch) {G : GG} {v : VV} {e : Nat} {x : Int32} (he : v 267 2 = nI e) (he2 : e ≤ 1000) : MtI l G yX3_trace wsX3_trace 0 0 [.ref (G.1 0), .int x] v (fun r v' => r = (if inb x e = true then v 269 (tn x) else 0) ∧ v = v') := mt_int (Or.inl rfl) (by decide) rfl (by simp [Value.category]) (Nat.le_of_ble_eq_true rfl) rfl rfl (fun E hC hR => b_X3_trace hC hR he he2)

set_option maxRecDepth 100000 in
set_option maxHeartbeats 4000000 in
theorem b_X3_register {E : TE} {G : GG} {v : VV} {x : Int32} (hC : Cx E G cX3_register RX3 2 wsX3_register 0 0) (hR : RtI E G cX3_register (fun r v' => r = (if inb x 8 = true then v 268 (tn x) else 0) ∧ v = v'))  : Wv E G v 0 [some (.ref (G.1 0)), some (.int x)] [] := by
  have i_X1 : ∀ w ∈ wsX10, w ∈ wsX3_register := by decide +kernel
  have i_X3 : ∀ w ∈ wsX30, w ∈ wsX3_register := by decide +kernel
  have l_27 : lnk E RX3 27 (TX3 3) := hC.fl (by decide +kernel)
  have l_154 : lnk E RX3 154 (TX1 0) := hC.nf 23 rfl
  refine r_iload_n hC (q := 1) dX3_register_0 rfl rfl ?_
  refine r_if_lt hC (q := 4) (t := 22) dX3_register_1 (by decide) rfl (fun h1 => ?_) (fun h1 => ?_)
  · skip
    refine r_iconst hC (x := 0) (q := 23) dX3_register_22 (by decide) rfl ?_
    exact hR _ _ _ _ dX3_register_23 ⟨by rw [if_neg (inb_n1 h1)], rfl⟩
  · skip
    refine r_iload_n hC (q := 5) dX3_register_4 rfl rfl ?_
    refine r_bipush hC (x := 8) (q := 7) dX3_register_5 (by decide) rfl ?_
    refine r_icmp_ge hC (q := 10) (t := 22) dX3_register_7 (by decide) rfl (fun h7 => ?_) (fun h7 => ?_)
    · skip
      refine r_iconst hC (x := 0) (q := 23) dX3_register_22 (by decide) rfl ?_
      exact hR _ _ _ _ dX3_register_23 ⟨by rw [if_neg (fun e => (inb_iff.mp e).2 h7)], rfl⟩
    · have hi : inb x 8 = true := inb_iff.mpr ⟨h1, h7⟩; obtain ⟨ex, bx⟩ := inb_tn (by omega) hi
      refine r_aload_n hC (q := 11) dX3_register_10 rfl rfl ?_
      refine g_X3 hC 3 i_X3 l_27 (by decide) (q := 14) dX3_register_11 rfl rfl ?_
      refine g_X1 hC 0 i_X1 l_154 (by decide) (q := 17) dX3_register_14 rfl rfl ?_
      refine r_iload_n hC (q := 18) dX3_register_17 rfl rfl ?_
      refine r_top (y := nI (tn x)) ex ?_
      refine r_iaN hC (q := 19) dX3_register_18 iA_268 rfl (by omega) rfl ?_
      refine r_goto hC (t := 23) dX3_register_19 (by decide) ?_
      exact hR _ _ _ _ dX3_register_23 ⟨by rw [if_pos hi], rfl⟩
theorem c_X3_register (l : Launch) {G : GG} {v : VV} {x : Int32}  : MtI l G yX3_register wsX3_register 0 0 [.ref (G.1 0), .int x] v (fun r v' => r = (if inb x 8 = true then v 268 (tn x) else 0) ∧ v = v') := mt_int (Or.inl rfl) (by decide) rfl (by simp [Value.category]) (Nat.le_of_ble_eq_true rfl) rfl rfl (fun E hC hR => b_X3_register hC hR )

def cpP (v : VV) (p p2 c : Nat) : VV := cpE p p2 (cpF p p2 c 0 (u2 v p 1 (v p2 1)))
theorem sl_ne {i : Nat} : ¬ 90 + 88 * i = 1 := by omega

set_option maxRecDepth 100000 in
set_option maxHeartbeats 4000000 in
theorem b_X3_save {E : TE} {G : GG} {v : VV} {c : Nat} {x : Int32} (hC : Cx E G cX3_save RX3 2 wsX3_save 4 92) (hR : RtI E G cX3_save (fun r v' => r = (if inb x 2 = true then 1 else -1003) ∧ v' = (if inb x 2 = true then u2 (cpP v (90 + 88 * tn x) 1 c) 266 (tn x) 1 else v))) (hW : PW v 1 c) : Wv E G v 0 [some (.ref (G.1 0)), some (.int x)] [] := by
  have h12 := hW.2.1
  have i_X3 : ∀ w ∈ wsX30, w ∈ wsX3_save := by decide +kernel
  have l_10 : lnk E RX3 10 (TX3 0) := hC.fl (by decide +kernel)
  have l_16 : lnk E RX3 16 (TX3 1) := hC.fl (by decide +kernel)
  have l_20 : lnk E RX3 20 (TX3 2) := hC.fl (by decide +kernel)
  refine r_iload_n hC (q := 1) dX3_save_0 rfl rfl ?_
  refine r_if_lt hC (q := 4) (t := 9) dX3_save_1 (by decide) rfl (fun h1 => ?_) (fun h1 => ?_)
  · skip
    refine r_sipush hC (x := (-1003)) (q := 12) dX3_save_9 (by decide) rfl ?_
    exact hR _ _ _ _ dX3_save_12 ⟨by rw [if_neg (inb_n1 h1)], by rw [if_neg (inb_n1 h1)]⟩
  · skip
    refine r_iload_n hC (q := 5) dX3_save_4 rfl rfl ?_
    refine r_iconst hC (x := 2) (q := 6) dX3_save_5 (by decide) rfl ?_
    refine r_icmp_lt hC (q := 9) (t := 13) dX3_save_6 (by decide) rfl (fun h6 => ?_) (fun h6 => ?_)
    · have hi : inb x 2 = true := inb_lt h1 h6; obtain ⟨ex, bx⟩ := inb_tn (by omega) hi
      refine r_aload_n hC (q := 14) dX3_save_13 rfl rfl ?_
      refine g_X3 hC 1 i_X3 l_16 (by decide) (q := 17) dX3_save_14 rfl rfl ?_
      refine r_iload_n hC (q := 18) dX3_save_17 rfl rfl ?_
      refine r_top (y := nI (tn x)) ex ?_
      refine r_aPN hC (q := 19) dX3_save_18 rfl (by omega) rfl ?_
      refine r_aload_n hC (q := 20) dX3_save_19 rfl rfl ?_
      refine g_X3 hC 0 i_X3 l_10 (by decide) (q := 23) dX3_save_20 rfl rfl ?_
      refine r_cNV hC (q := 26) (n := 1) (As := [_]) (fun lch => c_X2_copyFrom lch (isPr_s bx) isPr_1 (by omega) hW) ggX3_save_X2_copyFrom rfl 26 rfl (by decide +kernel) (by decide +kernel) (by decide +kernel) (by decide +kernel) ⟨by decide, by decide⟩ (ob_p (isPr_s (by omega))) rfl rfl rfl rfl (Nat.le_of_ble_eq_true rfl) dX3_save_23 rfl ?_
      rintro _ rfl
      refine r_aload_n hC (q := 27) dX3_save_26 rfl rfl ?_
      refine g_X3 hC 2 i_X3 l_20 (by decide) (q := 30) dX3_save_27 rfl rfl ?_
      refine r_iload_n hC (q := 31) dX3_save_30 rfl rfl ?_
      refine r_top (y := nI (tn x)) ex ?_
      refine r_iconst hC (x := 1) (q := 32) dX3_save_31 (by decide) rfl ?_
      refine r_zsN hC (q := 33) dX3_save_32 zA_266 rfl (by omega) rfl ?_
      refine r_iconst hC (x := 1) (q := 34) dX3_save_33 (by decide) rfl ?_
      exact hR _ _ _ _ dX3_save_34 ⟨by rw [if_pos hi], by rw [if_pos hi]; rfl⟩
    · skip
      refine r_sipush hC (x := (-1003)) (q := 12) dX3_save_9 (by decide) rfl ?_
      exact hR _ _ _ _ dX3_save_12 ⟨by rw [if_neg (inb_n2 (n := 2) h6)], by rw [if_neg (inb_n2 (n := 2) h6)]⟩
theorem c_X3_save (l : Launch) {G : GG} {v : VV} {c : Nat} {x : Int32} (hW : PW v 1 c) : MtI l G yX3_save wsX3_save 4 92 [.ref (G.1 0), .int x] v (fun r v' => r = (if inb x 2 = true then 1 else -1003) ∧ v' = (if inb x 2 = true then u2 (cpP v (90 + 88 * tn x) 1 c) 266 (tn x) 1 else v)) := mt_int (Or.inl rfl) (by decide) rfl (by simp [Value.category]) (Nat.le_of_ble_eq_true rfl) rfl rfl (fun E hC hR => b_X3_save hC hR hW)

set_option maxRecDepth 100000 in
set_option maxHeartbeats 4000000 in
theorem b_X3_restore {E : TE} {G : GG} {v : VV} {x : Int32} {cc : Nat → Nat} (hC : Cx E G cX3_restore RX3 2 wsX3_restore 4 92) (hR : RtI E G cX3_restore (fun r v' => r = (if inb x 2 = true then (if v 266 (tn x) = 0 then -1009 else 1) else -1003) ∧ v' = (if inb x 2 = true then (if v 266 (tn x) = 0 then v else cpP v 1 (90 + 88 * tn x) (cc (tn x))) else v))) (hS : ∀ i, i < 2 → ¬ v 266 i = 0 → PW v (90 + 88 * i) (cc i)) : Wv E G v 0 [some (.ref (G.1 0)), some (.int x)] [] := by
  have i_X3 : ∀ w ∈ wsX30, w ∈ wsX3_restore := by decide +kernel
  have l_10 : lnk E RX3 10 (TX3 0) := hC.fl (by decide +kernel)
  have l_16 : lnk E RX3 16 (TX3 1) := hC.fl (by decide +kernel)
  have l_20 : lnk E RX3 20 (TX3 2) := hC.fl (by decide +kernel)
  refine r_iload_n hC (q := 1) dX3_restore_0 rfl rfl ?_
  refine r_if_lt hC (q := 4) (t := 9) dX3_restore_1 (by decide) rfl (fun h1 => ?_) (fun h1 => ?_)
  · skip
    refine r_sipush hC (x := (-1003)) (q := 12) dX3_restore_9 (by decide) rfl ?_
    exact hR _ _ _ _ dX3_restore_12 ⟨by rw [if_neg (inb_n1 h1)], by rw [if_neg (inb_n1 h1)]⟩
  · skip
    refine r_iload_n hC (q := 5) dX3_restore_4 rfl rfl ?_
    refine r_iconst hC (x := 2) (q := 6) dX3_restore_5 (by decide) rfl ?_
    refine r_icmp_lt hC (q := 9) (t := 13) dX3_restore_6 (by decide) rfl (fun h6 => ?_) (fun h6 => ?_)
    · have hi : inb x 2 = true := inb_lt h1 h6; obtain ⟨ex, bx⟩ := inb_tn (by omega) hi
      refine r_aload_n hC (q := 14) dX3_restore_13 rfl rfl ?_
      refine g_X3 hC 2 i_X3 l_20 (by decide) (q := 17) dX3_restore_14 rfl rfl ?_
      refine r_iload_n hC (q := 18) dX3_restore_17 rfl rfl ?_
      refine r_top (y := nI (tn x)) ex ?_
      refine r_zaN hC (q := 19) dX3_restore_18 zA_266 rfl (by omega) rfl ?_
      refine r_if_ne hC (q := 22) (t := 26) dX3_restore_19 (by decide) rfl (fun h19 => ?_) (fun h19 => ?_)
      · skip
        refine r_aload_n hC (q := 27) dX3_restore_26 rfl rfl ?_
        refine g_X3 hC 0 i_X3 l_10 (by decide) (q := 30) dX3_restore_27 rfl rfl ?_
        refine r_aload_n hC (q := 31) dX3_restore_30 rfl rfl ?_
        refine g_X3 hC 1 i_X3 l_16 (by decide) (q := 34) dX3_restore_31 rfl rfl ?_
        refine r_iload_n hC (q := 35) dX3_restore_34 rfl rfl ?_
        refine r_top (y := nI (tn x)) ex ?_
        refine r_aPN hC (q := 36) dX3_restore_35 rfl (by omega) rfl ?_
        refine r_cNV hC (q := 39) (n := 1) (As := [_]) (fun lch => c_X2_copyFrom lch isPr_1 (isPr_s bx) (by omega) (hS _ bx h19)) ggX3_restore_X2_copyFrom rfl 26 rfl (by decide +kernel) (by decide +kernel) (by decide +kernel) (by decide +kernel) ⟨by decide, by decide⟩ (ob_p isPr_1) rfl rfl rfl rfl (Nat.le_of_ble_eq_true rfl) dX3_restore_36 rfl ?_
        rintro _ rfl
        refine r_iconst hC (x := 1) (q := 40) dX3_restore_39 (by decide) rfl ?_
        exact hR _ _ _ _ dX3_restore_40 ⟨by rw [if_pos hi, if_neg h19], by rw [if_pos hi, if_neg h19]; rfl⟩
      · skip
        refine r_sipush hC (x := (-1009)) (q := 25) dX3_restore_22 (by decide) rfl ?_
        exact hR _ _ _ _ dX3_restore_25 ⟨by rw [if_pos hi, if_pos h19], by rw [if_pos hi, if_pos h19]⟩
    · skip
      refine r_sipush hC (x := (-1003)) (q := 12) dX3_restore_9 (by decide) rfl ?_
      exact hR _ _ _ _ dX3_restore_12 ⟨by rw [if_neg (inb_n2 (n := 2) h6)], by rw [if_neg (inb_n2 (n := 2) h6)]⟩
theorem c_X3_restore (l : Launch) {G : GG} {v : VV} {x : Int32} {cc : Nat → Nat} (hS : ∀ i, i < 2 → ¬ v 266 i = 0 → PW v (90 + 88 * i) (cc i)) : MtI l G yX3_restore wsX3_restore 4 92 [.ref (G.1 0), .int x] v (fun r v' => r = (if inb x 2 = true then (if v 266 (tn x) = 0 then -1009 else 1) else -1003) ∧ v' = (if inb x 2 = true then (if v 266 (tn x) = 0 then v else cpP v 1 (90 + 88 * tn x) (cc (tn x))) else v)) := mt_int (Or.inl rfl) (by decide) rfl (by simp [Value.category]) (Nat.le_of_ble_eq_true rfl) rfl rfl (fun E hC hR => b_X3_restore hC hR hS)
