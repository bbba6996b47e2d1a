set_option maxRecDepth 100000 in
set_option maxHeartbeats 4000000 in
theorem b_X4_addInstruction {E : TE} {G : GG} {v : VV} {c : Nat} {x o d a b w : Int32} (hC : Cx E G cX4_addInstruction RX4 7 wsX4_addInstruction 3 68) (hR : RtI E G cX4_addInstruction (fun r v' => r = adF c (mw (v 271)) x o d a b w ∧ v' = (if (inb x c && opF o d a b && lnF w && decide (mnb (v 271) (tn x) < 10)) = true then map5 v (tn x) (mnb (v 271) (tn x)) o d a b (1 <<< (w &&& 31)) else v))) (hM : MW (v 271) c) : Wv E G v 0 [some (.ref (G.1 270)), some (.int x), some (.int o), some (.int d), some (.int a), some (.int b), some (.int w)] [] := by
  have h12 := hM.2.1
  refine r_aload_n hC (q := 1) dX4_addInstruction_0 rfl rfl ?_
  refine r_iload_n hC (q := 2) dX4_addInstruction_1 rfl rfl ?_
  refine r_cVI hC (q := 5) (n := 1) (As := [_]) (fun lch => c_X4_isBlock lch hM) gX4_addInstruction_X4_isBlock rfl (by decide +kernel) ⟨by decide, by decide⟩ ob_270 rfl rfl rfl rfl (Nat.le_of_ble_eq_true rfl) dX4_addInstruction_2 rfl ?_
  rintro _ _ ⟨rfl, rfl⟩
  refine r_if_neB hC (q := 8) (t := 12) dX4_addInstruction_5 (by decide) rfl (fun h5 => ?_) (fun h5 => ?_)
  · obtain ⟨ex, bx⟩ := inb_tn (by omega) h5; have hn := (hM.2.2 _ bx).2
    refine r_iload_n hC (q := 13) dX4_addInstruction_12 rfl rfl ?_
    refine r_iload_n hC (q := 14) dX4_addInstruction_13 rfl rfl ?_
    refine r_iload hC (q := 16) dX4_addInstruction_14 rfl rfl ?_
    refine r_iload hC (q := 18) dX4_addInstruction_16 rfl rfl ?_
    refine r_cSI hC (q := 21) (n := 4) (As := [_, _, _, _]) (fun lch => c_X4_fits lch ) gX4_addInstruction_X4_fits rfl (by decide +kernel) ⟨by decide, by decide⟩ rfl rfl rfl (Nat.le_of_ble_eq_true rfl) dX4_addInstruction_18 rfl ?_
    rintro _ _ ⟨rfl, rfl⟩
    refine r_if_eqB hC (q := 24) (t := 35) dX4_addInstruction_21 (by decide) rfl (fun h21 => ?_) (fun h21 => ?_)
    · skip
      refine r_sipush hC (x := (-1003)) (q := 38) dX4_addInstruction_35 (by decide) rfl ?_
      exact hR _ _ _ _ dX4_addInstruction_38 ⟨by rw [adF, if_pos h5, if_neg (by simp [← lnF_R, h21])], by rw [if_neg (by simp [← lnF_R, h21])]⟩
    · skip
      refine r_iload hC (q := 26) dX4_addInstruction_24 rfl rfl ?_
      refine r_iconst hC (x := 0) (q := 27) dX4_addInstruction_26 (by decide) rfl ?_
      refine r_bipush hC (x := 30) (q := 29) dX4_addInstruction_27 (by decide) rfl ?_
      refine r_cSI hC (q := 32) (n := 3) (As := [_, _, _]) (fun lch => c_X4_in lch ) gX4_addInstruction_X4_in rfl (by decide +kernel) ⟨by decide, by decide⟩ rfl rfl rfl (Nat.le_of_ble_eq_true rfl) dX4_addInstruction_29 rfl ?_
      rintro _ _ ⟨rfl, rfl⟩
      refine r_if_neB hC (q := 35) (t := 39) dX4_addInstruction_32 (by decide) rfl (fun h32 => ?_) (fun h32 => ?_)
      · have e1 : (opF o d a b && lnF w) = true := (by simp [← lnF_R, h21, h32])
        refine r_aload_n hC (q := 40) dX4_addInstruction_39 rfl rfl ?_
        refine r_iload_n hC (q := 41) dX4_addInstruction_40 rfl rfl ?_
        refine r_top (y := nI (tn x)) ex ?_
        refine r_cVI hC (q := 44) (n := 1) (As := [_]) (fun lch => c_X4_many lch (by omega)) gX4_addInstruction_X4_many rfl (by decide +kernel) ⟨by decide, by decide⟩ ob_270 rfl rfl rfl rfl (Nat.le_of_ble_eq_true rfl) dX4_addInstruction_41 rfl ?_
        rintro _ _ ⟨rfl, rfl⟩
        refine r_top (y := nI (mnb (v 271) (tn x))) (hM.2.2 _ bx).1 ?_
        refine r_bipush hC (x := 10) (q := 46) dX4_addInstruction_44 (by decide) rfl ?_
        refine r_icmp_neN hC (q := 49) (t := 53) (b := 10) dX4_addInstruction_46 rfl rfl (by omega) (by omega) (by decide) rfl (fun h46 => ?_) (fun h46 => ?_)
        · skip
          refine r_aload_n hC (q := 54) dX4_addInstruction_53 rfl rfl ?_
          refine r_iload_n hC (q := 55) dX4_addInstruction_54 rfl rfl ?_
          refine r_top (y := nI (tn x)) ex ?_
          refine r_iload_n hC (q := 56) dX4_addInstruction_55 rfl rfl ?_
          refine r_iload_n hC (q := 57) dX4_addInstruction_56 rfl rfl ?_
          refine r_iload hC (q := 59) dX4_addInstruction_57 rfl rfl ?_
          refine r_iload hC (q := 61) dX4_addInstruction_59 rfl rfl ?_
          refine r_iconst hC (x := 1) (q := 62) dX4_addInstruction_61 (by decide) rfl ?_
          refine r_iload hC (q := 64) dX4_addInstruction_62 rfl rfl ?_
          refine r_ishl hC (q := 65) dX4_addInstruction_64 rfl ?_
          refine r_cVV hC (q := 68) (n := 6) (As := [_, _, _, _, _, _]) (fun lch => c_X4_append lch (by omega) (hM.2.2 _ bx).1 (by omega)) gX4_addInstruction_X4_append rfl (by decide +kernel) ⟨by decide, by decide⟩ ob_270 rfl rfl rfl rfl (Nat.le_of_ble_eq_true rfl) dX4_addInstruction_65 rfl ?_
          rintro _ rfl
          refine r_aload_n hC (q := 69) dX4_addInstruction_68 rfl rfl ?_
          refine r_iload_n hC (q := 70) dX4_addInstruction_69 rfl rfl ?_
          refine r_top (y := nI (tn x)) ex ?_
          refine r_cVI hC (q := 73) (n := 1) (As := [_]) (fun lch => c_X4_many lch (by omega)) gX4_addInstruction_X4_many rfl (by decide +kernel) ⟨by decide, by decide⟩ ob_270 rfl rfl rfl rfl (Nat.le_of_ble_eq_true rfl) dX4_addInstruction_70 rfl ?_
          rintro _ _ ⟨rfl, rfl⟩
          refine r_top (y := nI (mnb (v 271) (tn x) + 1)) (by simp [map5, va_up, upd]) ?_
          refine r_iconst hC (x := 1) (q := 74) dX4_addInstruction_73 (by decide) rfl ?_
          refine r_isubN hC (q := 75) (b := 1) dX4_addInstruction_74 rfl rfl (by omega) rfl ?_
          exact hR _ _ _ _ dX4_addInstruction_75 ⟨by rw [adF, if_pos h5, if_pos e1, if_pos (by show mnb (v 271) (tn x) < 10; omega)]; rfl, by rw [if_pos (by simp [h5, ← lnF_R, h21, h32]; omega)]⟩
        · skip
          refine r_sipush hC (x := (-1004)) (q := 52) dX4_addInstruction_49 (by decide) rfl ?_
          exact hR _ _ _ _ dX4_addInstruction_52 ⟨by rw [adF, if_pos h5, if_pos e1, if_neg (by show ¬ mnb (v 271) (tn x) < 10; omega)], by rw [if_neg (by simp; omega)]⟩
      · skip
        refine r_sipush hC (x := (-1003)) (q := 38) dX4_addInstruction_35 (by decide) rfl ?_
        exact hR _ _ _ _ dX4_addInstruction_38 ⟨by rw [adF, if_pos h5, if_neg (by simp [← lnF_R, h21, h32])], by rw [if_neg (by simp [← lnF_R, h21, h32])]⟩
  · skip
    refine r_sipush hC (x := (-1001)) (q := 11) dX4_addInstruction_8 (by decide) rfl ?_
    exact hR _ _ _ _ dX4_addInstruction_11 ⟨by rw [adF, if_neg h5], by rw [if_neg (by simp [h5])]⟩
theorem c_X4_addInstruction (l : Launch) {G : GG} {v : VV} {c : Nat} {x o d a b w : Int32} (hM : MW (v 271) c) : MtI l G yX4_addInstruction wsX4_addInstruction 3 68 [.ref (G.1 270), .int x, .int o, .int d, .int a, .int b, .int w] v (fun r v' => r = adF c (mw (v 271)) x o d a b w ∧ v' = (if (inb x c && opF o d a b && lnF w && decide (mnb (v 271) (tn x) < 10)) = true then map5 v (tn x) (mnb (v 271) (tn x)) o d a b (1 <<< (w &&& 31)) else v)) := mt_int (Or.inl rfl) (by decide) rfl (by simp [Value.category]) (Nat.le_of_ble_eq_true rfl) rfl rfl (fun E hC hR => b_X4_addInstruction hC hR hM)

set_option maxRecDepth 100000 in
set_option maxHeartbeats 4000000 in
theorem b_X4_setJump {E : TE} {G : GG} {v : VV} {c : Nat} {x y : Int32} (hC : Cx E G cX4_setJump RX4 4 wsX4_setJump 3 65) (hR : RtI E G cX4_setJump (fun r v' => r = (if (inb x c && inb y c) = true then v 271 (10 + 55 * tn x + 51) else -1001) ∧ v' = (if (inb x c && inb y c) = true then mtm v (tn x) 0 y 0 0 else v))) (hM : MW (v 271) c) : Wv E G v 0 [some (.ref (G.1 270)), some (.int x), some (.int y), none] [] := by
  have h12 := hM.2.1
  have i_X4 : ∀ w ∈ wsX40, w ∈ wsX4_setJump := by decide +kernel
  have l_7 : lnk E RX4 7 (TX4 0) := hC.fl (by decide +kernel)
  refine r_aload_n hC (q := 1) dX4_setJump_0 rfl rfl ?_
  refine r_iload_n hC (q := 2) dX4_setJump_1 rfl rfl ?_
  refine r_cVI hC (q := 5) (n := 1) (As := [_]) (fun lch => c_X4_isBlock lch hM) gX4_setJump_X4_isBlock rfl (by decide +kernel) ⟨by decide, by decide⟩ ob_270 rfl rfl rfl rfl (Nat.le_of_ble_eq_true rfl) dX4_setJump_2 rfl ?_
  rintro _ _ ⟨rfl, rfl⟩
  refine r_if_eqB hC (q := 8) (t := 16) dX4_setJump_5 (by decide) rfl (fun h5 => ?_) (fun h5 => ?_)
  · skip
    refine r_sipush hC (x := (-1001)) (q := 19) dX4_setJump_16 (by decide) rfl ?_
    exact hR _ _ _ _ dX4_setJump_19 ⟨by rw [if_neg (by simp [h5])], by rw [if_neg (by simp [h5])]⟩
  · obtain ⟨ex, bx⟩ := inb_tn (by omega) h5
    refine r_aload_n hC (q := 9) dX4_setJump_8 rfl rfl ?_
    refine r_iload_n hC (q := 10) dX4_setJump_9 rfl rfl ?_
    refine r_cVI hC (q := 13) (n := 1) (As := [_]) (fun lch => c_X4_isBlock lch hM) gX4_setJump_X4_isBlock rfl (by decide +kernel) ⟨by decide, by decide⟩ ob_270 rfl rfl rfl rfl (Nat.le_of_ble_eq_true rfl) dX4_setJump_10 rfl ?_
    rintro _ _ ⟨rfl, rfl⟩
    refine r_if_neB hC (q := 16) (t := 20) dX4_setJump_13 (by decide) rfl (fun h13 => ?_) (fun h13 => ?_)
    · skip
      refine r_aload_n hC (q := 21) dX4_setJump_20 rfl rfl ?_
      refine g_X4 hC 0 i_X4 l_7 (by decide) (q := 24) dX4_setJump_21 rfl rfl ?_
      refine r_iload_n hC (q := 25) dX4_setJump_24 rfl rfl ?_
      refine r_top (y := nI (tn x)) ex ?_
      refine r_cSI hC (q := 28) (n := 1) (As := [_]) (fun lch => c_X4_end lch ) gX4_setJump_X4_end rfl (by decide +kernel) ⟨by decide, by decide⟩ rfl rfl rfl (Nat.le_of_ble_eq_true rfl) dX4_setJump_25 rfl ?_
      rintro _ _ ⟨rfl, rfl⟩
      refine r_iaN hC (q := 29) dX4_setJump_28 iA_271 rfl (by omega) rfl ?_
      refine r_istore_n hC (q := 30) (L' := [_, _, _, _]) dX4_setJump_29 (Nat.le_of_ble_eq_true rfl) rfl rfl ?_
      refine r_aload_n hC (q := 31) dX4_setJump_30 rfl rfl ?_
      refine r_iload_n hC (q := 32) dX4_setJump_31 rfl rfl ?_
      refine r_top (y := nI (tn x)) ex ?_
      refine r_iconst hC (x := 0) (q := 33) dX4_setJump_32 (by decide) rfl ?_
      refine r_iload_n hC (q := 34) dX4_setJump_33 rfl rfl ?_
      refine r_iconst hC (x := 0) (q := 35) dX4_setJump_34 (by decide) rfl ?_
      refine r_iconst hC (x := 0) (q := 36) dX4_setJump_35 (by decide) rfl ?_
      refine r_cVV hC (q := 39) (n := 5) (As := [_, _, _, _, _]) (fun lch => c_X4_terminate lch (by omega)) gX4_setJump_X4_terminate rfl (by decide +kernel) ⟨by decide, by decide⟩ ob_270 rfl rfl rfl rfl (Nat.le_of_ble_eq_true rfl) dX4_setJump_36 rfl ?_
      rintro _ rfl
      refine r_iload_n hC (q := 40) dX4_setJump_39 rfl rfl ?_
      exact hR _ _ _ _ dX4_setJump_40 ⟨by rw [if_pos (by simp [h5, h13])], by rw [if_pos (by simp [h5, h13])]⟩
    · skip
      refine r_sipush hC (x := (-1001)) (q := 19) dX4_setJump_16 (by decide) rfl ?_
      exact hR _ _ _ _ dX4_setJump_19 ⟨by rw [if_neg (by simp [h5, h13])], by rw [if_neg (by simp [h5, h13])]⟩
theorem c_X4_setJump (l : Launch) {G : GG} {v : VV} {c : Nat} {x y : Int32} (hM : MW (v 271) c) : MtI l G yX4_setJump wsX4_setJump 3 65 [.ref (G.1 270), .int x, .int y] v (fun r v' => r = (if (inb x c && inb y c) = true then v 271 (10 + 55 * tn x + 51) else -1001) ∧ v' = (if (inb x c && inb y c) = true then mtm v (tn x) 0 y 0 0 else v)) := mt_int (Or.inl rfl) (by decide) rfl (by simp [Value.category]) (Nat.le_of_ble_eq_true rfl) rfl rfl (fun E hC hR => b_X4_setJump hC hR hM)

set_option maxRecDepth 100000 in
set_option maxHeartbeats 4000000 in
theorem b_X4_setBranch {E : TE} {G : GG} {v : VV} {c : Nat} {x z y w : Int32} (hC : Cx E G cX4_setBranch RX4 6 wsX4_setBranch 3 65) (hR : RtI E G cX4_setBranch (fun r v' => r = (if (inb x c && inb y c && inb w c) = true then (if isG z = true then v 271 (10 + 55 * tn x + 51) else -1003) else -1001) ∧ v' = (if (inb x c && inb y c && inb w c && isG z) = true then mtm v (tn x) 1 z y w else v))) (hM : MW (v 271) c) : Wv E G v 0 [some (.ref (G.1 270)), some (.int x), some (.int z), some (.int y), some (.int w), none] [] := by
  have h12 := hM.2.1
  have i_X4 : ∀ w ∈ wsX40, w ∈ wsX4_setBranch := by decide +kernel
  have l_7 : lnk E RX4 7 (TX4 0) := hC.fl (by decide +kernel)
  refine r_aload_n hC (q := 1) dX4_setBranch_0 rfl rfl ?_
  refine r_iload_n hC (q := 2) dX4_setBranch_1 rfl rfl ?_
  refine r_cVI hC (q := 5) (n := 1) (As := [_]) (fun lch => c_X4_isBlock lch hM) gX4_setBranch_X4_isBlock rfl (by decide +kernel) ⟨by decide, by decide⟩ ob_270 rfl rfl rfl rfl (Nat.le_of_ble_eq_true rfl) dX4_setBranch_2 rfl ?_
  rintro _ _ ⟨rfl, rfl⟩
  refine r_if_eqB hC (q := 8) (t := 25) dX4_setBranch_5 (by decide) rfl (fun h5 => ?_) (fun h5 => ?_)
  · skip
    refine r_sipush hC (x := (-1001)) (q := 28) dX4_setBranch_25 (by decide) rfl ?_
    exact hR _ _ _ _ dX4_setBranch_28 ⟨by rw [if_neg (by simp [h5])], by rw [if_neg (by simp [h5])]⟩
  · obtain ⟨ex, bx⟩ := inb_tn (by omega) h5
    refine r_aload_n hC (q := 9) dX4_setBranch_8 rfl rfl ?_
    refine r_iload_n hC (q := 10) dX4_setBranch_9 rfl rfl ?_
    refine r_cVI hC (q := 13) (n := 1) (As := [_]) (fun lch => c_X4_isBlock lch hM) gX4_setBranch_X4_isBlock rfl (by decide +kernel) ⟨by decide, by decide⟩ ob_270 rfl rfl rfl rfl (Nat.le_of_ble_eq_true rfl) dX4_setBranch_10 rfl ?_
    rintro _ _ ⟨rfl, rfl⟩
    refine r_if_eqB hC (q := 16) (t := 25) dX4_setBranch_13 (by decide) rfl (fun h13 => ?_) (fun h13 => ?_)
    · skip
      refine r_sipush hC (x := (-1001)) (q := 28) dX4_setBranch_25 (by decide) rfl ?_
      exact hR _ _ _ _ dX4_setBranch_28 ⟨by rw [if_neg (by simp [h5, h13])], by rw [if_neg (by simp [h5, h13])]⟩
    · skip
      refine r_aload_n hC (q := 17) dX4_setBranch_16 rfl rfl ?_
      refine r_iload hC (q := 19) dX4_setBranch_17 rfl rfl ?_
      refine r_cVI hC (q := 22) (n := 1) (As := [_]) (fun lch => c_X4_isBlock lch hM) gX4_setBranch_X4_isBlock rfl (by decide +kernel) ⟨by decide, by decide⟩ ob_270 rfl rfl rfl rfl (Nat.le_of_ble_eq_true rfl) dX4_setBranch_19 rfl ?_
      rintro _ _ ⟨rfl, rfl⟩
      refine r_if_neB hC (q := 25) (t := 29) dX4_setBranch_22 (by decide) rfl (fun h22 => ?_) (fun h22 => ?_)
      · skip
        refine r_iload_n hC (q := 30) dX4_setBranch_29 rfl rfl ?_
        refine r_cSI hC (q := 33) (n := 1) (As := [_]) (fun lch => c_X4_isRegister lch ) gX4_setBranch_X4_isRegister rfl (by decide +kernel) ⟨by decide, by decide⟩ rfl rfl rfl (Nat.le_of_ble_eq_true rfl) dX4_setBranch_30 rfl ?_
        rintro _ _ ⟨rfl, rfl⟩
        refine r_if_neB hC (q := 36) (t := 40) dX4_setBranch_33 (by decide) rfl (fun h33 => ?_) (fun h33 => ?_)
        · skip
          refine r_aload_n hC (q := 41) dX4_setBranch_40 rfl rfl ?_
          refine g_X4 hC 0 i_X4 l_7 (by decide) (q := 44) dX4_setBranch_41 rfl rfl ?_
          refine r_iload_n hC (q := 45) dX4_setBranch_44 rfl rfl ?_
          refine r_top (y := nI (tn x)) ex ?_
          refine r_cSI hC (q := 48) (n := 1) (As := [_]) (fun lch => c_X4_end lch ) gX4_setBranch_X4_end rfl (by decide +kernel) ⟨by decide, by decide⟩ rfl rfl rfl (Nat.le_of_ble_eq_true rfl) dX4_setBranch_45 rfl ?_
          rintro _ _ ⟨rfl, rfl⟩
          refine r_iaN hC (q := 49) dX4_setBranch_48 iA_271 rfl (by omega) rfl ?_
          refine r_istore hC (q := 51) (L' := [_, _, _, _, _, _]) dX4_setBranch_49 (Nat.le_of_ble_eq_true rfl) rfl rfl ?_
          refine r_aload_n hC (q := 52) dX4_setBranch_51 rfl rfl ?_
          refine r_iload_n hC (q := 53) dX4_setBranch_52 rfl rfl ?_
          refine r_top (y := nI (tn x)) ex ?_
          refine r_iconst hC (x := 1) (q := 54) dX4_setBranch_53 (by decide) rfl ?_
          refine r_iload_n hC (q := 55) dX4_setBranch_54 rfl rfl ?_
          refine r_iload_n hC (q := 56) dX4_setBranch_55 rfl rfl ?_
          refine r_iload hC (q := 58) dX4_setBranch_56 rfl rfl ?_
          refine r_cVV hC (q := 61) (n := 5) (As := [_, _, _, _, _]) (fun lch => c_X4_terminate lch (by omega)) gX4_setBranch_X4_terminate rfl (by decide +kernel) ⟨by decide, by decide⟩ ob_270 rfl rfl rfl rfl (Nat.le_of_ble_eq_true rfl) dX4_setBranch_58 rfl ?_
          rintro _ rfl
          refine r_iload hC (q := 63) dX4_setBranch_61 rfl rfl ?_
          exact hR _ _ _ _ dX4_setBranch_63 ⟨by rw [if_pos (by simp [h5, h13, h22, h33]), if_pos h33], by rw [if_pos (by simp [h5, h13, h22, h33])]⟩
        · skip
          refine r_sipush hC (x := (-1003)) (q := 39) dX4_setBranch_36 (by decide) rfl ?_
          exact hR _ _ _ _ dX4_setBranch_39 ⟨by rw [if_pos (by simp [h5, h13, h22, h33]), if_neg h33], by rw [if_neg (by simp [h5, h13, h22, h33])]⟩
      · skip
        refine r_sipush hC (x := (-1001)) (q := 28) dX4_setBranch_25 (by decide) rfl ?_
        exact hR _ _ _ _ dX4_setBranch_28 ⟨by rw [if_neg (by simp [h5, h13, h22])], by rw [if_neg (by simp [h5, h13, h22])]⟩
theorem c_X4_setBranch (l : Launch) {G : GG} {v : VV} {c : Nat} {x z y w : Int32} (hM : MW (v 271) c) : MtI l G yX4_setBranch wsX4_setBranch 3 65 [.ref (G.1 270), .int x, .int z, .int y, .int w] v (fun r v' => r = (if (inb x c && inb y c && inb w c) = true then (if isG z = true then v 271 (10 + 55 * tn x + 51) else -1003) else -1001) ∧ v' = (if (inb x c && inb y c && inb w c && isG z) = true then mtm v (tn x) 1 z y w else v)) := mt_int (Or.inl rfl) (by decide) rfl (by simp [Value.category]) (Nat.le_of_ble_eq_true rfl) rfl rfl (fun E hC hR => b_X4_setBranch hC hR hM)

set_option maxRecDepth 100000 in
set_option maxHeartbeats 4000000 in
theorem b_X4_setReturn {E : TE} {G : GG} {v : VV} {c : Nat} {x z : Int32} (hC : Cx E G cX4_setReturn RX4 4 wsX4_setReturn 3 65) (hR : RtI E G cX4_setReturn (fun r v' => r = (if inb x c = true then (if isG z = true then v 271 (10 + 55 * tn x + 51) else -1003) else -1001) ∧ v' = (if (inb x c && isG z) = true then mtm v (tn x) 2 z 0 0 else v))) (hM : MW (v 271) c) : Wv E G v 0 [some (.ref (G.1 270)), some (.int x), some (.int z), none] [] := by
  have h12 := hM.2.1
  have i_X4 : ∀ w ∈ wsX40, w ∈ wsX4_setReturn := by decide +kernel
  have l_7 : lnk E RX4 7 (TX4 0) := hC.fl (by decide +kernel)
  refine r_aload_n hC (q := 1) dX4_setReturn_0 rfl rfl ?_
  refine r_iload_n hC (q := 2) dX4_setReturn_1 rfl rfl ?_
  refine r_cVI hC (q := 5) (n := 1) (As := [_]) (fun lch => c_X4_isBlock lch hM) gX4_setReturn_X4_isBlock rfl (by decide +kernel) ⟨by decide, by decide⟩ ob_270 rfl rfl rfl rfl (Nat.le_of_ble_eq_true rfl) dX4_setReturn_2 rfl ?_
  rintro _ _ ⟨rfl, rfl⟩
  refine r_if_neB hC (q := 8) (t := 12) dX4_setReturn_5 (by decide) rfl (fun h5 => ?_) (fun h5 => ?_)
  · obtain ⟨ex, bx⟩ := inb_tn (by omega) h5
    refine r_iload_n hC (q := 13) dX4_setReturn_12 rfl rfl ?_
    refine r_cSI hC (q := 16) (n := 1) (As := [_]) (fun lch => c_X4_isRegister lch ) gX4_setReturn_X4_isRegister rfl (by decide +kernel) ⟨by decide, by decide⟩ rfl rfl rfl (Nat.le_of_ble_eq_true rfl) dX4_setReturn_13 rfl ?_
    rintro _ _ ⟨rfl, rfl⟩
    refine r_if_neB hC (q := 19) (t := 23) dX4_setReturn_16 (by decide) rfl (fun h16 => ?_) (fun h16 => ?_)
    · skip
      refine r_aload_n hC (q := 24) dX4_setReturn_23 rfl rfl ?_
      refine g_X4 hC 0 i_X4 l_7 (by decide) (q := 27) dX4_setReturn_24 rfl rfl ?_
      refine r_iload_n hC (q := 28) dX4_setReturn_27 rfl rfl ?_
      refine r_top (y := nI (tn x)) ex ?_
      refine r_cSI hC (q := 31) (n := 1) (As := [_]) (fun lch => c_X4_end lch ) gX4_setReturn_X4_end rfl (by decide +kernel) ⟨by decide, by decide⟩ rfl rfl rfl (Nat.le_of_ble_eq_true rfl) dX4_setReturn_28 rfl ?_
      rintro _ _ ⟨rfl, rfl⟩
      refine r_iaN hC (q := 32) dX4_setReturn_31 iA_271 rfl (by omega) rfl ?_
      refine r_istore_n hC (q := 33) (L' := [_, _, _, _]) dX4_setReturn_32 (Nat.le_of_ble_eq_true rfl) rfl rfl ?_
      refine r_aload_n hC (q := 34) dX4_setReturn_33 rfl rfl ?_
      refine r_iload_n hC (q := 35) dX4_setReturn_34 rfl rfl ?_
      refine r_top (y := nI (tn x)) ex ?_
      refine r_iconst hC (x := 2) (q := 36) dX4_setReturn_35 (by decide) rfl ?_
      refine r_iload_n hC (q := 37) dX4_setReturn_36 rfl rfl ?_
      refine r_iconst hC (x := 0) (q := 38) dX4_setReturn_37 (by decide) rfl ?_
      refine r_iconst hC (x := 0) (q := 39) dX4_setReturn_38 (by decide) rfl ?_
      refine r_cVV hC (q := 42) (n := 5) (As := [_, _, _, _, _]) (fun lch => c_X4_terminate lch (by omega)) gX4_setReturn_X4_terminate rfl (by decide +kernel) ⟨by decide, by decide⟩ ob_270 rfl rfl rfl rfl (Nat.le_of_ble_eq_true rfl) dX4_setReturn_39 rfl ?_
      rintro _ rfl
      refine r_iload_n hC (q := 43) dX4_setReturn_42 rfl rfl ?_
      exact hR _ _ _ _ dX4_setReturn_43 ⟨by rw [if_pos h5, if_pos h16], by rw [if_pos (by simp [h5, h16])]⟩
    · skip
      refine r_sipush hC (x := (-1003)) (q := 22) dX4_setReturn_19 (by decide) rfl ?_
      exact hR _ _ _ _ dX4_setReturn_22 ⟨by rw [if_pos h5, if_neg h16], by rw [if_neg (by simp [h5, h16])]⟩
  · skip
    refine r_sipush hC (x := (-1001)) (q := 11) dX4_setReturn_8 (by decide) rfl ?_
    exact hR _ _ _ _ dX4_setReturn_11 ⟨by rw [if_neg h5], by rw [if_neg (by simp [h5])]⟩
theorem c_X4_setReturn (l : Launch) {G : GG} {v : VV} {c : Nat} {x z : Int32} (hM : MW (v 271) c) : MtI l G yX4_setReturn wsX4_setReturn 3 65 [.ref (G.1 270), .int x, .int z] v (fun r v' => r = (if inb x c = true then (if isG z = true then v 271 (10 + 55 * tn x + 51) else -1003) else -1001) ∧ v' = (if (inb x c && isG z) = true then mtm v (tn x) 2 z 0 0 else v)) := mt_int (Or.inl rfl) (by decide) rfl (by simp [Value.category]) (Nat.le_of_ble_eq_true rfl) rfl rfl (fun E hC hR => b_X4_setReturn hC hR hM)

set_option maxRecDepth 100000 in
set_option maxHeartbeats 4000000 in
theorem b_X4_blockCount {E : TE} {G : GG} {v : VV} {c : Nat}  (hC : Cx E G cX4_blockCount RX4 1 wsX4_blockCount 0 0) (hR : RtI E G cX4_blockCount (fun r v' => r = nI c ∧ v = v')) (hM : MW (v 271) c) : Wv E G v 0 [some (.ref (G.1 270))] [] := by
  have i_X4 : ∀ w ∈ wsX40, w ∈ wsX4_blockCount := by decide +kernel
  have l_7 : lnk E RX4 7 (TX4 0) := hC.fl (by decide +kernel)
  refine r_aload_n hC (q := 1) dX4_blockCount_0 rfl rfl ?_
  refine g_X4 hC 0 i_X4 l_7 (by decide) (q := 4) dX4_blockCount_1 rfl rfl ?_
  refine r_iconst hC (x := 0) (q := 5) dX4_blockCount_4 (by decide) rfl ?_
  refine r_iaN hC (q := 6) (i := 0) dX4_blockCount_5 iA_271 rfl (by omega) rfl ?_
  refine r_top (y := nI c) hM.1 ?_
  exact hR _ _ _ _ dX4_blockCount_6 ⟨rfl, rfl⟩
theorem c_X4_blockCount (l : Launch) {G : GG} {v : VV} {c : Nat}  (hM : MW (v 271) c) : MtI l G yX4_blockCount wsX4_blockCount 0 0 [.ref (G.1 270)] v (fun r v' => r = nI c ∧ v = v') := mt_int (Or.inl rfl) (by decide) rfl (by simp [Value.category]) (Nat.le_of_ble_eq_true rfl) rfl rfl (fun E hC hR => b_X4_blockCount hC hR hM)

set_option maxRecDepth 100000 in
set_option maxHeartbeats 4000000 in
theorem b_X4_instructionCount {E : TE} {G : GG} {v : VV} {c : Nat} {x : Int32} (hC : Cx E G cX4_instructionCount RX4 2 wsX4_instructionCount 2 43) (hR : RtI E G cX4_instructionCount (fun r v' => r = q_cnt c (mw (v 271)) x ∧ v = v')) (hM : MW (v 271) c) : Wv E G v 0 [some (.ref (G.1 270)), some (.int x)] [] := by
  have h12 := hM.2.1
  refine r_aload_n hC (q := 1) dX4_instructionCount_0 rfl rfl ?_
  refine r_iload_n hC (q := 2) dX4_instructionCount_1 rfl rfl ?_
  refine r_cVI hC (q := 5) (n := 1) (As := [_]) (fun lch => c_X4_isBlock lch hM) gX4_instructionCount_X4_isBlock rfl (by decide +kernel) ⟨by decide, by decide⟩ ob_270 rfl rfl rfl rfl (Nat.le_of_ble_eq_true rfl) dX4_instructionCount_2 rfl ?_
  rintro _ _ ⟨rfl, rfl⟩
  refine r_if_eqB hC (q := 8) (t := 16) dX4_instructionCount_5 (by decide) rfl (fun h5 => ?_) (fun h5 => ?_)
  · skip
    refine r_sipush hC (x := (-1001)) (q := 19) dX4_instructionCount_16 (by decide) rfl ?_
    exact hR _ _ _ _ dX4_instructionCount_19 ⟨by rw [q_cnt, if_neg h5], rfl⟩
  · obtain ⟨ex, bx⟩ := inb_tn (by omega) h5
    refine r_aload_n hC (q := 9) dX4_instructionCount_8 rfl rfl ?_
    refine r_iload_n hC (q := 10) dX4_instructionCount_9 rfl rfl ?_
    refine r_top (y := nI (tn x)) ex ?_
    refine r_cVI hC (q := 13) (n := 1) (As := [_]) (fun lch => c_X4_many lch (by omega)) gX4_instructionCount_X4_many rfl (by decide +kernel) ⟨by decide, by decide⟩ ob_270 rfl rfl rfl rfl (Nat.le_of_ble_eq_true rfl) dX4_instructionCount_10 rfl ?_
    rintro _ _ ⟨rfl, rfl⟩
    refine r_top (y := nI (mnb (v 271) (tn x))) (hM.2.2 _ bx).1 ?_
    refine r_goto hC (t := 19) dX4_instructionCount_13 (by decide) ?_
    exact hR _ _ _ _ dX4_instructionCount_19 ⟨by rw [q_cnt, if_pos h5]; rfl, rfl⟩
theorem c_X4_instructionCount (l : Launch) {G : GG} {v : VV} {c : Nat} {x : Int32} (hM : MW (v 271) c) : MtI l G yX4_instructionCount wsX4_instructionCount 2 43 [.ref (G.1 270), .int x] v (fun r v' => r = q_cnt c (mw (v 271)) x ∧ v = v') := mt_int (Or.inl rfl) (by decide) rfl (by simp [Value.category]) (Nat.le_of_ble_eq_true rfl) rfl rfl (fun E hC hR => b_X4_instructionCount hC hR hM)

theorem q_fld1 {f c : Nat} {B : Nat → Bv} {x y : Int32} {n : Nat} (h : inb x c = true) (hn : (B (tn x)).1 = n) (hy : inb y n = true) : q_fld f c B x y = (B (tn x)).2.1 f (tn y) := by
  rw [q_fld, if_pos h, hn, if_pos hy]
theorem q_fld2 {f c : Nat} {B : Nat → Bv} {x y : Int32} {n : Nat} (h : inb x c = true) (hn : (B (tn x)).1 = n) (hy : ¬ inb y n = true) : q_fld f c B x y = -1002 := by
  rw [q_fld, if_pos h, hn, if_neg hy]

set_option maxRecDepth 100000 in
set_option maxHeartbeats 4000000 in
theorem b_X4_field {E : TE} {G : GG} {v : VV} {c : Nat} {f : Nat} {x y z : Int32} (hC : Cx E G cX4_field RX4 4 wsX4_field 2 43) (hR : RtI E G cX4_field (fun r v' => r = q_fld f c (mw (v 271)) x y ∧ v = v')) (hM : MW (v 271) c) (hz : z = nI f) (hf : f < 5) : Wv E G v 0 [some (.ref (G.1 270)), some (.int x), some (.int y), some (.int z)] [] := by
  have h12 := hM.2.1
  have i_X4 : ∀ w ∈ wsX40, w ∈ wsX4_field := by decide +kernel
  have l_7 : lnk E RX4 7 (TX4 0) := hC.fl (by decide +kernel)
  refine r_aload_n hC (q := 1) dX4_field_0 rfl rfl ?_
  refine r_iload_n hC (q := 2) dX4_field_1 rfl rfl ?_
  refine r_cVI hC (q := 5) (n := 1) (As := [_]) (fun lch => c_X4_isBlock lch hM) gX4_field_X4_isBlock rfl (by decide +kernel) ⟨by decide, by decide⟩ ob_270 rfl rfl rfl rfl (Nat.le_of_ble_eq_true rfl) dX4_field_2 rfl ?_
  rintro _ _ ⟨rfl, rfl⟩
  refine r_if_neB hC (q := 8) (t := 12) dX4_field_5 (by decide) rfl (fun h5 => ?_) (fun h5 => ?_)
  · obtain ⟨ex, bx⟩ := inb_tn (by omega) h5; have hn := (hM.2.2 _ bx).2
    refine r_iload_n hC (q := 13) dX4_field_12 rfl rfl ?_
    refine r_iconst hC (x := 0) (q := 14) dX4_field_13 (by decide) rfl ?_
    refine r_aload_n hC (q := 15) dX4_field_14 rfl rfl ?_
    refine r_iload_n hC (q := 16) dX4_field_15 rfl rfl ?_
    refine r_top (y := nI (tn x)) ex ?_
    refine r_cVI hC (q := 19) (n := 1) (As := [_]) (fun lch => c_X4_many lch (by omega)) gX4_field_X4_many rfl (by decide +kernel) ⟨by decide, by decide⟩ ob_270 rfl rfl rfl rfl (Nat.le_of_ble_eq_true rfl) dX4_field_16 rfl ?_
    rintro _ _ ⟨rfl, rfl⟩
    refine r_top (y := nI (mnb (v 271) (tn x))) (hM.2.2 _ bx).1 ?_
    refine r_iconst hC (x := 1) (q := 20) dX4_field_19 (by decide) rfl ?_
    refine r_isub hC (q := 21) dX4_field_20 rfl ?_
    refine r_cSI hC (q := 24) (n := 3) (As := [_, _, _]) (fun lch => c_X4_in lch ) gX4_field_X4_in rfl (by decide +kernel) ⟨by decide, by decide⟩ rfl rfl rfl (Nat.le_of_ble_eq_true rfl) dX4_field_21 rfl ?_
    rintro _ _ ⟨rfl, rfl⟩
    refine r_if_eqB hC (q := 27) (t := 42) dX4_field_24 (by decide) rfl (fun h24 => ?_) (fun h24 => ?_)
    · rw [inR_c (by omega)] at h24
      refine r_sipush hC (x := (-1002)) (q := 45) dX4_field_42 (by decide) rfl ?_
      exact hR _ _ _ _ dX4_field_45 ⟨(q_fld2 (B := mw (v 271)) h5 rfl h24).symm, rfl⟩
    · rw [inR_c (by omega)] at h24; obtain ⟨ey, by1⟩ := inb_tn (by omega) h24
      refine r_aload_n hC (q := 28) dX4_field_27 rfl rfl ?_
      refine g_X4 hC 0 i_X4 l_7 (by decide) (q := 31) dX4_field_28 rfl rfl ?_
      refine r_iload_n hC (q := 32) dX4_field_31 rfl rfl ?_
      refine r_top (y := nI (tn x)) ex ?_
      refine r_iload_n hC (q := 33) dX4_field_32 rfl rfl ?_
      refine r_top (y := nI (tn y)) ey ?_
      refine r_cSI hC (q := 36) (n := 2) (As := [_, _]) (fun lch => c_X4_at lch ) gX4_field_X4_at rfl (by decide +kernel) ⟨by decide, by decide⟩ rfl rfl rfl (Nat.le_of_ble_eq_true rfl) dX4_field_33 rfl ?_
      rintro _ _ ⟨rfl, rfl⟩
      refine r_iload_n hC (q := 37) dX4_field_36 rfl rfl ?_
      refine r_top (y := nI f) hz ?_
      refine r_iaddN hC (q := 38) dX4_field_37 rfl rfl rfl ?_
      refine r_iaN hC (q := 39) dX4_field_38 iA_271 rfl (by omega) rfl ?_
      refine r_goto hC (t := 45) dX4_field_39 (by decide) ?_
      exact hR _ _ _ _ dX4_field_45 ⟨(q_fld1 (B := mw (v 271)) h5 rfl h24).symm, rfl⟩
  · skip
    refine r_sipush hC (x := (-1001)) (q := 11) dX4_field_8 (by decide) rfl ?_
    exact hR _ _ _ _ dX4_field_11 ⟨by rw [q_fld, if_neg h5], rfl⟩
theorem c_X4_field (l : Launch) {G : GG} {v : VV} {c : Nat} {f : Nat} {x y z : Int32} (hM : MW (v 271) c) (hz : z = nI f) (hf : f < 5) : MtI l G yX4_field wsX4_field 2 43 [.ref (G.1 270), .int x, .int y, .int z] v (fun r v' => r = q_fld f c (mw (v 271)) x y ∧ v = v') := mt_int (Or.inl rfl) (by decide) rfl (by simp [Value.category]) (Nat.le_of_ble_eq_true rfl) rfl rfl (fun E hC hR => b_X4_field hC hR hM hz hf)

set_option maxRecDepth 100000 in
set_option maxHeartbeats 4000000 in
theorem b_X4_opcode {E : TE} {G : GG} {v : VV} {c : Nat} {x y : Int32} (hC : Cx E G cX4_opcode RX4 3 wsX4_opcode 3 66) (hR : RtI E G cX4_opcode (fun r v' => r = q_fld 0 c (mw (v 271)) x y ∧ v = v')) (hM : MW (v 271) c) : Wv E G v 0 [some (.ref (G.1 270)), some (.int x), some (.int y)] [] := by
  refine r_aload_n hC (q := 1) dX4_opcode_0 rfl rfl ?_
  refine r_iload_n hC (q := 2) dX4_opcode_1 rfl rfl ?_
  refine r_iload_n hC (q := 3) dX4_opcode_2 rfl rfl ?_
  refine r_iconst hC (x := 0) (q := 4) dX4_opcode_3 (by decide) rfl ?_
  refine r_cVI hC (q := 7) (n := 3) (As := [_, _, _]) (fun lch => c_X4_field lch (f := 0) hM rfl (by omega)) gX4_opcode_X4_field rfl (by decide +kernel) ⟨by decide, by decide⟩ ob_270 rfl rfl rfl rfl (Nat.le_of_ble_eq_true rfl) dX4_opcode_4 rfl ?_
  rintro _ _ ⟨rfl, rfl⟩
  exact hR _ _ _ _ dX4_opcode_7 ⟨rfl, rfl⟩
theorem c_X4_opcode (l : Launch) {G : GG} {v : VV} {c : Nat} {x y : Int32} (hM : MW (v 271) c) : MtI l G yX4_opcode wsX4_opcode 3 66 [.ref (G.1 270), .int x, .int y] v (fun r v' => r = q_fld 0 c (mw (v 271)) x y ∧ v = v') := mt_int (Or.inl rfl) (by decide) rfl (by simp [Value.category]) (Nat.le_of_ble_eq_true rfl) rfl rfl (fun E hC hR => b_X4_opcode hC hR hM)

set_option maxRecDepth 100000 in
set_option maxHeartbeats 4000000 in
theorem b_X4_destination {E : TE} {G : GG} {v : VV} {c : Nat} {x y : Int32} (hC : Cx E G cX4_destination RX4 3 wsX4_destination 3 66) (hR : RtI E G cX4_destination (fun r v' => r = q_fld 1 c (mw (v 271)) x y ∧ v = v')) (hM : MW (v 271) c) : Wv E G v 0 [some (.ref (G.1 270)), some (.int x), some (.int y)] [] := by
  refine r_aload_n hC (q := 1) dX4_destination_0 rfl rfl ?_
  refine r_iload_n hC (q := 2) dX4_destination_1 rfl rfl ?_
  refine r_iload_n hC (q := 3) dX4_destination_2 rfl rfl ?_
  refine r_iconst hC (x := 1) (q := 4) dX4_destination_3 (by decide) rfl ?_
  refine r_cVI hC (q := 7) (n := 3) (As := [_, _, _]) (fun lch => c_X4_field lch (f := 1) hM rfl (by omega)) gX4_destination_X4_field rfl (by decide +kernel) ⟨by decide, by decide⟩ ob_270 rfl rfl rfl rfl (Nat.le_of_ble_eq_true rfl) dX4_destination_4 rfl ?_
  rintro _ _ ⟨rfl, rfl⟩
  exact hR _ _ _ _ dX4_destination_7 ⟨rfl, rfl⟩
theorem c_X4_destination (l : Launch) {G : GG} {v : VV} {c : Nat} {x y : Int32} (hM : MW (v 271) c) : MtI l G yX4_destination wsX4_destination 3 66 [.ref (G.1 270), .int x, .int y] v (fun r v' => r = q_fld 1 c (mw (v 271)) x y ∧ v = v') := mt_int (Or.inl rfl) (by decide) rfl (by simp [Value.category]) (Nat.le_of_ble_eq_true rfl) rfl rfl (fun E hC hR => b_X4_destination hC hR hM)

set_option maxRecDepth 100000 in
set_option maxHeartbeats 4000000 in
theorem b_X4_operandA {E : TE} {G : GG} {v : VV} {c : Nat} {x y : Int32} (hC : Cx E G cX4_operandA RX4 3 wsX4_operandA 3 66) (hR : RtI E G cX4_operandA (fun r v' => r = q_fld 2 c (mw (v 271)) x y ∧ v = v')) (hM : MW (v 271) c) : Wv E G v 0 [some (.ref (G.1 270)), some (.int x), some (.int y)] [] := by
  refine r_aload_n hC (q := 1) dX4_operandA_0 rfl rfl ?_
  refine r_iload_n hC (q := 2) dX4_operandA_1 rfl rfl ?_
  refine r_iload_n hC (q := 3) dX4_operandA_2 rfl rfl ?_
  refine r_iconst hC (x := 2) (q := 4) dX4_operandA_3 (by decide) rfl ?_
  refine r_cVI hC (q := 7) (n := 3) (As := [_, _, _]) (fun lch => c_X4_field lch (f := 2) hM rfl (by omega)) gX4_operandA_X4_field rfl (by decide +kernel) ⟨by decide, by decide⟩ ob_270 rfl rfl rfl rfl (Nat.le_of_ble_eq_true rfl) dX4_operandA_4 rfl ?_
  rintro _ _ ⟨rfl, rfl⟩
  exact hR _ _ _ _ dX4_operandA_7 ⟨rfl, rfl⟩
theorem c_X4_operandA (l : Launch) {G : GG} {v : VV} {c : Nat} {x y : Int32} (hM : MW (v 271) c) : MtI l G yX4_operandA wsX4_operandA 3 66 [.ref (G.1 270), .int x, .int y] v (fun r v' => r = q_fld 2 c (mw (v 271)) x y ∧ v = v') := mt_int (Or.inl rfl) (by decide) rfl (by simp [Value.category]) (Nat.le_of_ble_eq_true rfl) rfl rfl (fun E hC hR => b_X4_operandA hC hR hM)

set_option maxRecDepth 100000 in
set_option maxHeartbeats 4000000 in
theorem b_X4_operandB {E : TE} {G : GG} {v : VV} {c : Nat} {x y : Int32} (hC : Cx E G cX4_operandB RX4 3 wsX4_operandB 3 66) (hR : RtI E G cX4_operandB (fun r v' => r = q_fld 3 c (mw (v 271)) x y ∧ v = v')) (hM : MW (v 271) c) : Wv E G v 0 [some (.ref (G.1 270)), some (.int x), some (.int y)] [] := by
  refine r_aload_n hC (q := 1) dX4_operandB_0 rfl rfl ?_
  refine r_iload_n hC (q := 2) dX4_operandB_1 rfl rfl ?_
  refine r_iload_n hC (q := 3) dX4_operandB_2 rfl rfl ?_
  refine r_iconst hC (x := 3) (q := 4) dX4_operandB_3 (by decide) rfl ?_
  refine r_cVI hC (q := 7) (n := 3) (As := [_, _, _]) (fun lch => c_X4_field lch (f := 3) hM rfl (by omega)) gX4_operandB_X4_field rfl (by decide +kernel) ⟨by decide, by decide⟩ ob_270 rfl rfl rfl rfl (Nat.le_of_ble_eq_true rfl) dX4_operandB_4 rfl ?_
  rintro _ _ ⟨rfl, rfl⟩
  exact hR _ _ _ _ dX4_operandB_7 ⟨rfl, rfl⟩
theorem c_X4_operandB (l : Launch) {G : GG} {v : VV} {c : Nat} {x y : Int32} (hM : MW (v 271) c) : MtI l G yX4_operandB wsX4_operandB 3 66 [.ref (G.1 270), .int x, .int y] v (fun r v' => r = q_fld 3 c (mw (v 271)) x y ∧ v = v') := mt_int (Or.inl rfl) (by decide) rfl (by simp [Value.category]) (Nat.le_of_ble_eq_true rfl) rfl rfl (fun E hC hR => b_X4_operandB hC hR hM)

set_option maxRecDepth 100000 in
set_option maxHeartbeats 4000000 in
theorem b_X4_lines {E : TE} {G : GG} {v : VV} {c : Nat} {x y : Int32} (hC : Cx E G cX4_lines RX4 3 wsX4_lines 3 66) (hR : RtI E G cX4_lines (fun r v' => r = q_fld 4 c (mw (v 271)) x y ∧ v = v')) (hM : MW (v 271) c) : Wv E G v 0 [some (.ref (G.1 270)), some (.int x), some (.int y)] [] := by
  refine r_aload_n hC (q := 1) dX4_lines_0 rfl rfl ?_
  refine r_iload_n hC (q := 2) dX4_lines_1 rfl rfl ?_
  refine r_iload_n hC (q := 3) dX4_lines_2 rfl rfl ?_
  refine r_iconst hC (x := 4) (q := 4) dX4_lines_3 (by decide) rfl ?_
  refine r_cVI hC (q := 7) (n := 3) (As := [_, _, _]) (fun lch => c_X4_field lch (f := 4) hM rfl (by omega)) gX4_lines_X4_field rfl (by decide +kernel) ⟨by decide, by decide⟩ ob_270 rfl rfl rfl rfl (Nat.le_of_ble_eq_true rfl) dX4_lines_4 rfl ?_
  rintro _ _ ⟨rfl, rfl⟩
  exact hR _ _ _ _ dX4_lines_7 ⟨rfl, rfl⟩
theorem c_X4_lines (l : Launch) {G : GG} {v : VV} {c : Nat} {x y : Int32} (hM : MW (v 271) c) : MtI l G yX4_lines wsX4_lines 3 66 [.ref (G.1 270), .int x, .int y] v (fun r v' => r = q_fld 4 c (mw (v 271)) x y ∧ v = v') := mt_int (Or.inl rfl) (by decide) rfl (by simp [Value.category]) (Nat.le_of_ble_eq_true rfl) rfl rfl (fun E hC hR => b_X4_lines hC hR hM)

set_option maxRecDepth 100000 in
set_option maxHeartbeats 4000000 in
theorem b_X4_terminatorKind {E : TE} {G : GG} {v : VV} {c : Nat} {x : Int32} (hC : Cx E G cX4_terminatorKind RX4 2 wsX4_terminatorKind 2 43) (hR : RtI E G cX4_terminatorKind (fun r v' => r = q_kind c (mw (v 271)) x ∧ v = v')) (hM : MW (v 271) c) : Wv E G v 0 [some (.ref (G.1 270)), some (.int x)] [] := by
  have h12 := hM.2.1
  have i_X4 : ∀ w ∈ wsX40, w ∈ wsX4_terminatorKind := by decide +kernel
  have l_7 : lnk E RX4 7 (TX4 0) := hC.fl (by decide +kernel)
  refine r_aload_n hC (q := 1) dX4_terminatorKind_0 rfl rfl ?_
  refine r_iload_n hC (q := 2) dX4_terminatorKind_1 rfl rfl ?_
  refine r_cVI hC (q := 5) (n := 1) (As := [_]) (fun lch => c_X4_isBlock lch hM) gX4_terminatorKind_X4_isBlock rfl (by decide +kernel) ⟨by decide, by decide⟩ ob_270 rfl rfl rfl rfl (Nat.le_of_ble_eq_true rfl) dX4_terminatorKind_2 rfl ?_
  rintro _ _ ⟨rfl, rfl⟩
  refine r_if_eqB hC (q := 8) (t := 20) dX4_terminatorKind_5 (by decide) rfl (fun h5 => ?_) (fun h5 => ?_)
  · skip
    refine r_sipush hC (x := (-1001)) (q := 23) dX4_terminatorKind_20 (by decide) rfl ?_
    exact hR _ _ _ _ dX4_terminatorKind_23 ⟨by rw [q_kind, if_neg h5], rfl⟩
  · obtain ⟨ex, bx⟩ := inb_tn (by omega) h5
    refine r_aload_n hC (q := 9) dX4_terminatorKind_8 rfl rfl ?_
    refine g_X4 hC 0 i_X4 l_7 (by decide) (q := 12) dX4_terminatorKind_9 rfl rfl ?_
    refine r_iload_n hC (q := 13) dX4_terminatorKind_12 rfl rfl ?_
    refine r_top (y := nI (tn x)) ex ?_
    refine r_cSI hC (q := 16) (n := 1) (As := [_]) (fun lch => c_X4_end lch ) gX4_terminatorKind_X4_end rfl (by decide +kernel) ⟨by decide, by decide⟩ rfl rfl rfl (Nat.le_of_ble_eq_true rfl) dX4_terminatorKind_13 rfl ?_
    rintro _ _ ⟨rfl, rfl⟩
    refine r_iaN hC (q := 17) dX4_terminatorKind_16 iA_271 rfl (by omega) rfl ?_
    refine r_goto hC (t := 23) dX4_terminatorKind_17 (by decide) ?_
    exact hR _ _ _ _ dX4_terminatorKind_23 ⟨by rw [q_kind, if_pos h5]; rfl, rfl⟩
theorem c_X4_terminatorKind (l : Launch) {G : GG} {v : VV} {c : Nat} {x : Int32} (hM : MW (v 271) c) : MtI l G yX4_terminatorKind wsX4_terminatorKind 2 43 [.ref (G.1 270), .int x] v (fun r v' => r = q_kind c (mw (v 271)) x ∧ v = v') := mt_int (Or.inl rfl) (by decide) rfl (by simp [Value.category]) (Nat.le_of_ble_eq_true rfl) rfl rfl (fun E hC hR => b_X4_terminatorKind hC hR hM)

set_option maxRecDepth 100000 in
set_option maxHeartbeats 4000000 in
theorem b_X4_terminatorOperand {E : TE} {G : GG} {v : VV} {c : Nat} {x y : Int32} (hC : Cx E G cX4_terminatorOperand RX4 4 wsX4_terminatorOperand 2 43) (hR : RtI E G cX4_terminatorOperand (fun r v' => r = q_opd c (mw (v 271)) x y ∧ v = v')) (hM : MW (v 271) c) : Wv E G v 0 [some (.ref (G.1 270)), some (.int x), some (.int y), none] [] := by
  have h12 := hM.2.1
  have i_X4 : ∀ w ∈ wsX40, w ∈ wsX4_terminatorOperand := by decide +kernel
  have l_7 : lnk E RX4 7 (TX4 0) := hC.fl (by decide +kernel)
  refine r_aload_n hC (q := 1) dX4_terminatorOperand_0 rfl rfl ?_
  refine r_iload_n hC (q := 2) dX4_terminatorOperand_1 rfl rfl ?_
  refine r_cVI hC (q := 5) (n := 1) (As := [_]) (fun lch => c_X4_isBlock lch hM) gX4_terminatorOperand_X4_isBlock rfl (by decide +kernel) ⟨by decide, by decide⟩ ob_270 rfl rfl rfl rfl (Nat.le_of_ble_eq_true rfl) dX4_terminatorOperand_2 rfl ?_
  rintro _ _ ⟨rfl, rfl⟩
  refine r_if_neB hC (q := 8) (t := 12) dX4_terminatorOperand_5 (by decide) rfl (fun h5 => ?_) (fun h5 => ?_)
  · obtain ⟨ex, bx⟩ := inb_tn (by omega) h5
    refine r_aload_n hC (q := 13) dX4_terminatorOperand_12 rfl rfl ?_
    refine g_X4 hC 0 i_X4 l_7 (by decide) (q := 16) dX4_terminatorOperand_13 rfl rfl ?_
    refine r_iload_n hC (q := 17) dX4_terminatorOperand_16 rfl rfl ?_
    refine r_top (y := nI (tn x)) ex ?_
    refine r_cSI hC (q := 20) (n := 1) (As := [_]) (fun lch => c_X4_end lch ) gX4_terminatorOperand_X4_end rfl (by decide +kernel) ⟨by decide, by decide⟩ rfl rfl rfl (Nat.le_of_ble_eq_true rfl) dX4_terminatorOperand_17 rfl ?_
    rintro _ _ ⟨rfl, rfl⟩
    refine r_iaN hC (q := 21) dX4_terminatorOperand_20 iA_271 rfl (by omega) rfl ?_
    refine r_iconst hC (x := 1) (q := 22) dX4_terminatorOperand_21 (by decide) rfl ?_
    refine r_icmp_ne hC (q := 25) (t := 29) dX4_terminatorOperand_22 (by decide) rfl (fun h22 => ?_) (fun h22 => ?_)
    · skip
      refine r_iconst hC (x := 0) (q := 30) dX4_terminatorOperand_29 (by decide) rfl ?_
      refine r_istore_n hC (q := 31) (L' := [_, _, _, _]) dX4_terminatorOperand_30 (Nat.le_of_ble_eq_true rfl) rfl rfl ?_
      refine r_iload_n hC (q := 32) dX4_terminatorOperand_31 rfl rfl ?_
      refine r_iconst hC (x := 0) (q := 33) dX4_terminatorOperand_32 (by decide) rfl ?_
      refine r_iload_n hC (q := 34) dX4_terminatorOperand_33 rfl rfl ?_
      refine r_cSI hC (q := 37) (n := 3) (As := [_, _, _]) (fun lch => c_X4_in lch ) gX4_terminatorOperand_X4_in rfl (by decide +kernel) ⟨by decide, by decide⟩ rfl rfl rfl (Nat.le_of_ble_eq_true rfl) dX4_terminatorOperand_34 rfl ?_
      rintro _ _ ⟨rfl, rfl⟩
      refine r_if_eqB hC (q := 40) (t := 56) dX4_terminatorOperand_37 (by decide) rfl (fun h37 => ?_) (fun h37 => ?_)
      · rw [show inR y 0 0 = inb y 1 from inR_n (n := 0) (by omega)] at h37
        refine r_sipush hC (x := (-1008)) (q := 59) dX4_terminatorOperand_56 (by decide) rfl ?_
        exact hR _ _ _ _ dX4_terminatorOperand_59 ⟨(q_opd2 (B := mw (v 271)) (n := 1) h5 (if_neg h22) h37).symm, rfl⟩
      · rw [show inR y 0 0 = inb y 1 from inR_n (n := 0) (by omega)] at h37; obtain ⟨ey, by1⟩ := inb_tn (by omega) h37
        refine r_aload_n hC (q := 41) dX4_terminatorOperand_40 rfl rfl ?_
        refine g_X4 hC 0 i_X4 l_7 (by decide) (q := 44) dX4_terminatorOperand_41 rfl rfl ?_
        refine r_iload_n hC (q := 45) dX4_terminatorOperand_44 rfl rfl ?_
        refine r_top (y := nI (tn x)) ex ?_
        refine r_cSI hC (q := 48) (n := 1) (As := [_]) (fun lch => c_X4_end lch ) gX4_terminatorOperand_X4_end rfl (by decide +kernel) ⟨by decide, by decide⟩ rfl rfl rfl (Nat.le_of_ble_eq_true rfl) dX4_terminatorOperand_45 rfl ?_
        rintro _ _ ⟨rfl, rfl⟩
        refine r_iconst hC (x := 1) (q := 49) dX4_terminatorOperand_48 (by decide) rfl ?_
        refine r_iaddN hC (q := 50) (b := 1) dX4_terminatorOperand_49 rfl rfl rfl ?_
        refine r_iload_n hC (q := 51) dX4_terminatorOperand_50 rfl rfl ?_
        refine r_top (y := nI (tn y)) ey ?_
        refine r_iaddN hC (q := 52) dX4_terminatorOperand_51 rfl rfl rfl ?_
        refine r_iaN hC (q := 53) dX4_terminatorOperand_52 iA_271 rfl (by omega) rfl ?_
        refine r_goto hC (t := 59) dX4_terminatorOperand_53 (by decide) ?_
        exact hR _ _ _ _ dX4_terminatorOperand_59 ⟨((q_opd1 (B := mw (v 271)) (n := 1) h5 (if_neg h22) h37).trans (by show v 271 _ = v 271 _; congr 1; omega)).symm, rfl⟩
    · skip
      refine r_iconst hC (x := 2) (q := 26) dX4_terminatorOperand_25 (by decide) rfl ?_
      refine r_goto hC (t := 30) dX4_terminatorOperand_26 (by decide) ?_
      refine r_istore_n hC (q := 31) (L' := [_, _, _, _]) dX4_terminatorOperand_30 (Nat.le_of_ble_eq_true rfl) rfl rfl ?_
      refine r_iload_n hC (q := 32) dX4_terminatorOperand_31 rfl rfl ?_
      refine r_iconst hC (x := 0) (q := 33) dX4_terminatorOperand_32 (by decide) rfl ?_
      refine r_iload_n hC (q := 34) dX4_terminatorOperand_33 rfl rfl ?_
      refine r_cSI hC (q := 37) (n := 3) (As := [_, _, _]) (fun lch => c_X4_in lch ) gX4_terminatorOperand_X4_in rfl (by decide +kernel) ⟨by decide, by decide⟩ rfl rfl rfl (Nat.le_of_ble_eq_true rfl) dX4_terminatorOperand_34 rfl ?_
      rintro _ _ ⟨rfl, rfl⟩
      refine r_if_eqB hC (q := 40) (t := 56) dX4_terminatorOperand_37 (by decide) rfl (fun h37 => ?_) (fun h37 => ?_)
      · rw [show inR y 0 2 = inb y 3 from inR_n (n := 2) (by omega)] at h37
        refine r_sipush hC (x := (-1008)) (q := 59) dX4_terminatorOperand_56 (by decide) rfl ?_
        exact hR _ _ _ _ dX4_terminatorOperand_59 ⟨(q_opd2 (B := mw (v 271)) (n := 3) h5 (if_pos h22) h37).symm, rfl⟩
      · rw [show inR y 0 2 = inb y 3 from inR_n (n := 2) (by omega)] at h37; obtain ⟨ey, by1⟩ := inb_tn (by omega) h37
        refine r_aload_n hC (q := 41) dX4_terminatorOperand_40 rfl rfl ?_
        refine g_X4 hC 0 i_X4 l_7 (by decide) (q := 44) dX4_terminatorOperand_41 rfl rfl ?_
        refine r_iload_n hC (q := 45) dX4_terminatorOperand_44 rfl rfl ?_
        refine r_top (y := nI (tn x)) ex ?_
        refine r_cSI hC (q := 48) (n := 1) (As := [_]) (fun lch => c_X4_end lch ) gX4_terminatorOperand_X4_end rfl (by decide +kernel) ⟨by decide, by decide⟩ rfl rfl rfl (Nat.le_of_ble_eq_true rfl) dX4_terminatorOperand_45 rfl ?_
        rintro _ _ ⟨rfl, rfl⟩
        refine r_iconst hC (x := 1) (q := 49) dX4_terminatorOperand_48 (by decide) rfl ?_
        refine r_iaddN hC (q := 50) (b := 1) dX4_terminatorOperand_49 rfl rfl rfl ?_
        refine r_iload_n hC (q := 51) dX4_terminatorOperand_50 rfl rfl ?_
        refine r_top (y := nI (tn y)) ey ?_
        refine r_iaddN hC (q := 52) dX4_terminatorOperand_51 rfl rfl rfl ?_
        refine r_iaN hC (q := 53) dX4_terminatorOperand_52 iA_271 rfl (by omega) rfl ?_
        refine r_goto hC (t := 59) dX4_terminatorOperand_53 (by decide) ?_
        exact hR _ _ _ _ dX4_terminatorOperand_59 ⟨((q_opd1 (B := mw (v 271)) (n := 3) h5 (if_pos h22) h37).trans (by show v 271 _ = v 271 _; congr 1; omega)).symm, rfl⟩
  · skip
    refine r_sipush hC (x := (-1001)) (q := 11) dX4_terminatorOperand_8 (by decide) rfl ?_
    exact hR _ _ _ _ dX4_terminatorOperand_11 ⟨by rw [q_opd, if_neg h5], rfl⟩
theorem c_X4_terminatorOperand (l : Launch) {G : GG} {v : VV} {c : Nat} {x y : Int32} (hM : MW (v 271) c) : MtI l G yX4_terminatorOperand wsX4_terminatorOperand 2 43 [.ref (G.1 270), .int x, .int y] v (fun r v' => r = q_opd c (mw (v 271)) x y ∧ v = v') := mt_int (Or.inl rfl) (by decide) rfl (by simp [Value.category]) (Nat.le_of_ble_eq_true rfl) rfl rfl (fun E hC hR => b_X4_terminatorOperand hC hR hM)
