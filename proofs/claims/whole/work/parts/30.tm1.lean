set_option maxRecDepth 100000 in
set_option maxHeartbeats 4000000 in
theorem b_X0_appendU {E : TE} {G : GG} {v : VV} {k : Nat} {n : Nat} {o d a b e : Int32} (hC : Cx E G cX0_append RX0 7 wsX0_append 0 0) (hR : RtI E G cX0_append (fun r v' => r = (if n < 10 then nI n else -1004) ∧ v' = (if n < 10 then ap v k n o d a b e else v))) (hk : isBk k) (hn : v k 5 = nI n) (h10 : n ≤ 10) : Wv E G v 0 [some (.ref (G.1 k)), some (.int o), some (.int d), some (.int a), some (.int b), some (.int e), none] [] := by
  have i_X0 : ∀ w ∈ wsX00, w ∈ wsX0_append := by decide +kernel
  have l_9 : lnk E RX0 9 (TX0 0) := hC.fl (by decide +kernel)
  have l_15 : lnk E RX0 15 (TX0 1) := hC.fl (by decide +kernel)
  have l_18 : lnk E RX0 18 (TX0 2) := hC.fl (by decide +kernel)
  have l_21 : lnk E RX0 21 (TX0 3) := hC.fl (by decide +kernel)
  have l_24 : lnk E RX0 24 (TX0 4) := hC.fl (by decide +kernel)
  have l_27 : lnk E RX0 27 (TX0 5) := hC.fl (by decide +kernel)
  refine r_aload_n hC (q := 1) dX0_append_0 rfl rfl ?_
  refine g_X0 hC 5 i_X0 l_27 (by decide) (q := 4) dX0_append_1 hk rfl rfl ?_
  refine r_top (y := nI n) hn ?_
  refine r_bipush hC (x := 10) (q := 6) dX0_append_4 (by decide) rfl ?_
  refine r_icmp_ltN hC (q := 9) (t := 13) (b := 10) dX0_append_6 rfl rfl (by omega) (by omega) (by decide) rfl (fun h6 => ?_) (fun h6 => ?_)
  · skip
    refine r_aload_n hC (q := 14) dX0_append_13 rfl rfl ?_
    refine g_X0 hC 5 i_X0 l_27 (by decide) (q := 17) dX0_append_14 hk rfl rfl ?_
    refine r_top (y := nI n) hn ?_
    refine r_istore hC (q := 19) (L' := [_, _, _, _, _, _, _]) dX0_append_17 (Nat.le_of_ble_eq_true rfl) rfl rfl ?_
    refine r_aload_n hC (q := 20) dX0_append_19 rfl rfl ?_
    refine g_X0 hC 0 i_X0 l_9 (by decide) (q := 23) dX0_append_20 hk rfl rfl ?_
    refine r_iload hC (q := 25) dX0_append_23 rfl rfl ?_
    refine r_iload_n hC (q := 26) dX0_append_25 rfl rfl ?_
    refine r_isN hC (q := 27) dX0_append_26 (iA_b1 hk) rfl (by omega) rfl ?_
    refine r_aload_n hC (q := 28) dX0_append_27 rfl rfl ?_
    refine g_X0 hC 1 i_X0 l_15 (by decide) (q := 31) dX0_append_28 hk rfl rfl ?_
    refine r_iload hC (q := 33) dX0_append_31 rfl rfl ?_
    refine r_iload_n hC (q := 34) dX0_append_33 rfl rfl ?_
    refine r_isN hC (q := 35) dX0_append_34 (iA_b2 hk) rfl (by omega) rfl ?_
    refine r_aload_n hC (q := 36) dX0_append_35 rfl rfl ?_
    refine g_X0 hC 2 i_X0 l_18 (by decide) (q := 39) dX0_append_36 hk rfl rfl ?_
    refine r_iload hC (q := 41) dX0_append_39 rfl rfl ?_
    refine r_iload_n hC (q := 42) dX0_append_41 rfl rfl ?_
    refine r_isN hC (q := 43) dX0_append_42 (iA_b3 hk) rfl (by omega) rfl ?_
    refine r_aload_n hC (q := 44) dX0_append_43 rfl rfl ?_
    refine g_X0 hC 3 i_X0 l_21 (by decide) (q := 47) dX0_append_44 hk rfl rfl ?_
    refine r_iload hC (q := 49) dX0_append_47 rfl rfl ?_
    refine r_iload hC (q := 51) dX0_append_49 rfl rfl ?_
    refine r_isN hC (q := 52) dX0_append_51 (iA_b4 hk) rfl (by omega) rfl ?_
    refine r_aload_n hC (q := 53) dX0_append_52 rfl rfl ?_
    refine g_X0 hC 4 i_X0 l_24 (by decide) (q := 56) dX0_append_53 hk rfl rfl ?_
    refine r_iload hC (q := 58) dX0_append_56 rfl rfl ?_
    refine r_iload hC (q := 60) dX0_append_58 rfl rfl ?_
    refine r_isN hC (q := 61) dX0_append_60 (iA_b5 hk) rfl (by omega) rfl ?_
    refine r_aload_n hC (q := 62) dX0_append_61 rfl rfl ?_
    refine r_dup hC (q := 63) rfl dX0_append_62 rfl ?_
    refine g_X0 hC 5 i_X0 l_27 (by decide) (q := 66) dX0_append_63 hk rfl rfl ?_
    refine r_top (y := nI n) (by simp [va_up, hn]) ?_
    refine r_iconst hC (x := 1) (q := 67) dX0_append_66 (by decide) rfl ?_
    refine r_iaddN hC (q := 68) (b := 1) dX0_append_67 rfl rfl rfl ?_
    refine p_X0_5 hC i_X0 l_27 (q := 71) dX0_append_68 hk rfl ?_
    refine r_iload hC (q := 73) dX0_append_71 rfl rfl ?_
    exact hR _ _ _ _ dX0_append_73 ⟨by rw [if_pos h6], by rw [if_pos h6]; rfl⟩
  · skip
    refine r_sipush hC (x := (-1004)) (q := 12) dX0_append_9 (by decide) rfl ?_
    exact hR _ _ _ _ dX0_append_12 ⟨by rw [if_neg (by omega)], by rw [if_neg (by omega)]⟩
theorem c_X0_appendU (l : Launch) {G : GG} {v : VV} {k : Nat} {n : Nat} {o d a b e : Int32} (hk : isBk k) (hn : v k 5 = nI n) (h10 : n ≤ 10) : MtI l G yX0_append wsX0_append 0 0 [.ref (G.1 k), .int o, .int d, .int a, .int b, .int e] v (fun r v' => r = (if n < 10 then nI n else -1004) ∧ v' = (if n < 10 then ap v k n o d a b e else v)) := mt_int (Or.inl rfl) (by decide) rfl (by simp [Value.category]) (Nat.le_of_ble_eq_true rfl) rfl rfl (fun E hC hR => b_X0_appendU hC hR hk hn h10)

set_option maxRecDepth 100000 in
set_option maxHeartbeats 4000000 in
theorem b_X2_appendBlockU {E : TE} {G : GG} {v : VV} {p : Nat} {c : Nat} (hC : Cx E G cX2_appendBlock RX2 2 wsX2_appendBlock 2 45) (hR : RtI E G cX2_appendBlock (fun r v' => r = (if c < 12 then nI c else -1004) ∧ v' = (if c < 12 then nwB v p c else v))) (hp : isPr p) (hc : v p 1 = nI c) (h12 : c ≤ 12) : Wv E G v 0 [some (.ref (G.1 p)), none] [] := by
  have i_X2 : ∀ w ∈ wsX20, w ∈ wsX2_appendBlock := by decide +kernel
  have l_11 : lnk E RX2 11 (TX2 0) := hC.fl (by decide +kernel)
  have l_18 : lnk E RX2 18 (TX2 1) := hC.fl (by decide +kernel)
  refine r_aload_n hC (q := 1) dX2_appendBlock_0 rfl rfl ?_
  refine g_X2 hC 1 i_X2 l_18 (by decide) (q := 4) dX2_appendBlock_1 hp rfl rfl ?_
  refine r_top (y := nI c) hc ?_
  refine r_bipush hC (x := 12) (q := 6) dX2_appendBlock_4 (by decide) rfl ?_
  refine r_icmp_ltN hC (q := 9) (t := 13) (b := 12) dX2_appendBlock_6 rfl rfl (by omega) (by omega) (by decide) rfl (fun h6 => ?_) (fun h6 => ?_)
  · skip
    refine r_aload_n hC (q := 14) dX2_appendBlock_13 rfl rfl ?_
    refine g_X2 hC 1 i_X2 l_18 (by decide) (q := 17) dX2_appendBlock_14 hp rfl rfl ?_
    refine r_top (y := nI c) hc ?_
    refine r_istore_n hC (q := 18) (L' := [_, _]) dX2_appendBlock_17 (Nat.le_of_ble_eq_true rfl) rfl rfl ?_
    refine r_aload_n hC (q := 19) dX2_appendBlock_18 rfl rfl ?_
    refine g_X2 hC 0 i_X2 l_11 (by decide) (q := 22) dX2_appendBlock_19 hp rfl rfl ?_
    refine r_iload_n hC (q := 23) dX2_appendBlock_22 rfl rfl ?_
    refine r_aBN hC (q := 24) dX2_appendBlock_23 hp rfl h6 rfl ?_
    refine r_cNV hC (q := 27) (n := 0) (As := []) (fun lch => c_X0_clear lch (isBk_of hp h6)) ggX2_appendBlock_X0_clear rfl 4 rfl (by decide +kernel) (by decide +kernel) (by decide +kernel) (by decide +kernel) ⟨by decide, by decide⟩ (ob_b (isBk_of hp h6)) rfl rfl rfl rfl (Nat.le_of_ble_eq_true rfl) dX2_appendBlock_24 rfl ?_
    rintro _ rfl
    refine r_aload_n hC (q := 28) dX2_appendBlock_27 rfl rfl ?_
    refine r_dup hC (q := 29) rfl dX2_appendBlock_28 rfl ?_
    refine g_X2 hC 1 i_X2 l_18 (by decide) (q := 32) dX2_appendBlock_29 hp rfl rfl ?_
    refine r_top (y := nI c) (by rw [tm_far (by omega), u2_ne (by omega)]; exact hc) ?_
    refine r_iconst hC (x := 1) (q := 33) dX2_appendBlock_32 (by decide) rfl ?_
    refine r_iaddN hC (q := 34) (b := 1) dX2_appendBlock_33 rfl rfl rfl ?_
    refine p_X2_1 hC i_X2 l_18 (q := 37) dX2_appendBlock_34 hp rfl ?_
    refine r_iload_n hC (q := 38) dX2_appendBlock_37 rfl rfl ?_
    exact hR _ _ _ _ dX2_appendBlock_38 ⟨by rw [if_pos h6], by rw [if_pos h6]; rfl⟩
  · skip
    refine r_sipush hC (x := (-1004)) (q := 12) dX2_appendBlock_9 (by decide) rfl ?_
    exact hR _ _ _ _ dX2_appendBlock_12 ⟨by rw [if_neg (by omega)], by rw [if_neg (by omega)]⟩
theorem c_X2_appendBlockU (l : Launch) {G : GG} {v : VV} {p : Nat} {c : Nat} (hp : isPr p) (hc : v p 1 = nI c) (h12 : c ≤ 12) : MtI l G yX2_appendBlock wsX2_appendBlock 2 45 [.ref (G.1 p)] v (fun r v' => r = (if c < 12 then nI c else -1004) ∧ v' = (if c < 12 then nwB v p c else v)) := mt_int (Or.inl rfl) (by decide) rfl (by simp [Value.category]) (Nat.le_of_ble_eq_true rfl) rfl rfl (fun E hC hR => b_X2_appendBlockU hC hR hp hc h12)

theorem inb_tn {x : Int32} {c : Nat} (hc : c < 2 ^ 31) (h : inb x c = true) : x = nI (tn x) ∧ tn x < c := by
  obtain ⟨j, hj, rfl⟩ := inb_nat hc h
  rw [tn_nI (by omega)]
  exact ⟨rfl, hj⟩
/-! the answers, by a program's number of blocks and its blocks -/
def q_cnt (c : Nat) (B : Nat → Bv) (x : Int32) : Int32 := if inb x c = true then nI (B (tn x)).1 else -1001
def q_err (c : Nat) (B : Nat → Bv) (x y : Int32) : Int32 := if inb x c = true then (if inb y (B (tn x)).1 = true then 0 else -1002) else -1001
def q_fld (f c : Nat) (B : Nat → Bv) (x y : Int32) : Int32 := if inb x c = true then (if inb y (B (tn x)).1 = true then (B (tn x)).2.1 f (tn y) else -1002) else -1001
def q_kind (c : Nat) (B : Nat → Bv) (x : Int32) : Int32 := if inb x c = true then (B (tn x)).2.2 0 else -1001
def q_opd (c : Nat) (B : Nat → Bv) (x y : Int32) : Int32 := if inb x c = true then (if inb y (if (B (tn x)).2.2 0 = 1 then 3 else 1) = true then (B (tn x)).2.2 (tn y + 1) else -1008) else -1001
def q_hash (c : Nat) (B : Nat → Bv) (x y : Int32) : Int32 := if inb x c = true then (if inb y ((B (tn x)).1 + 1) = true then hsh (B (tn x)) (tn y) else -1003) else -1001
def q_pair (c : Nat) (x y : Int32) : Int32 := if (inb x c && inb y c) = true then (if x = y then -1003 else 0) else -1001
def q_two (F : Bv → Bv → Int32) (c : Nat) (B : Nat → Bv) (x y : Int32) : Int32 := if (inb x c && inb y c) = true then (if x = y then -1003 else F (B (tn x)) (B (tn y))) else -1001
def isG (x : Int32) : Bool := inb x 7
def opF (o d a b : Int32) : Bool :=
  if o = 0 then isG d && decide (-999 ≤ a) && decide (a ≤ 999) && decide (b = 0)
  else if o = 1 then isG d && isG a && decide (b = 0)
  else if o = 2 ∨ o = 3 ∨ o = 4 ∨ o = 5 then isG d && isG a && isG b
  else if o = 6 then decide (d = 0) && isG a && decide (b = 0)
  else false
def lnF (l : Int32) : Bool := inb l 31

set_option maxRecDepth 100000 in
set_option maxHeartbeats 4000000 in
theorem b_X3_isGeneral {E : TE} {G : GG} {v : VV} {x : Int32} (hC : Cx E G cX3_isGeneral RX3 1 wsX3_isGeneral 0 0) (hR : RtI E G cX3_isGeneral (fun r v' => r = bI (isG x) ∧ v = v'))  : Wv E G v 0 [some (.int x)] [] := by
  refine r_iload_n hC (q := 1) dX3_isGeneral_0 rfl rfl ?_
  refine r_if_lt hC (q := 4) (t := 14) dX3_isGeneral_1 (by decide) rfl (fun h1 => ?_) (fun h1 => ?_)
  · skip
    refine r_iconst hC (x := 0) (q := 15) dX3_isGeneral_14 (by decide) rfl ?_
    exact hR _ _ _ _ dX3_isGeneral_15 ⟨by first | exact bI_t inb_iff ⟨h1, h7⟩ | exact bI_f inb_iff (fun e => e.1 h1) | exact bI_f inb_iff (fun e => e.2 h7), rfl⟩
  · skip
    refine r_iload_n hC (q := 5) dX3_isGeneral_4 rfl rfl ?_
    refine r_bipush hC (x := 7) (q := 7) dX3_isGeneral_5 (by decide) rfl ?_
    refine r_icmp_ge hC (q := 10) (t := 14) dX3_isGeneral_7 (by decide) rfl (fun h7 => ?_) (fun h7 => ?_)
    · skip
      refine r_iconst hC (x := 0) (q := 15) dX3_isGeneral_14 (by decide) rfl ?_
      exact hR _ _ _ _ dX3_isGeneral_15 ⟨by first | exact bI_t inb_iff ⟨h1, h7⟩ | exact bI_f inb_iff (fun e => e.1 h1) | exact bI_f inb_iff (fun e => e.2 h7), rfl⟩
    · skip
      refine r_iconst hC (x := 1) (q := 11) dX3_isGeneral_10 (by decide) rfl ?_
      refine r_goto hC (t := 15) dX3_isGeneral_11 (by decide) ?_
      exact hR _ _ _ _ dX3_isGeneral_15 ⟨by first | exact bI_t inb_iff ⟨h1, h7⟩ | exact bI_f inb_iff (fun e => e.1 h1) | exact bI_f inb_iff (fun e => e.2 h7), rfl⟩
theorem c_X3_isGeneral (l : Launch) {G : GG} {v : VV} {x : Int32}  : MtI l G yX3_isGeneral wsX3_isGeneral 0 0 [.int x] v (fun r v' => r = bI (isG x) ∧ v = v') := mt_int (Or.inr ⟨rfl, fun r v' h => by rw [h.1]; exact ite01 _⟩) (by decide) rfl (by simp [Value.category]) (Nat.le_of_ble_eq_true rfl) rfl rfl (fun E hC hR => b_X3_isGeneral hC hR )

theorem sw6_ne {x : Int32} (h : x.toInt < 0 ∨ 6 < x.toInt) : ¬ x = 0 ∧ ¬ x = 1 ∧ ¬ x = 2 ∧ ¬ x = 3 ∧ ¬ x = 4 ∧ ¬ x = 5 ∧ ¬ x = 6 := by
  refine ⟨?_, ?_, ?_, ?_, ?_, ?_, ?_⟩ <;> (intro e; rw [e] at h; revert h; decide)
theorem nlt_le {a b : Int32} (h : ¬ a < b) : b ≤ a := Int32.not_lt.mp h

set_option maxRecDepth 100000 in
set_option maxHeartbeats 4000000 in
theorem b_X3_operandsFit {E : TE} {G : GG} {v : VV} {o d a b : Int32} (hC : Cx E G cX3_operandsFit RX3 4 wsX3_operandsFit 1 20) (hR : RtI E G cX3_operandsFit (fun r v' => r = bI (opF o d a b) ∧ v = v'))  : Wv E G v 0 [some (.int o), some (.int d), some (.int a), some (.int b)] [] := by
  refine r_iload_n hC (q := 1) dX3_operandsFit_0 rfl rfl ?_
  refine r_tsw6 hC (td := 147) (t0 := 44) (t1 := 75) (t2 := 99) (t3 := 99) (t4 := 99) (t5 := 99) (t6 := 126) dX3_operandsFit_1 (by decide) (by decide) (by decide) (by decide) (by decide) (by decide) (by decide) (by decide) (fun h1 => ?_) (fun h1 => ?_) (fun h1 => ?_) (fun h1 => ?_) (fun h1 => ?_) (fun h1 => ?_) (fun h1 => ?_) (fun h1 => ?_)
  · skip
    refine r_iconst hC (x := 0) (q := 148) dX3_operandsFit_147 (by decide) rfl ?_
    exact hR _ _ _ _ dX3_operandsFit_148 ⟨by obtain ⟨g0, g1, g2, g3, g4, g5, g6⟩ := sw6_ne h1; simp [opF, g0, g1, g2, g3, g4, g5, g6], rfl⟩
  · skip
    refine r_iload_n hC (q := 45) dX3_operandsFit_44 rfl rfl ?_
    refine r_cSI hC (q := 48) (n := 1) (As := [_]) (fun lch => c_X3_isGeneral lch ) gX3_operandsFit_X3_isGeneral rfl (by decide +kernel) ⟨by decide, by decide⟩ rfl rfl rfl (Nat.le_of_ble_eq_true rfl) dX3_operandsFit_45 rfl ?_
    rintro _ _ ⟨rfl, rfl⟩
    refine r_if_eqB hC (q := 51) (t := 73) dX3_operandsFit_48 (by decide) rfl (fun h48 => ?_) (fun h48 => ?_)
    · skip
      refine r_iconst hC (x := 0) (q := 74) dX3_operandsFit_73 (by decide) rfl ?_
      exact hR _ _ _ _ dX3_operandsFit_74 ⟨by simp [opF, h1, h48, *], rfl⟩
    · skip
      refine r_iload_n hC (q := 52) dX3_operandsFit_51 rfl rfl ?_
      refine r_sipush hC (x := (-999)) (q := 55) dX3_operandsFit_52 (by decide) rfl ?_
      refine r_icmp_lt hC (q := 58) (t := 73) dX3_operandsFit_55 (by decide) rfl (fun h55 => ?_) (fun h55 => ?_)
      · have h55 : ¬ (-999 : Int32) ≤ a := fun e => (Int32.not_lt.mpr e) h55
        refine r_iconst hC (x := 0) (q := 74) dX3_operandsFit_73 (by decide) rfl ?_
        exact hR _ _ _ _ dX3_operandsFit_74 ⟨by simp [opF, h1, h48, h55, *], rfl⟩
      · have h55 := nlt_le h55
        refine r_iload_n hC (q := 59) dX3_operandsFit_58 rfl rfl ?_
        refine r_sipush hC (x := 999) (q := 62) dX3_operandsFit_59 (by decide) rfl ?_
        refine r_icmp_gt hC (q := 65) (t := 73) dX3_operandsFit_62 (by decide) rfl (fun h62 => ?_) (fun h62 => ?_)
        · have h62 : ¬ a ≤ 999 := fun e => (Int32.not_lt.mpr e) h62
          refine r_iconst hC (x := 0) (q := 74) dX3_operandsFit_73 (by decide) rfl ?_
          exact hR _ _ _ _ dX3_operandsFit_74 ⟨by simp [opF, h1, h48, h55, h62, *], rfl⟩
        · have h62 := nlt_le h62
          refine r_iload_n hC (q := 66) dX3_operandsFit_65 rfl rfl ?_
          refine r_if_ne hC (q := 69) (t := 73) dX3_operandsFit_66 (by decide) rfl (fun h66 => ?_) (fun h66 => ?_)
          · skip
            refine r_iconst hC (x := 0) (q := 74) dX3_operandsFit_73 (by decide) rfl ?_
            exact hR _ _ _ _ dX3_operandsFit_74 ⟨by simp [opF, h1, h48, h55, h62, h66, *], rfl⟩
          · skip
            refine r_iconst hC (x := 1) (q := 70) dX3_operandsFit_69 (by decide) rfl ?_
            refine r_goto hC (t := 74) dX3_operandsFit_70 (by decide) ?_
            exact hR _ _ _ _ dX3_operandsFit_74 ⟨by simp [opF, h1, h48, h55, h62, h66, *], rfl⟩
  · skip
    refine r_iload_n hC (q := 76) dX3_operandsFit_75 rfl rfl ?_
    refine r_cSI hC (q := 79) (n := 1) (As := [_]) (fun lch => c_X3_isGeneral lch ) gX3_operandsFit_X3_isGeneral rfl (by decide +kernel) ⟨by decide, by decide⟩ rfl rfl rfl (Nat.le_of_ble_eq_true rfl) dX3_operandsFit_76 rfl ?_
    rintro _ _ ⟨rfl, rfl⟩
    refine r_if_eqB hC (q := 82) (t := 97) dX3_operandsFit_79 (by decide) rfl (fun h79 => ?_) (fun h79 => ?_)
    · skip
      refine r_iconst hC (x := 0) (q := 98) dX3_operandsFit_97 (by decide) rfl ?_
      exact hR _ _ _ _ dX3_operandsFit_98 ⟨by simp [opF, h1, h79, *], rfl⟩
    · skip
      refine r_iload_n hC (q := 83) dX3_operandsFit_82 rfl rfl ?_
      refine r_cSI hC (q := 86) (n := 1) (As := [_]) (fun lch => c_X3_isGeneral lch ) gX3_operandsFit_X3_isGeneral rfl (by decide +kernel) ⟨by decide, by decide⟩ rfl rfl rfl (Nat.le_of_ble_eq_true rfl) dX3_operandsFit_83 rfl ?_
      rintro _ _ ⟨rfl, rfl⟩
      refine r_if_eqB hC (q := 89) (t := 97) dX3_operandsFit_86 (by decide) rfl (fun h86 => ?_) (fun h86 => ?_)
      · skip
        refine r_iconst hC (x := 0) (q := 98) dX3_operandsFit_97 (by decide) rfl ?_
        exact hR _ _ _ _ dX3_operandsFit_98 ⟨by simp [opF, h1, h79, h86, *], rfl⟩
      · skip
        refine r_iload_n hC (q := 90) dX3_operandsFit_89 rfl rfl ?_
        refine r_if_ne hC (q := 93) (t := 97) dX3_operandsFit_90 (by decide) rfl (fun h90 => ?_) (fun h90 => ?_)
        · skip
          refine r_iconst hC (x := 0) (q := 98) dX3_operandsFit_97 (by decide) rfl ?_
          exact hR _ _ _ _ dX3_operandsFit_98 ⟨by simp [opF, h1, h79, h86, h90, *], rfl⟩
        · skip
          refine r_iconst hC (x := 1) (q := 94) dX3_operandsFit_93 (by decide) rfl ?_
          refine r_goto hC (t := 98) dX3_operandsFit_94 (by decide) ?_
          exact hR _ _ _ _ dX3_operandsFit_98 ⟨by simp [opF, h1, h79, h86, h90, *], rfl⟩
  · skip
    refine r_iload_n hC (q := 100) dX3_operandsFit_99 rfl rfl ?_
    refine r_cSI hC (q := 103) (n := 1) (As := [_]) (fun lch => c_X3_isGeneral lch ) gX3_operandsFit_X3_isGeneral rfl (by decide +kernel) ⟨by decide, by decide⟩ rfl rfl rfl (Nat.le_of_ble_eq_true rfl) dX3_operandsFit_100 rfl ?_
    rintro _ _ ⟨rfl, rfl⟩
    refine r_if_eqB hC (q := 106) (t := 124) dX3_operandsFit_103 (by decide) rfl (fun h103 => ?_) (fun h103 => ?_)
    · skip
      refine r_iconst hC (x := 0) (q := 125) dX3_operandsFit_124 (by decide) rfl ?_
      exact hR _ _ _ _ dX3_operandsFit_125 ⟨by simp [opF, h1, h103, *], rfl⟩
    · skip
      refine r_iload_n hC (q := 107) dX3_operandsFit_106 rfl rfl ?_
      refine r_cSI hC (q := 110) (n := 1) (As := [_]) (fun lch => c_X3_isGeneral lch ) gX3_operandsFit_X3_isGeneral rfl (by decide +kernel) ⟨by decide, by decide⟩ rfl rfl rfl (Nat.le_of_ble_eq_true rfl) dX3_operandsFit_107 rfl ?_
      rintro _ _ ⟨rfl, rfl⟩
      refine r_if_eqB hC (q := 113) (t := 124) dX3_operandsFit_110 (by decide) rfl (fun h110 => ?_) (fun h110 => ?_)
      · skip
        refine r_iconst hC (x := 0) (q := 125) dX3_operandsFit_124 (by decide) rfl ?_
        exact hR _ _ _ _ dX3_operandsFit_125 ⟨by simp [opF, h1, h103, h110, *], rfl⟩
      · skip
        refine r_iload_n hC (q := 114) dX3_operandsFit_113 rfl rfl ?_
        refine r_cSI hC (q := 117) (n := 1) (As := [_]) (fun lch => c_X3_isGeneral lch ) gX3_operandsFit_X3_isGeneral rfl (by decide +kernel) ⟨by decide, by decide⟩ rfl rfl rfl (Nat.le_of_ble_eq_true rfl) dX3_operandsFit_114 rfl ?_
        rintro _ _ ⟨rfl, rfl⟩
        refine r_if_eqB hC (q := 120) (t := 124) dX3_operandsFit_117 (by decide) rfl (fun h117 => ?_) (fun h117 => ?_)
        · skip
          refine r_iconst hC (x := 0) (q := 125) dX3_operandsFit_124 (by decide) rfl ?_
          exact hR _ _ _ _ dX3_operandsFit_125 ⟨by simp [opF, h1, h103, h110, h117, *], rfl⟩
        · skip
          refine r_iconst hC (x := 1) (q := 121) dX3_operandsFit_120 (by decide) rfl ?_
          refine r_goto hC (t := 125) dX3_operandsFit_121 (by decide) ?_
          exact hR _ _ _ _ dX3_operandsFit_125 ⟨by simp [opF, h1, h103, h110, h117, *], rfl⟩
  · skip
    refine r_iload_n hC (q := 100) dX3_operandsFit_99 rfl rfl ?_
    refine r_cSI hC (q := 103) (n := 1) (As := [_]) (fun lch => c_X3_isGeneral lch ) gX3_operandsFit_X3_isGeneral rfl (by decide +kernel) ⟨by decide, by decide⟩ rfl rfl rfl (Nat.le_of_ble_eq_true rfl) dX3_operandsFit_100 rfl ?_
    rintro _ _ ⟨rfl, rfl⟩
    refine r_if_eqB hC (q := 106) (t := 124) dX3_operandsFit_103 (by decide) rfl (fun h103 => ?_) (fun h103 => ?_)
    · skip
      refine r_iconst hC (x := 0) (q := 125) dX3_operandsFit_124 (by decide) rfl ?_
      exact hR _ _ _ _ dX3_operandsFit_125 ⟨by simp [opF, h1, h103, *], rfl⟩
    · skip
      refine r_iload_n hC (q := 107) dX3_operandsFit_106 rfl rfl ?_
      refine r_cSI hC (q := 110) (n := 1) (As := [_]) (fun lch => c_X3_isGeneral lch ) gX3_operandsFit_X3_isGeneral rfl (by decide +kernel) ⟨by decide, by decide⟩ rfl rfl rfl (Nat.le_of_ble_eq_true rfl) dX3_operandsFit_107 rfl ?_
      rintro _ _ ⟨rfl, rfl⟩
      refine r_if_eqB hC (q := 113) (t := 124) dX3_operandsFit_110 (by decide) rfl (fun h110 => ?_) (fun h110 => ?_)
      · skip
        refine r_iconst hC (x := 0) (q := 125) dX3_operandsFit_124 (by decide) rfl ?_
        exact hR _ _ _ _ dX3_operandsFit_125 ⟨by simp [opF, h1, h103, h110, *], rfl⟩
      · skip
        refine r_iload_n hC (q := 114) dX3_operandsFit_113 rfl rfl ?_
        refine r_cSI hC (q := 117) (n := 1) (As := [_]) (fun lch => c_X3_isGeneral lch ) gX3_operandsFit_X3_isGeneral rfl (by decide +kernel) ⟨by decide, by decide⟩ rfl rfl rfl (Nat.le_of_ble_eq_true rfl) dX3_operandsFit_114 rfl ?_
        rintro _ _ ⟨rfl, rfl⟩
        refine r_if_eqB hC (q := 120) (t := 124) dX3_operandsFit_117 (by decide) rfl (fun h117 => ?_) (fun h117 => ?_)
        · skip
          refine r_iconst hC (x := 0) (q := 125) dX3_operandsFit_124 (by decide) rfl ?_
          exact hR _ _ _ _ dX3_operandsFit_125 ⟨by simp [opF, h1, h103, h110, h117, *], rfl⟩
        · skip
          refine r_iconst hC (x := 1) (q := 121) dX3_operandsFit_120 (by decide) rfl ?_
          refine r_goto hC (t := 125) dX3_operandsFit_121 (by decide) ?_
          exact hR _ _ _ _ dX3_operandsFit_125 ⟨by simp [opF, h1, h103, h110, h117, *], rfl⟩
  · skip
    refine r_iload_n hC (q := 100) dX3_operandsFit_99 rfl rfl ?_
    refine r_cSI hC (q := 103) (n := 1) (As := [_]) (fun lch => c_X3_isGeneral lch ) gX3_operandsFit_X3_isGeneral rfl (by decide +kernel) ⟨by decide, by decide⟩ rfl rfl rfl (Nat.le_of_ble_eq_true rfl) dX3_operandsFit_100 rfl ?_
    rintro _ _ ⟨rfl, rfl⟩
    refine r_if_eqB hC (q := 106) (t := 124) dX3_operandsFit_103 (by decide) rfl (fun h103 => ?_) (fun h103 => ?_)
    · skip
      refine r_iconst hC (x := 0) (q := 125) dX3_operandsFit_124 (by decide) rfl ?_
      exact hR _ _ _ _ dX3_operandsFit_125 ⟨by simp [opF, h1, h103, *], rfl⟩
    · skip
      refine r_iload_n hC (q := 107) dX3_operandsFit_106 rfl rfl ?_
      refine r_cSI hC (q := 110) (n := 1) (As := [_]) (fun lch => c_X3_isGeneral lch ) gX3_operandsFit_X3_isGeneral rfl (by decide +kernel) ⟨by decide, by decide⟩ rfl rfl rfl (Nat.le_of_ble_eq_true rfl) dX3_operandsFit_107 rfl ?_
      rintro _ _ ⟨rfl, rfl⟩
      refine r_if_eqB hC (q := 113) (t := 124) dX3_operandsFit_110 (by decide) rfl (fun h110 => ?_) (fun h110 => ?_)
      · skip
        refine r_iconst hC (x := 0) (q := 125) dX3_operandsFit_124 (by decide) rfl ?_
        exact hR _ _ _ _ dX3_operandsFit_125 ⟨by simp [opF, h1, h103, h110, *], rfl⟩
      · skip
        refine r_iload_n hC (q := 114) dX3_operandsFit_113 rfl rfl ?_
        refine r_cSI hC (q := 117) (n := 1) (As := [_]) (fun lch => c_X3_isGeneral lch ) gX3_operandsFit_X3_isGeneral rfl (by decide +kernel) ⟨by decide, by decide⟩ rfl rfl rfl (Nat.le_of_ble_eq_true rfl) dX3_operandsFit_114 rfl ?_
        rintro _ _ ⟨rfl, rfl⟩
        refine r_if_eqB hC (q := 120) (t := 124) dX3_operandsFit_117 (by decide) rfl (fun h117 => ?_) (fun h117 => ?_)
        · skip
          refine r_iconst hC (x := 0) (q := 125) dX3_operandsFit_124 (by decide) rfl ?_
          exact hR _ _ _ _ dX3_operandsFit_125 ⟨by simp [opF, h1, h103, h110, h117, *], rfl⟩
        · skip
          refine r_iconst hC (x := 1) (q := 121) dX3_operandsFit_120 (by decide) rfl ?_
          refine r_goto hC (t := 125) dX3_operandsFit_121 (by decide) ?_
          exact hR _ _ _ _ dX3_operandsFit_125 ⟨by simp [opF, h1, h103, h110, h117, *], rfl⟩
  · skip
    refine r_iload_n hC (q := 100) dX3_operandsFit_99 rfl rfl ?_
    refine r_cSI hC (q := 103) (n := 1) (As := [_]) (fun lch => c_X3_isGeneral lch ) gX3_operandsFit_X3_isGeneral rfl (by decide +kernel) ⟨by decide, by decide⟩ rfl rfl rfl (Nat.le_of_ble_eq_true rfl) dX3_operandsFit_100 rfl ?_
    rintro _ _ ⟨rfl, rfl⟩
    refine r_if_eqB hC (q := 106) (t := 124) dX3_operandsFit_103 (by decide) rfl (fun h103 => ?_) (fun h103 => ?_)
    · skip
      refine r_iconst hC (x := 0) (q := 125) dX3_operandsFit_124 (by decide) rfl ?_
      exact hR _ _ _ _ dX3_operandsFit_125 ⟨by simp [opF, h1, h103, *], rfl⟩
    · skip
      refine r_iload_n hC (q := 107) dX3_operandsFit_106 rfl rfl ?_
      refine r_cSI hC (q := 110) (n := 1) (As := [_]) (fun lch => c_X3_isGeneral lch ) gX3_operandsFit_X3_isGeneral rfl (by decide +kernel) ⟨by decide, by decide⟩ rfl rfl rfl (Nat.le_of_ble_eq_true rfl) dX3_operandsFit_107 rfl ?_
      rintro _ _ ⟨rfl, rfl⟩
      refine r_if_eqB hC (q := 113) (t := 124) dX3_operandsFit_110 (by decide) rfl (fun h110 => ?_) (fun h110 => ?_)
      · skip
        refine r_iconst hC (x := 0) (q := 125) dX3_operandsFit_124 (by decide) rfl ?_
        exact hR _ _ _ _ dX3_operandsFit_125 ⟨by simp [opF, h1, h103, h110, *], rfl⟩
      · skip
        refine r_iload_n hC (q := 114) dX3_operandsFit_113 rfl rfl ?_
        refine r_cSI hC (q := 117) (n := 1) (As := [_]) (fun lch => c_X3_isGeneral lch ) gX3_operandsFit_X3_isGeneral rfl (by decide +kernel) ⟨by decide, by decide⟩ rfl rfl rfl (Nat.le_of_ble_eq_true rfl) dX3_operandsFit_114 rfl ?_
        rintro _ _ ⟨rfl, rfl⟩
        refine r_if_eqB hC (q := 120) (t := 124) dX3_operandsFit_117 (by decide) rfl (fun h117 => ?_) (fun h117 => ?_)
        · skip
          refine r_iconst hC (x := 0) (q := 125) dX3_operandsFit_124 (by decide) rfl ?_
          exact hR _ _ _ _ dX3_operandsFit_125 ⟨by simp [opF, h1, h103, h110, h117, *], rfl⟩
        · skip
          refine r_iconst hC (x := 1) (q := 121) dX3_operandsFit_120 (by decide) rfl ?_
          refine r_goto hC (t := 125) dX3_operandsFit_121 (by decide) ?_
          exact hR _ _ _ _ dX3_operandsFit_125 ⟨by simp [opF, h1, h103, h110, h117, *], rfl⟩
  · skip
    refine r_iload_n hC (q := 127) dX3_operandsFit_126 rfl rfl ?_
    refine r_if_ne hC (q := 130) (t := 145) dX3_operandsFit_127 (by decide) rfl (fun h127 => ?_) (fun h127 => ?_)
    · skip
      refine r_iconst hC (x := 0) (q := 146) dX3_operandsFit_145 (by decide) rfl ?_
      exact hR _ _ _ _ dX3_operandsFit_146 ⟨by simp [opF, h1, h127, *], rfl⟩
    · skip
      refine r_iload_n hC (q := 131) dX3_operandsFit_130 rfl rfl ?_
      refine r_cSI hC (q := 134) (n := 1) (As := [_]) (fun lch => c_X3_isGeneral lch ) gX3_operandsFit_X3_isGeneral rfl (by decide +kernel) ⟨by decide, by decide⟩ rfl rfl rfl (Nat.le_of_ble_eq_true rfl) dX3_operandsFit_131 rfl ?_
      rintro _ _ ⟨rfl, rfl⟩
      refine r_if_eqB hC (q := 137) (t := 145) dX3_operandsFit_134 (by decide) rfl (fun h134 => ?_) (fun h134 => ?_)
      · skip
        refine r_iconst hC (x := 0) (q := 146) dX3_operandsFit_145 (by decide) rfl ?_
        exact hR _ _ _ _ dX3_operandsFit_146 ⟨by simp [opF, h1, h127, h134, *], rfl⟩
      · skip
        refine r_iload_n hC (q := 138) dX3_operandsFit_137 rfl rfl ?_
        refine r_if_ne hC (q := 141) (t := 145) dX3_operandsFit_138 (by decide) rfl (fun h138 => ?_) (fun h138 => ?_)
        · skip
          refine r_iconst hC (x := 0) (q := 146) dX3_operandsFit_145 (by decide) rfl ?_
          exact hR _ _ _ _ dX3_operandsFit_146 ⟨by simp [opF, h1, h127, h134, h138, *], rfl⟩
        · skip
          refine r_iconst hC (x := 1) (q := 142) dX3_operandsFit_141 (by decide) rfl ?_
          refine r_goto hC (t := 146) dX3_operandsFit_142 (by decide) ?_
          exact hR _ _ _ _ dX3_operandsFit_146 ⟨by simp [opF, h1, h127, h134, h138, *], rfl⟩
theorem c_X3_operandsFit (l : Launch) {G : GG} {v : VV} {o d a b : Int32}  : MtI l G yX3_operandsFit wsX3_operandsFit 1 20 [.int o, .int d, .int a, .int b] v (fun r v' => r = bI (opF o d a b) ∧ v = v') := mt_int (Or.inr ⟨rfl, fun r v' h => by rw [h.1]; exact ite01 _⟩) (by decide) rfl (by simp [Value.category]) (Nat.le_of_ble_eq_true rfl) rfl rfl (fun E hC hR => b_X3_operandsFit hC hR )

set_option maxRecDepth 100000 in
set_option maxHeartbeats 4000000 in
theorem b_X3_addBlock {E : TE} {G : GG} {v : VV} {c : Nat}  (hC : Cx E G cX3_addBlock RX3 1 wsX3_addBlock 3 66) (hR : RtI E G cX3_addBlock (fun r v' => r = (if c < 12 then nI c else -1004) ∧ v' = (if c < 12 then nwB v 1 c else v))) (hW : PW v 1 c) : Wv E G v 0 [some (.ref (G.1 0))] [] := by
  have i_X3 : ∀ w ∈ wsX30, w ∈ wsX3_addBlock := by decide +kernel
  have l_10 : lnk E RX3 10 (TX3 0) := hC.fl (by decide +kernel)
  refine r_aload_n hC (q := 1) dX3_addBlock_0 rfl rfl ?_
  refine g_X3 hC 0 i_X3 l_10 (by decide) (q := 4) dX3_addBlock_1 rfl rfl ?_
  refine r_cNI hC (q := 7) (n := 0) (As := []) (fun lch => c_X2_appendBlockU lch isPr_1 hW.1 hW.2.1) ggX3_addBlock_X2_appendBlock rfl 3 rfl (by decide +kernel) (by decide +kernel) (by decide +kernel) (by decide +kernel) ⟨by decide, by decide⟩ (ob_p isPr_1) rfl rfl rfl rfl (Nat.le_of_ble_eq_true rfl) dX3_addBlock_4 rfl ?_
  rintro _ _ ⟨rfl, rfl⟩
  exact hR _ _ _ _ dX3_addBlock_7 ⟨rfl, rfl⟩
theorem c_X3_addBlock (l : Launch) {G : GG} {v : VV} {c : Nat}  (hW : PW v 1 c) : MtI l G yX3_addBlock wsX3_addBlock 3 66 [.ref (G.1 0)] v (fun r v' => r = (if c < 12 then nI c else -1004) ∧ v' = (if c < 12 then nwB v 1 c else v)) := mt_int (Or.inl rfl) (by decide) rfl (by simp [Value.category]) (Nat.le_of_ble_eq_true rfl) rfl rfl (fun E hC hR => b_X3_addBlock hC hR hW)

def adF (c : Nat) (B : Nat → Bv) (x o d a b l : Int32) : Int32 := if inb x c = true then (if (opF o d a b && lnF l) = true then (if (B (tn x)).1 < 10 then nI (B (tn x)).1 else -1004) else -1003) else -1001
theorem lnF_iff {l : Int32} : lnF l = true ↔ ¬ l < 0 ∧ l ≤ 30 := by
  unfold lnF
  rw [inb_iff]
  have h1 : nI 31 ≤ l ↔ ¬ l ≤ 30 := by
    rw [Int32.le_iff_toInt_le, Int32.le_iff_toInt_le]
    have e1 : (nI 31).toInt = 31 := rfl
    have e2 : (30 : Int32).toInt = 30 := rfl
    rw [e1, e2]
    omega
  rw [h1]
  constructor
  · rintro ⟨a, b⟩; exact ⟨a, by simpa using b⟩
  · rintro ⟨a, b⟩; exact ⟨a, by simpa using b⟩

set_option maxRecDepth 100000 in
set_option maxHeartbeats 4000000 in
theorem b_X3_addInstruction {E : TE} {G : GG} {v : VV} {c : Nat} {x o d a b w : Int32} (hC : Cx E G cX3_addInstruction RX3 7 wsX3_addInstruction 2 43) (hR : RtI E G cX3_addInstruction (fun r v' => r = adF c (pv v 1) x o d a b w ∧ v' = (if (inb x c && opF o d a b && lnF w && decide (nb v 1 (tn x) < 10)) = true then ap v (kB 1 (tn x)) (nb v 1 (tn x)) o d a b (1 <<< (w &&& 31)) else v))) (hW : PW v 1 c) : Wv E G v 0 [some (.ref (G.1 0)), some (.int x), some (.int o), some (.int d), some (.int a), some (.int b), some (.int w)] [] := by
  have h12 := hW.2.1
  have i_X2 : ∀ w ∈ wsX20, w ∈ wsX3_addInstruction := by decide +kernel
  have i_X3 : ∀ w ∈ wsX30, w ∈ wsX3_addInstruction := by decide +kernel
  have l_10 : lnk E RX3 10 (TX3 0) := hC.fl (by decide +kernel)
  have l_43 : lnk E RX3 43 (TX2 0) := hC.nf 18 rfl
  refine r_aload_n hC (q := 1) dX3_addInstruction_0 rfl rfl ?_
  refine g_X3 hC 0 i_X3 l_10 (by decide) (q := 4) dX3_addInstruction_1 rfl rfl ?_
  refine r_iload_n hC (q := 5) dX3_addInstruction_4 rfl rfl ?_
  refine r_cNI hC (q := 8) (n := 1) (As := [_]) (fun lch => c_X2_has lch isPr_1 hW.1) ggX3_addInstruction_X2_has rfl 5 rfl (by decide +kernel) (by decide +kernel) (by decide +kernel) (by decide +kernel) ⟨by decide, by decide⟩ (ob_p isPr_1) rfl rfl rfl rfl (Nat.le_of_ble_eq_true rfl) dX3_addInstruction_5 rfl ?_
  rintro _ _ ⟨rfl, rfl⟩
  refine r_if_neB hC (q := 11) (t := 15) dX3_addInstruction_8 (by decide) rfl (fun h8 => ?_) (fun h8 => ?_)
  · obtain ⟨ex, bx⟩ := inb_tn (by have := hW.2.1; omega) h8
    refine r_iload_n hC (q := 16) dX3_addInstruction_15 rfl rfl ?_
    refine r_iload_n hC (q := 17) dX3_addInstruction_16 rfl rfl ?_
    refine r_iload hC (q := 19) dX3_addInstruction_17 rfl rfl ?_
    refine r_iload hC (q := 21) dX3_addInstruction_19 rfl rfl ?_
    refine r_cSI hC (q := 24) (n := 4) (As := [_, _, _, _]) (fun lch => c_X3_operandsFit lch ) gX3_addInstruction_X3_operandsFit rfl (by decide +kernel) ⟨by decide, by decide⟩ rfl rfl rfl (Nat.le_of_ble_eq_true rfl) dX3_addInstruction_21 rfl ?_
    rintro _ _ ⟨rfl, rfl⟩
    refine r_if_eqB hC (q := 27) (t := 39) dX3_addInstruction_24 (by decide) rfl (fun h24 => ?_) (fun h24 => ?_)
    · skip
      refine r_sipush hC (x := (-1003)) (q := 42) dX3_addInstruction_39 (by decide) rfl ?_
      exact hR _ _ _ _ dX3_addInstruction_42 ⟨by rw [adF, if_pos h8, if_neg (by simp [lnF_iff, h24])], by rw [if_neg (by simp [lnF_iff, h24])]⟩
    · skip
      refine r_iload hC (q := 29) dX3_addInstruction_27 rfl rfl ?_
      refine r_if_lt hC (q := 32) (t := 39) dX3_addInstruction_29 (by decide) rfl (fun h29 => ?_) (fun h29 => ?_)
      · skip
        refine r_sipush hC (x := (-1003)) (q := 42) dX3_addInstruction_39 (by decide) rfl ?_
        exact hR _ _ _ _ dX3_addInstruction_42 ⟨by rw [adF, if_pos h8, if_neg (by simp [lnF_iff, h24, h29])], by rw [if_neg (by simp [lnF_iff, h24, h29])]⟩
      · skip
        refine r_iload hC (q := 34) dX3_addInstruction_32 rfl rfl ?_
        refine r_bipush hC (x := 30) (q := 36) dX3_addInstruction_34 (by decide) rfl ?_
        refine r_icmp_le hC (q := 39) (t := 43) dX3_addInstruction_36 (by decide) rfl (fun h36 => ?_) (fun h36 => ?_)
        · skip
          refine r_aload_n hC (q := 44) dX3_addInstruction_43 rfl rfl ?_
          refine g_X3 hC 0 i_X3 l_10 (by decide) (q := 47) dX3_addInstruction_44 rfl rfl ?_
          refine g_X2 hC 0 i_X2 l_43 (by decide) (q := 50) dX3_addInstruction_47 isPr_1 rfl rfl ?_
          refine r_iload_n hC (q := 51) dX3_addInstruction_50 rfl rfl ?_
          refine r_top (y := nI (tn x)) ex ?_
          refine r_aBN hC (q := 52) dX3_addInstruction_51 isPr_1 rfl (by omega) rfl ?_
          refine r_iload_n hC (q := 53) dX3_addInstruction_52 rfl rfl ?_
          refine r_iload_n hC (q := 54) dX3_addInstruction_53 rfl rfl ?_
          refine r_iload hC (q := 56) dX3_addInstruction_54 rfl rfl ?_
          refine r_iload hC (q := 58) dX3_addInstruction_56 rfl rfl ?_
          refine r_iconst hC (x := 1) (q := 59) dX3_addInstruction_58 (by decide) rfl ?_
          refine r_iload hC (q := 61) dX3_addInstruction_59 rfl rfl ?_
          refine r_ishl hC (q := 62) dX3_addInstruction_61 rfl ?_
          refine r_cNI hC (q := 65) (n := 5) (As := [_, _, _, _, _]) (fun lch => c_X0_appendU lch (n := nb v 1 (tn x)) (isBk_of isPr_1 (by omega)) (hW.2.2 _ bx).1 (hW.2.2 _ bx).2) ggX3_addInstruction_X0_append rfl 6 rfl (by decide +kernel) (by decide +kernel) (by decide +kernel) (by decide +kernel) ⟨by decide, by decide⟩ (ob_b (isBk_of isPr_1 (by omega))) rfl rfl rfl rfl (Nat.le_of_ble_eq_true rfl) dX3_addInstruction_62 rfl ?_
          rintro _ _ ⟨rfl, rfl⟩
          exact hR _ _ _ _ dX3_addInstruction_65 ⟨by have e1 : (opF o d a b && lnF w) = true := (by simp [h24, lnF_iff.mpr ⟨h29, h36⟩]); rw [adF, if_pos h8, if_pos e1]; rfl, by by_cases hn : nb v 1 (tn x) < 10 <;> simp [h8, h24, hn, lnF_iff.mpr ⟨h29, h36⟩]⟩
        · skip
          refine r_sipush hC (x := (-1003)) (q := 42) dX3_addInstruction_39 (by decide) rfl ?_
          exact hR _ _ _ _ dX3_addInstruction_42 ⟨by rw [adF, if_pos h8, if_neg (by simp [lnF_iff, h24, h29, h36])], by rw [if_neg (by simp [lnF_iff, h24, h29, h36])]⟩
  · skip
    refine r_sipush hC (x := (-1001)) (q := 14) dX3_addInstruction_11 (by decide) rfl ?_
    exact hR _ _ _ _ dX3_addInstruction_14 ⟨by rw [adF, if_neg h8], by rw [if_neg (by simp [h8])]⟩
theorem c_X3_addInstruction (l : Launch) {G : GG} {v : VV} {c : Nat} {x o d a b w : Int32} (hW : PW v 1 c) : MtI l G yX3_addInstruction wsX3_addInstruction 2 43 [.ref (G.1 0), .int x, .int o, .int d, .int a, .int b, .int w] v (fun r v' => r = adF c (pv v 1) x o d a b w ∧ v' = (if (inb x c && opF o d a b && lnF w && decide (nb v 1 (tn x) < 10)) = true then ap v (kB 1 (tn x)) (nb v 1 (tn x)) o d a b (1 <<< (w &&& 31)) else v)) := mt_int (Or.inl rfl) (by decide) rfl (by simp [Value.category]) (Nat.le_of_ble_eq_true rfl) rfl rfl (fun E hC hR => b_X3_addInstruction hC hR hW)

set_option maxRecDepth 100000 in
set_option maxHeartbeats 4000000 in
theorem b_X3_setJump {E : TE} {G : GG} {v : VV} {c : Nat} {x y : Int32} (hC : Cx E G cX3_setJump RX3 3 wsX3_setJump 1 25) (hR : RtI E G cX3_setJump (fun r v' => r = (if (inb x c && inb y c) = true then v (kB 1 (tn x)) 6 else -1001) ∧ v' = (if (inb x c && inb y c) = true then tm v (kB 1 (tn x)) 0 y 0 0 else v))) (hW : PW v 1 c) : Wv E G v 0 [some (.ref (G.1 0)), some (.int x), some (.int y)] [] := by
  have h12 := hW.2.1
  have i_X2 : ∀ w ∈ wsX20, w ∈ wsX3_setJump := by decide +kernel
  have i_X3 : ∀ w ∈ wsX30, w ∈ wsX3_setJump := by decide +kernel
  have l_10 : lnk E RX3 10 (TX3 0) := hC.fl (by decide +kernel)
  have l_43 : lnk E RX3 43 (TX2 0) := hC.nf 18 rfl
  refine r_aload_n hC (q := 1) dX3_setJump_0 rfl rfl ?_
  refine g_X3 hC 0 i_X3 l_10 (by decide) (q := 4) dX3_setJump_1 rfl rfl ?_
  refine r_iload_n hC (q := 5) dX3_setJump_4 rfl rfl ?_
  refine r_cNI hC (q := 8) (n := 1) (As := [_]) (fun lch => c_X2_has lch isPr_1 hW.1) ggX3_setJump_X2_has rfl 5 rfl (by decide +kernel) (by decide +kernel) (by decide +kernel) (by decide +kernel) ⟨by decide, by decide⟩ (ob_p isPr_1) rfl rfl rfl rfl (Nat.le_of_ble_eq_true rfl) dX3_setJump_5 rfl ?_
  rintro _ _ ⟨rfl, rfl⟩
  refine r_if_eqB hC (q := 11) (t := 22) dX3_setJump_8 (by decide) rfl (fun h8 => ?_) (fun h8 => ?_)
  · skip
    refine r_sipush hC (x := (-1001)) (q := 25) dX3_setJump_22 (by decide) rfl ?_
    exact hR _ _ _ _ dX3_setJump_25 ⟨by rw [if_neg (by simp [h8])], by rw [if_neg (by simp [h8])]⟩
  · obtain ⟨ex, bx⟩ := inb_tn (by have := hW.2.1; omega) h8
    refine r_aload_n hC (q := 12) dX3_setJump_11 rfl rfl ?_
    refine g_X3 hC 0 i_X3 l_10 (by decide) (q := 15) dX3_setJump_12 rfl rfl ?_
    refine r_iload_n hC (q := 16) dX3_setJump_15 rfl rfl ?_
    refine r_cNI hC (q := 19) (n := 1) (As := [_]) (fun lch => c_X2_has lch isPr_1 hW.1) ggX3_setJump_X2_has rfl 5 rfl (by decide +kernel) (by decide +kernel) (by decide +kernel) (by decide +kernel) ⟨by decide, by decide⟩ (ob_p isPr_1) rfl rfl rfl rfl (Nat.le_of_ble_eq_true rfl) dX3_setJump_16 rfl ?_
    rintro _ _ ⟨rfl, rfl⟩
    refine r_if_neB hC (q := 22) (t := 26) dX3_setJump_19 (by decide) rfl (fun h19 => ?_) (fun h19 => ?_)
    · skip
      refine r_aload_n hC (q := 27) dX3_setJump_26 rfl rfl ?_
      refine g_X3 hC 0 i_X3 l_10 (by decide) (q := 30) dX3_setJump_27 rfl rfl ?_
      refine g_X2 hC 0 i_X2 l_43 (by decide) (q := 33) dX3_setJump_30 isPr_1 rfl rfl ?_
      refine r_iload_n hC (q := 34) dX3_setJump_33 rfl rfl ?_
      refine r_top (y := nI (tn x)) ex ?_
      refine r_aBN hC (q := 35) dX3_setJump_34 isPr_1 rfl (by omega) rfl ?_
      refine r_iconst hC (x := 0) (q := 36) dX3_setJump_35 (by decide) rfl ?_
      refine r_iload_n hC (q := 37) dX3_setJump_36 rfl rfl ?_
      refine r_iconst hC (x := 0) (q := 38) dX3_setJump_37 (by decide) rfl ?_
      refine r_iconst hC (x := 0) (q := 39) dX3_setJump_38 (by decide) rfl ?_
      refine r_cNI hC (q := 42) (n := 4) (As := [_, _, _, _]) (fun lch => c_X0_terminate lch (isBk_of isPr_1 (by omega))) ggX3_setJump_X0_terminate rfl 7 rfl (by decide +kernel) (by decide +kernel) (by decide +kernel) (by decide +kernel) ⟨by decide, by decide⟩ (ob_b (isBk_of isPr_1 (by omega))) rfl rfl rfl rfl (Nat.le_of_ble_eq_true rfl) dX3_setJump_39 rfl ?_
      rintro _ _ ⟨rfl, rfl⟩
      exact hR _ _ _ _ dX3_setJump_42 ⟨by rw [if_pos (by simp [h8, h19])], by rw [if_pos (by simp [h8, h19])]⟩
    · skip
      refine r_sipush hC (x := (-1001)) (q := 25) dX3_setJump_22 (by decide) rfl ?_
      exact hR _ _ _ _ dX3_setJump_25 ⟨by rw [if_neg (by simp [h8, h19])], by rw [if_neg (by simp [h8, h19])]⟩
theorem c_X3_setJump (l : Launch) {G : GG} {v : VV} {c : Nat} {x y : Int32} (hW : PW v 1 c) : MtI l G yX3_setJump wsX3_setJump 1 25 [.ref (G.1 0), .int x, .int y] v (fun r v' => r = (if (inb x c && inb y c) = true then v (kB 1 (tn x)) 6 else -1001) ∧ v' = (if (inb x c && inb y c) = true then tm v (kB 1 (tn x)) 0 y 0 0 else v)) := mt_int (Or.inl rfl) (by decide) rfl (by simp [Value.category]) (Nat.le_of_ble_eq_true rfl) rfl rfl (fun E hC hR => b_X3_setJump hC hR hW)

set_option maxRecDepth 100000 in
set_option maxHeartbeats 4000000 in
theorem b_X3_setBranch {E : TE} {G : GG} {v : VV} {c : Nat} {x z y w : Int32} (hC : Cx E G cX3_setBranch RX3 5 wsX3_setBranch 1 25) (hR : RtI E G cX3_setBranch (fun r v' => r = (if (inb x c && inb y c && inb w c) = true then (if isG z = true then v (kB 1 (tn x)) 6 else -1003) else -1001) ∧ v' = (if (inb x c && inb y c && inb w c && isG z) = true then tm v (kB 1 (tn x)) 1 z y w else v))) (hW : PW v 1 c) : Wv E G v 0 [some (.ref (G.1 0)), some (.int x), some (.int z), some (.int y), some (.int w)] [] := by
  have h12 := hW.2.1
  have i_X2 : ∀ w ∈ wsX20, w ∈ wsX3_setBranch := by decide +kernel
  have i_X3 : ∀ w ∈ wsX30, w ∈ wsX3_setBranch := by decide +kernel
  have l_10 : lnk E RX3 10 (TX3 0) := hC.fl (by decide +kernel)
  have l_43 : lnk E RX3 43 (TX2 0) := hC.nf 18 rfl
  refine r_aload_n hC (q := 1) dX3_setBranch_0 rfl rfl ?_
  refine g_X3 hC 0 i_X3 l_10 (by decide) (q := 4) dX3_setBranch_1 rfl rfl ?_
  refine r_iload_n hC (q := 5) dX3_setBranch_4 rfl rfl ?_
  refine r_cNI hC (q := 8) (n := 1) (As := [_]) (fun lch => c_X2_has lch isPr_1 hW.1) ggX3_setBranch_X2_has rfl 5 rfl (by decide +kernel) (by decide +kernel) (by decide +kernel) (by decide +kernel) ⟨by decide, by decide⟩ (ob_p isPr_1) rfl rfl rfl rfl (Nat.le_of_ble_eq_true rfl) dX3_setBranch_5 rfl ?_
  rintro _ _ ⟨rfl, rfl⟩
  refine r_if_eqB hC (q := 11) (t := 34) dX3_setBranch_8 (by decide) rfl (fun h8 => ?_) (fun h8 => ?_)
  · skip
    refine r_sipush hC (x := (-1001)) (q := 37) dX3_setBranch_34 (by decide) rfl ?_
    exact hR _ _ _ _ dX3_setBranch_37 ⟨by rw [if_neg (by simp [h8])], by rw [if_neg (by simp [h8])]⟩
  · obtain ⟨ex, bx⟩ := inb_tn (by have := hW.2.1; omega) h8
    refine r_aload_n hC (q := 12) dX3_setBranch_11 rfl rfl ?_
    refine g_X3 hC 0 i_X3 l_10 (by decide) (q := 15) dX3_setBranch_12 rfl rfl ?_
    refine r_iload_n hC (q := 16) dX3_setBranch_15 rfl rfl ?_
    refine r_cNI hC (q := 19) (n := 1) (As := [_]) (fun lch => c_X2_has lch isPr_1 hW.1) ggX3_setBranch_X2_has rfl 5 rfl (by decide +kernel) (by decide +kernel) (by decide +kernel) (by decide +kernel) ⟨by decide, by decide⟩ (ob_p isPr_1) rfl rfl rfl rfl (Nat.le_of_ble_eq_true rfl) dX3_setBranch_16 rfl ?_
    rintro _ _ ⟨rfl, rfl⟩
    refine r_if_eqB hC (q := 22) (t := 34) dX3_setBranch_19 (by decide) rfl (fun h19 => ?_) (fun h19 => ?_)
    · skip
      refine r_sipush hC (x := (-1001)) (q := 37) dX3_setBranch_34 (by decide) rfl ?_
      exact hR _ _ _ _ dX3_setBranch_37 ⟨by rw [if_neg (by simp [h8, h19])], by rw [if_neg (by simp [h8, h19])]⟩
    · skip
      refine r_aload_n hC (q := 23) dX3_setBranch_22 rfl rfl ?_
      refine g_X3 hC 0 i_X3 l_10 (by decide) (q := 26) dX3_setBranch_23 rfl rfl ?_
      refine r_iload hC (q := 28) dX3_setBranch_26 rfl rfl ?_
      refine r_cNI hC (q := 31) (n := 1) (As := [_]) (fun lch => c_X2_has lch isPr_1 hW.1) ggX3_setBranch_X2_has rfl 5 rfl (by decide +kernel) (by decide +kernel) (by decide +kernel) (by decide +kernel) ⟨by decide, by decide⟩ (ob_p isPr_1) rfl rfl rfl rfl (Nat.le_of_ble_eq_true rfl) dX3_setBranch_28 rfl ?_
      rintro _ _ ⟨rfl, rfl⟩
      refine r_if_neB hC (q := 34) (t := 38) dX3_setBranch_31 (by decide) rfl (fun h31 => ?_) (fun h31 => ?_)
      · skip
        refine r_iload_n hC (q := 39) dX3_setBranch_38 rfl rfl ?_
        refine r_cSI hC (q := 42) (n := 1) (As := [_]) (fun lch => c_X3_isGeneral lch ) gX3_setBranch_X3_isGeneral rfl (by decide +kernel) ⟨by decide, by decide⟩ rfl rfl rfl (Nat.le_of_ble_eq_true rfl) dX3_setBranch_39 rfl ?_
        rintro _ _ ⟨rfl, rfl⟩
        refine r_if_neB hC (q := 45) (t := 49) dX3_setBranch_42 (by decide) rfl (fun h42 => ?_) (fun h42 => ?_)
        · skip
          refine r_aload_n hC (q := 50) dX3_setBranch_49 rfl rfl ?_
          refine g_X3 hC 0 i_X3 l_10 (by decide) (q := 53) dX3_setBranch_50 rfl rfl ?_
          refine g_X2 hC 0 i_X2 l_43 (by decide) (q := 56) dX3_setBranch_53 isPr_1 rfl rfl ?_
          refine r_iload_n hC (q := 57) dX3_setBranch_56 rfl rfl ?_
          refine r_top (y := nI (tn x)) ex ?_
          refine r_aBN hC (q := 58) dX3_setBranch_57 isPr_1 rfl (by omega) rfl ?_
          refine r_iconst hC (x := 1) (q := 59) dX3_setBranch_58 (by decide) rfl ?_
          refine r_iload_n hC (q := 60) dX3_setBranch_59 rfl rfl ?_
          refine r_iload_n hC (q := 61) dX3_setBranch_60 rfl rfl ?_
          refine r_iload hC (q := 63) dX3_setBranch_61 rfl rfl ?_
          refine r_cNI hC (q := 66) (n := 4) (As := [_, _, _, _]) (fun lch => c_X0_terminate lch (isBk_of isPr_1 (by omega))) ggX3_setBranch_X0_terminate rfl 7 rfl (by decide +kernel) (by decide +kernel) (by decide +kernel) (by decide +kernel) ⟨by decide, by decide⟩ (ob_b (isBk_of isPr_1 (by omega))) rfl rfl rfl rfl (Nat.le_of_ble_eq_true rfl) dX3_setBranch_63 rfl ?_
          rintro _ _ ⟨rfl, rfl⟩
          exact hR _ _ _ _ dX3_setBranch_66 ⟨by rw [if_pos (by simp [h8, h19, h31, h42]), if_pos h42], by rw [if_pos (by simp [h8, h19, h31, h42])]⟩
        · skip
          refine r_sipush hC (x := (-1003)) (q := 48) dX3_setBranch_45 (by decide) rfl ?_
          exact hR _ _ _ _ dX3_setBranch_48 ⟨by rw [if_pos (by simp [h8, h19, h31, h42]), if_neg h42], by rw [if_neg (by simp [h8, h19, h31, h42])]⟩
      · skip
        refine r_sipush hC (x := (-1001)) (q := 37) dX3_setBranch_34 (by decide) rfl ?_
        exact hR _ _ _ _ dX3_setBranch_37 ⟨by rw [if_neg (by simp [h8, h19, h31])], by rw [if_neg (by simp [h8, h19, h31])]⟩
theorem c_X3_setBranch (l : Launch) {G : GG} {v : VV} {c : Nat} {x z y w : Int32} (hW : PW v 1 c) : MtI l G yX3_setBranch wsX3_setBranch 1 25 [.ref (G.1 0), .int x, .int z, .int y, .int w] v (fun r v' => r = (if (inb x c && inb y c && inb w c) = true then (if isG z = true then v (kB 1 (tn x)) 6 else -1003) else -1001) ∧ v' = (if (inb x c && inb y c && inb w c && isG z) = true then tm v (kB 1 (tn x)) 1 z y w else v)) := mt_int (Or.inl rfl) (by decide) rfl (by simp [Value.category]) (Nat.le_of_ble_eq_true rfl) rfl rfl (fun E hC hR => b_X3_setBranch hC hR hW)

set_option maxRecDepth 100000 in
set_option maxHeartbeats 4000000 in
theorem b_X3_setReturn {E : TE} {G : GG} {v : VV} {c : Nat} {x z : Int32} (hC : Cx E G cX3_setReturn RX3 3 wsX3_setReturn 1 25) (hR : RtI E G cX3_setReturn (fun r v' => r = (if inb x c = true then (if isG z = true then v (kB 1 (tn x)) 6 else -1003) else -1001) ∧ v' = (if (inb x c && isG z) = true then tm v (kB 1 (tn x)) 2 z 0 0 else v))) (hW : PW v 1 c) : Wv E G v 0 [some (.ref (G.1 0)), some (.int x), some (.int z)] [] := by
  have h12 := hW.2.1
  have i_X2 : ∀ w ∈ wsX20, w ∈ wsX3_setReturn := by decide +kernel
  have i_X3 : ∀ w ∈ wsX30, w ∈ wsX3_setReturn := by decide +kernel
  have l_10 : lnk E RX3 10 (TX3 0) := hC.fl (by decide +kernel)
  have l_43 : lnk E RX3 43 (TX2 0) := hC.nf 18 rfl
  refine r_aload_n hC (q := 1) dX3_setReturn_0 rfl rfl ?_
  refine g_X3 hC 0 i_X3 l_10 (by decide) (q := 4) dX3_setReturn_1 rfl rfl ?_
  refine r_iload_n hC (q := 5) dX3_setReturn_4 rfl rfl ?_
  refine r_cNI hC (q := 8) (n := 1) (As := [_]) (fun lch => c_X2_has lch isPr_1 hW.1) ggX3_setReturn_X2_has rfl 5 rfl (by decide +kernel) (by decide +kernel) (by decide +kernel) (by decide +kernel) ⟨by decide, by decide⟩ (ob_p isPr_1) rfl rfl rfl rfl (Nat.le_of_ble_eq_true rfl) dX3_setReturn_5 rfl ?_
  rintro _ _ ⟨rfl, rfl⟩
  refine r_if_neB hC (q := 11) (t := 15) dX3_setReturn_8 (by decide) rfl (fun h8 => ?_) (fun h8 => ?_)
  · obtain ⟨ex, bx⟩ := inb_tn (by have := hW.2.1; omega) h8
    refine r_iload_n hC (q := 16) dX3_setReturn_15 rfl rfl ?_
    refine r_cSI hC (q := 19) (n := 1) (As := [_]) (fun lch => c_X3_isGeneral lch ) gX3_setReturn_X3_isGeneral rfl (by decide +kernel) ⟨by decide, by decide⟩ rfl rfl rfl (Nat.le_of_ble_eq_true rfl) dX3_setReturn_16 rfl ?_
    rintro _ _ ⟨rfl, rfl⟩
    refine r_if_neB hC (q := 22) (t := 26) dX3_setReturn_19 (by decide) rfl (fun h19 => ?_) (fun h19 => ?_)
    · skip
      refine r_aload_n hC (q := 27) dX3_setReturn_26 rfl rfl ?_
      refine g_X3 hC 0 i_X3 l_10 (by decide) (q := 30) dX3_setReturn_27 rfl rfl ?_
      refine g_X2 hC 0 i_X2 l_43 (by decide) (q := 33) dX3_setReturn_30 isPr_1 rfl rfl ?_
      refine r_iload_n hC (q := 34) dX3_setReturn_33 rfl rfl ?_
      refine r_top (y := nI (tn x)) ex ?_
      refine r_aBN hC (q := 35) dX3_setReturn_34 isPr_1 rfl (by omega) rfl ?_
      refine r_iconst hC (x := 2) (q := 36) dX3_setReturn_35 (by decide) rfl ?_
      refine r_iload_n hC (q := 37) dX3_setReturn_36 rfl rfl ?_
      refine r_iconst hC (x := 0) (q := 38) dX3_setReturn_37 (by decide) rfl ?_
      refine r_iconst hC (x := 0) (q := 39) dX3_setReturn_38 (by decide) rfl ?_
      refine r_cNI hC (q := 42) (n := 4) (As := [_, _, _, _]) (fun lch => c_X0_terminate lch (isBk_of isPr_1 (by omega))) ggX3_setReturn_X0_terminate rfl 7 rfl (by decide +kernel) (by decide +kernel) (by decide +kernel) (by decide +kernel) ⟨by decide, by decide⟩ (ob_b (isBk_of isPr_1 (by omega))) rfl rfl rfl rfl (Nat.le_of_ble_eq_true rfl) dX3_setReturn_39 rfl ?_
      rintro _ _ ⟨rfl, rfl⟩
      exact hR _ _ _ _ dX3_setReturn_42 ⟨by rw [if_pos h8, if_pos h19], by rw [if_pos (by simp [h8, h19])]⟩
    · skip
      refine r_sipush hC (x := (-1003)) (q := 25) dX3_setReturn_22 (by decide) rfl ?_
      exact hR _ _ _ _ dX3_setReturn_25 ⟨by rw [if_pos h8, if_neg h19], by rw [if_neg (by simp [h8, h19])]⟩
  · skip
    refine r_sipush hC (x := (-1001)) (q := 14) dX3_setReturn_11 (by decide) rfl ?_
    exact hR _ _ _ _ dX3_setReturn_14 ⟨by rw [if_neg h8], by rw [if_neg (by simp [h8])]⟩
theorem c_X3_setReturn (l : Launch) {G : GG} {v : VV} {c : Nat} {x z : Int32} (hW : PW v 1 c) : MtI l G yX3_setReturn wsX3_setReturn 1 25 [.ref (G.1 0), .int x, .int z] v (fun r v' => r = (if inb x c = true then (if isG z = true then v (kB 1 (tn x)) 6 else -1003) else -1001) ∧ v' = (if (inb x c && isG z) = true then tm v (kB 1 (tn x)) 2 z 0 0 else v)) := mt_int (Or.inl rfl) (by decide) rfl (by simp [Value.category]) (Nat.le_of_ble_eq_true rfl) rfl rfl (fun E hC hR => b_X3_setReturn hC hR hW)

set_option maxRecDepth 100000 in
set_option maxHeartbeats 4000000 in
theorem b_X3_blockCount {E : TE} {G : GG} {v : VV} {c : Nat}  (hC : Cx E G cX3_blockCount RX3 1 wsX3_blockCount 0 0) (hR : RtI E G cX3_blockCount (fun r v' => r = nI c ∧ v = v')) (hW : PW v 1 c) : Wv E G v 0 [some (.ref (G.1 0))] [] := by
  have i_X2 : ∀ w ∈ wsX20, w ∈ wsX3_blockCount := by decide +kernel
  have i_X3 : ∀ w ∈ wsX30, w ∈ wsX3_blockCount := by decide +kernel
  have l_10 : lnk E RX3 10 (TX3 0) := hC.fl (by decide +kernel)
  have l_60 : lnk E RX3 60 (TX2 1) := hC.nf 19 rfl
  refine r_aload_n hC (q := 1) dX3_blockCount_0 rfl rfl ?_
  refine g_X3 hC 0 i_X3 l_10 (by decide) (q := 4) dX3_blockCount_1 rfl rfl ?_
  refine g_X2 hC 1 i_X2 l_60 (by decide) (q := 7) dX3_blockCount_4 isPr_1 rfl rfl ?_
  refine r_top (y := nI c) hW.1 ?_
  exact hR _ _ _ _ dX3_blockCount_7 ⟨rfl, rfl⟩
theorem c_X3_blockCount (l : Launch) {G : GG} {v : VV} {c : Nat}  (hW : PW v 1 c) : MtI l G yX3_blockCount wsX3_blockCount 0 0 [.ref (G.1 0)] v (fun r v' => r = nI c ∧ v = v') := mt_int (Or.inl rfl) (by decide) rfl (by simp [Value.category]) (Nat.le_of_ble_eq_true rfl) rfl rfl (fun E hC hR => b_X3_blockCount hC hR hW)

set_option maxRecDepth 100000 in
set_option maxHeartbeats 4000000 in
theorem b_X3_instructionCount {E : TE} {G : GG} {v : VV} {c : Nat} {x : Int32} (hC : Cx E G cX3_instructionCount RX3 2 wsX3_instructionCount 1 21) (hR : RtI E G cX3_instructionCount (fun r v' => r = q_cnt c (pv v 1) x ∧ v = v')) (hW : PW v 1 c) : Wv E G v 0 [some (.ref (G.1 0)), some (.int x)] [] := by
  have h12 := hW.2.1
  have i_X0 : ∀ w ∈ wsX00, w ∈ wsX3_instructionCount := by decide +kernel
  have i_X2 : ∀ w ∈ wsX20, w ∈ wsX3_instructionCount := by decide +kernel
  have i_X3 : ∀ w ∈ wsX30, w ∈ wsX3_instructionCount := by decide +kernel
  have l_10 : lnk E RX3 10 (TX3 0) := hC.fl (by decide +kernel)
  have l_43 : lnk E RX3 43 (TX2 0) := hC.nf 18 rfl
  have l_64 : lnk E RX3 64 (TX0 5) := hC.nf 11 rfl
  refine r_aload_n hC (q := 1) dX3_instructionCount_0 rfl rfl ?_
  refine g_X3 hC 0 i_X3 l_10 (by decide) (q := 4) dX3_instructionCount_1 rfl rfl ?_
  refine r_iload_n hC (q := 5) dX3_instructionCount_4 rfl rfl ?_
  refine r_cNI hC (q := 8) (n := 1) (As := [_]) (fun lch => c_X2_has lch isPr_1 hW.1) ggX3_instructionCount_X2_has rfl 5 rfl (by decide +kernel) (by decide +kernel) (by decide +kernel) (by decide +kernel) ⟨by decide, by decide⟩ (ob_p isPr_1) rfl rfl rfl rfl (Nat.le_of_ble_eq_true rfl) dX3_instructionCount_5 rfl ?_
  rintro _ _ ⟨rfl, rfl⟩
  refine r_if_eqB hC (q := 11) (t := 26) dX3_instructionCount_8 (by decide) rfl (fun h8 => ?_) (fun h8 => ?_)
  · skip
    refine r_sipush hC (x := (-1001)) (q := 29) dX3_instructionCount_26 (by decide) rfl ?_
    exact hR _ _ _ _ dX3_instructionCount_29 ⟨by rw [q_cnt, if_neg h8], rfl⟩
  · obtain ⟨ex, bx⟩ := inb_tn (by have := hW.2.1; omega) h8
    refine r_aload_n hC (q := 12) dX3_instructionCount_11 rfl rfl ?_
    refine g_X3 hC 0 i_X3 l_10 (by decide) (q := 15) dX3_instructionCount_12 rfl rfl ?_
    refine g_X2 hC 0 i_X2 l_43 (by decide) (q := 18) dX3_instructionCount_15 isPr_1 rfl rfl ?_
    refine r_iload_n hC (q := 19) dX3_instructionCount_18 rfl rfl ?_
    refine r_top (y := nI (tn x)) ex ?_
    refine r_aBN hC (q := 20) dX3_instructionCount_19 isPr_1 rfl (by omega) rfl ?_
    refine g_X0 hC 5 i_X0 l_64 (by decide) (q := 23) dX3_instructionCount_20 (isBk_of isPr_1 (by omega)) rfl rfl ?_
    refine r_top (y := nI (nb v 1 (tn x))) (hW.2.2 _ bx).1 ?_
    refine r_goto hC (t := 29) dX3_instructionCount_23 (by decide) ?_
    exact hR _ _ _ _ dX3_instructionCount_29 ⟨by rw [q_cnt, if_pos h8]; rfl, rfl⟩
theorem c_X3_instructionCount (l : Launch) {G : GG} {v : VV} {c : Nat} {x : Int32} (hW : PW v 1 c) : MtI l G yX3_instructionCount wsX3_instructionCount 1 21 [.ref (G.1 0), .int x] v (fun r v' => r = q_cnt c (pv v 1) x ∧ v = v') := mt_int (Or.inl rfl) (by decide) rfl (by simp [Value.category]) (Nat.le_of_ble_eq_true rfl) rfl rfl (fun E hC hR => b_X3_instructionCount hC hR hW)

set_option maxRecDepth 100000 in
set_option maxHeartbeats 4000000 in
theorem b_X3_instructionError {E : TE} {G : GG} {v : VV} {c : Nat} {x y : Int32} (hC : Cx E G cX3_instructionError RX3 3 wsX3_instructionError 1 21) (hR : RtI E G cX3_instructionError (fun r v' => r = q_err c (pv v 1) x y ∧ v = v')) (hW : PW v 1 c) : Wv E G v 0 [some (.ref (G.1 0)), some (.int x), some (.int y)] [] := by
  have h12 := hW.2.1
  have i_X0 : ∀ w ∈ wsX00, w ∈ wsX3_instructionError := by decide +kernel
  have i_X2 : ∀ w ∈ wsX20, w ∈ wsX3_instructionError := by decide +kernel
  have i_X3 : ∀ w ∈ wsX30, w ∈ wsX3_instructionError := by decide +kernel
  have l_10 : lnk E RX3 10 (TX3 0) := hC.fl (by decide +kernel)
  have l_43 : lnk E RX3 43 (TX2 0) := hC.nf 18 rfl
  have l_64 : lnk E RX3 64 (TX0 5) := hC.nf 11 rfl
  refine r_aload_n hC (q := 1) dX3_instructionError_0 rfl rfl ?_
  refine g_X3 hC 0 i_X3 l_10 (by decide) (q := 4) dX3_instructionError_1 rfl rfl ?_
  refine r_iload_n hC (q := 5) dX3_instructionError_4 rfl rfl ?_
  refine r_cNI hC (q := 8) (n := 1) (As := [_]) (fun lch => c_X2_has lch isPr_1 hW.1) ggX3_instructionError_X2_has rfl 5 rfl (by decide +kernel) (by decide +kernel) (by decide +kernel) (by decide +kernel) ⟨by decide, by decide⟩ (ob_p isPr_1) rfl rfl rfl rfl (Nat.le_of_ble_eq_true rfl) dX3_instructionError_5 rfl ?_
  rintro _ _ ⟨rfl, rfl⟩
  refine r_if_neB hC (q := 11) (t := 15) dX3_instructionError_8 (by decide) rfl (fun h8 => ?_) (fun h8 => ?_)
  · obtain ⟨ex, bx⟩ := inb_tn (by have := hW.2.1; omega) h8
    refine r_iload_n hC (q := 16) dX3_instructionError_15 rfl rfl ?_
    refine r_if_lt hC (q := 19) (t := 35) dX3_instructionError_16 (by decide) rfl (fun h16 => ?_) (fun h16 => ?_)
    · skip
      refine r_sipush hC (x := (-1002)) (q := 38) dX3_instructionError_35 (by decide) rfl ?_
      exact hR _ _ _ _ dX3_instructionError_38 ⟨by rw [q_err, if_pos h8, if_neg (fun e => (inb_iff.mp e).1 h16 : ¬ inb y (pv v 1 (tn x)).1 = true)], rfl⟩
    · skip
      refine r_iload_n hC (q := 20) dX3_instructionError_19 rfl rfl ?_
      refine r_aload_n hC (q := 21) dX3_instructionError_20 rfl rfl ?_
      refine g_X3 hC 0 i_X3 l_10 (by decide) (q := 24) dX3_instructionError_21 rfl rfl ?_
      refine g_X2 hC 0 i_X2 l_43 (by decide) (q := 27) dX3_instructionError_24 isPr_1 rfl rfl ?_
      refine r_iload_n hC (q := 28) dX3_instructionError_27 rfl rfl ?_
      refine r_top (y := nI (tn x)) ex ?_
      refine r_aBN hC (q := 29) dX3_instructionError_28 isPr_1 rfl (by omega) rfl ?_
      refine g_X0 hC 5 i_X0 l_64 (by decide) (q := 32) dX3_instructionError_29 (isBk_of isPr_1 (by omega)) rfl rfl ?_
      refine r_top (y := nI (nb v 1 (tn x))) (hW.2.2 _ bx).1 ?_
      refine r_icmp_lt hC (q := 35) (t := 39) dX3_instructionError_32 (by decide) rfl (fun h32 => ?_) (fun h32 => ?_)
      · skip
        refine r_iconst hC (x := 0) (q := 40) dX3_instructionError_39 (by decide) rfl ?_
        exact hR _ _ _ _ dX3_instructionError_40 ⟨by rw [q_err, if_pos h8, if_pos (inb_iff.mpr ⟨h16, Int32.not_le.mpr h32⟩ : inb y (pv v 1 (tn x)).1 = true)], rfl⟩
      · skip
        refine r_sipush hC (x := (-1002)) (q := 38) dX3_instructionError_35 (by decide) rfl ?_
        exact hR _ _ _ _ dX3_instructionError_38 ⟨by rw [q_err, if_pos h8, if_neg (fun e => (inb_iff.mp e).2 (Int32.not_lt.mp h32) : ¬ inb y (pv v 1 (tn x)).1 = true)], rfl⟩
  · skip
    refine r_sipush hC (x := (-1001)) (q := 14) dX3_instructionError_11 (by decide) rfl ?_
    exact hR _ _ _ _ dX3_instructionError_14 ⟨by rw [q_err, if_neg h8], rfl⟩
theorem c_X3_instructionError (l : Launch) {G : GG} {v : VV} {c : Nat} {x y : Int32} (hW : PW v 1 c) : MtI l G yX3_instructionError wsX3_instructionError 1 21 [.ref (G.1 0), .int x, .int y] v (fun r v' => r = q_err c (pv v 1) x y ∧ v = v') := mt_int (Or.inl rfl) (by decide) rfl (by simp [Value.category]) (Nat.le_of_ble_eq_true rfl) rfl rfl (fun E hC hR => b_X3_instructionError hC hR hW)

theorem q_err0 {c : Nat} {B : Nat → Bv} {x y : Int32} (h : q_err c B x y = 0) : inb x c = true ∧ inb y (B (tn x)).1 = true := by
  unfold q_err at h
  by_cases h1 : inb x c = true
  · rw [if_pos h1] at h
    by_cases h2 : inb y (B (tn x)).1 = true
    · exact ⟨h1, h2⟩
    · rw [if_neg h2] at h; exact absurd h (by decide)
  · rw [if_neg h1] at h; exact absurd h (by decide)
theorem q_err1 {f c : Nat} {B : Nat → Bv} {x y : Int32} (h : ¬ q_err c B x y = 0) : q_err c B x y = q_fld f c B x y := by
  unfold q_err q_fld at *
  by_cases h1 : inb x c = true
  · rw [if_pos h1] at h ⊢
    by_cases h2 : inb y (B (tn x)).1 = true
    · rw [if_pos h2] at h; exact absurd rfl h
    · rw [if_neg h2, if_pos h1, if_neg h2]
  · rw [if_neg h1, if_neg h1]
theorem q_fld0 {f c : Nat} {B : Nat → Bv} {x y : Int32} (h : q_err c B x y = 0) : q_fld f c B x y = (B (tn x)).2.1 f (tn y) := by
  obtain ⟨h1, h2⟩ := q_err0 h
  rw [q_fld, if_pos h1, if_pos h2]

set_option maxRecDepth 100000 in
set_option maxHeartbeats 4000000 in
theorem b_X3_opcode {E : TE} {G : GG} {v : VV} {c : Nat} {x y : Int32} (hC : Cx E G cX3_opcode RX3 4 wsX3_opcode 2 43) (hR : RtI E G cX3_opcode (fun r v' => r = q_fld 0 c (pv v 1) x y ∧ v = v')) (hW : PW v 1 c) : Wv E G v 0 [some (.ref (G.1 0)), some (.int x), some (.int y), none] [] := by
  have h12 := hW.2.1
  have i_X0 : ∀ w ∈ wsX00, w ∈ wsX3_opcode := by decide +kernel
  have i_X2 : ∀ w ∈ wsX20, w ∈ wsX3_opcode := by decide +kernel
  have i_X3 : ∀ w ∈ wsX30, w ∈ wsX3_opcode := by decide +kernel
  have l_10 : lnk E RX3 10 (TX3 0) := hC.fl (by decide +kernel)
  have l_43 : lnk E RX3 43 (TX2 0) := hC.nf 18 rfl
  have l_69 : lnk E RX3 69 (TX0 0) := hC.nf 1 rfl
  refine r_aload_n hC (q := 1) dX3_opcode_0 rfl rfl ?_
  refine r_iload_n hC (q := 2) dX3_opcode_1 rfl rfl ?_
  refine r_iload_n hC (q := 3) dX3_opcode_2 rfl rfl ?_
  refine r_cVI hC (q := 6) (n := 2) (As := [_, _]) (fun lch => c_X3_instructionError lch hW) gX3_opcode_X3_instructionError rfl (by decide +kernel) ⟨by decide, by decide⟩ ob_0 rfl rfl rfl rfl (Nat.le_of_ble_eq_true rfl) dX3_opcode_3 rfl ?_
  rintro _ _ ⟨rfl, rfl⟩
  refine r_istore_n hC (q := 7) (L' := [_, _, _, _]) dX3_opcode_6 (Nat.le_of_ble_eq_true rfl) rfl rfl ?_
  refine r_iload_n hC (q := 8) dX3_opcode_7 rfl rfl ?_
  refine r_if_eq hC (q := 11) (t := 15) dX3_opcode_8 (by decide) rfl (fun h8 => ?_) (fun h8 => ?_)
  · obtain ⟨hx1, hy1⟩ := q_err0 h8; obtain ⟨ex, bx⟩ := inb_tn (by omega) hx1; have hn := (hW.2.2 _ bx).2; obtain ⟨ey, by1⟩ := inb_tn (c := nb v 1 (tn x)) (by omega) hy1
    refine r_aload_n hC (q := 16) dX3_opcode_15 rfl rfl ?_
    refine g_X3 hC 0 i_X3 l_10 (by decide) (q := 19) dX3_opcode_16 rfl rfl ?_
    refine g_X2 hC 0 i_X2 l_43 (by decide) (q := 22) dX3_opcode_19 isPr_1 rfl rfl ?_
    refine r_iload_n hC (q := 23) dX3_opcode_22 rfl rfl ?_
    refine r_top (y := nI (tn x)) ex ?_
    refine r_aBN hC (q := 24) dX3_opcode_23 isPr_1 rfl (by omega) rfl ?_
    refine g_X0 hC 0 i_X0 l_69 (by decide) (q := 27) dX3_opcode_24 (isBk_of isPr_1 (by omega)) rfl rfl ?_
    refine r_iload_n hC (q := 28) dX3_opcode_27 rfl rfl ?_
    refine r_top (y := nI (tn y)) ey ?_
    refine r_iaN hC (q := 29) dX3_opcode_28 (iA_b1 (isBk_of isPr_1 (by omega))) rfl (by omega) rfl ?_
    exact hR _ _ _ _ dX3_opcode_29 ⟨(q_fld0 (f := 0) h8).symm, rfl⟩
  · skip
    refine r_iload_n hC (q := 12) dX3_opcode_11 rfl rfl ?_
    refine r_goto hC (t := 29) dX3_opcode_12 (by decide) ?_
    exact hR _ _ _ _ dX3_opcode_29 ⟨q_err1 h8, rfl⟩
theorem c_X3_opcode (l : Launch) {G : GG} {v : VV} {c : Nat} {x y : Int32} (hW : PW v 1 c) : MtI l G yX3_opcode wsX3_opcode 2 43 [.ref (G.1 0), .int x, .int y] v (fun r v' => r = q_fld 0 c (pv v 1) x y ∧ v = v') := mt_int (Or.inl rfl) (by decide) rfl (by simp [Value.category]) (Nat.le_of_ble_eq_true rfl) rfl rfl (fun E hC hR => b_X3_opcode hC hR hW)

set_option maxRecDepth 100000 in
set_option maxHeartbeats 4000000 in
theorem b_X3_destination {E : TE} {G : GG} {v : VV} {c : Nat} {x y : Int32} (hC : Cx E G cX3_destination RX3 4 wsX3_destination 2 43) (hR : RtI E G cX3_destination (fun r v' => r = q_fld 1 c (pv v 1) x y ∧ v = v')) (hW : PW v 1 c) : Wv E G v 0 [some (.ref (G.1 0)), some (.int x), some (.int y), none] [] := by
  have h12 := hW.2.1
  have i_X0 : ∀ w ∈ wsX00, w ∈ wsX3_destination := by decide +kernel
  have i_X2 : ∀ w ∈ wsX20, w ∈ wsX3_destination := by decide +kernel
  have i_X3 : ∀ w ∈ wsX30, w ∈ wsX3_destination := by decide +kernel
  have l_10 : lnk E RX3 10 (TX3 0) := hC.fl (by decide +kernel)
  have l_43 : lnk E RX3 43 (TX2 0) := hC.nf 18 rfl
  have l_73 : lnk E RX3 73 (TX0 1) := hC.nf 3 rfl
  refine r_aload_n hC (q := 1) dX3_destination_0 rfl rfl ?_
  refine r_iload_n hC (q := 2) dX3_destination_1 rfl rfl ?_
  refine r_iload_n hC (q := 3) dX3_destination_2 rfl rfl ?_
  refine r_cVI hC (q := 6) (n := 2) (As := [_, _]) (fun lch => c_X3_instructionError lch hW) gX3_destination_X3_instructionError rfl (by decide +kernel) ⟨by decide, by decide⟩ ob_0 rfl rfl rfl rfl (Nat.le_of_ble_eq_true rfl) dX3_destination_3 rfl ?_
  rintro _ _ ⟨rfl, rfl⟩
  refine r_istore_n hC (q := 7) (L' := [_, _, _, _]) dX3_destination_6 (Nat.le_of_ble_eq_true rfl) rfl rfl ?_
  refine r_iload_n hC (q := 8) dX3_destination_7 rfl rfl ?_
  refine r_if_eq hC (q := 11) (t := 15) dX3_destination_8 (by decide) rfl (fun h8 => ?_) (fun h8 => ?_)
  · obtain ⟨hx1, hy1⟩ := q_err0 h8; obtain ⟨ex, bx⟩ := inb_tn (by omega) hx1; have hn := (hW.2.2 _ bx).2; obtain ⟨ey, by1⟩ := inb_tn (c := nb v 1 (tn x)) (by omega) hy1
    refine r_aload_n hC (q := 16) dX3_destination_15 rfl rfl ?_
    refine g_X3 hC 0 i_X3 l_10 (by decide) (q := 19) dX3_destination_16 rfl rfl ?_
    refine g_X2 hC 0 i_X2 l_43 (by decide) (q := 22) dX3_destination_19 isPr_1 rfl rfl ?_
    refine r_iload_n hC (q := 23) dX3_destination_22 rfl rfl ?_
    refine r_top (y := nI (tn x)) ex ?_
    refine r_aBN hC (q := 24) dX3_destination_23 isPr_1 rfl (by omega) rfl ?_
    refine g_X0 hC 1 i_X0 l_73 (by decide) (q := 27) dX3_destination_24 (isBk_of isPr_1 (by omega)) rfl rfl ?_
    refine r_iload_n hC (q := 28) dX3_destination_27 rfl rfl ?_
    refine r_top (y := nI (tn y)) ey ?_
    refine r_iaN hC (q := 29) dX3_destination_28 (iA_b2 (isBk_of isPr_1 (by omega))) rfl (by omega) rfl ?_
    exact hR _ _ _ _ dX3_destination_29 ⟨(q_fld0 (f := 1) h8).symm, rfl⟩
  · skip
    refine r_iload_n hC (q := 12) dX3_destination_11 rfl rfl ?_
    refine r_goto hC (t := 29) dX3_destination_12 (by decide) ?_
    exact hR _ _ _ _ dX3_destination_29 ⟨q_err1 h8, rfl⟩
theorem c_X3_destination (l : Launch) {G : GG} {v : VV} {c : Nat} {x y : Int32} (hW : PW v 1 c) : MtI l G yX3_destination wsX3_destination 2 43 [.ref (G.1 0), .int x, .int y] v (fun r v' => r = q_fld 1 c (pv v 1) x y ∧ v = v') := mt_int (Or.inl rfl) (by decide) rfl (by simp [Value.category]) (Nat.le_of_ble_eq_true rfl) rfl rfl (fun E hC hR => b_X3_destination hC hR hW)

set_option maxRecDepth 100000 in
set_option maxHeartbeats 4000000 in
theorem b_X3_operandA {E : TE} {G : GG} {v : VV} {c : Nat} {x y : Int32} (hC : Cx E G cX3_operandA RX3 4 wsX3_operandA 2 43) (hR : RtI E G cX3_operandA (fun r v' => r = q_fld 2 c (pv v 1) x y ∧ v = v')) (hW : PW v 1 c) : Wv E G v 0 [some (.ref (G.1 0)), some (.int x), some (.int y), none] [] := by
  have h12 := hW.2.1
  have i_X0 : ∀ w ∈ wsX00, w ∈ wsX3_operandA := by decide +kernel
  have i_X2 : ∀ w ∈ wsX20, w ∈ wsX3_operandA := by decide +kernel
  have i_X3 : ∀ w ∈ wsX30, w ∈ wsX3_operandA := by decide +kernel
  have l_10 : lnk E RX3 10 (TX3 0) := hC.fl (by decide +kernel)
  have l_43 : lnk E RX3 43 (TX2 0) := hC.nf 18 rfl
  have l_76 : lnk E RX3 76 (TX0 2) := hC.nf 5 rfl
  refine r_aload_n hC (q := 1) dX3_operandA_0 rfl rfl ?_
  refine r_iload_n hC (q := 2) dX3_operandA_1 rfl rfl ?_
  refine r_iload_n hC (q := 3) dX3_operandA_2 rfl rfl ?_
  refine r_cVI hC (q := 6) (n := 2) (As := [_, _]) (fun lch => c_X3_instructionError lch hW) gX3_operandA_X3_instructionError rfl (by decide +kernel) ⟨by decide, by decide⟩ ob_0 rfl rfl rfl rfl (Nat.le_of_ble_eq_true rfl) dX3_operandA_3 rfl ?_
  rintro _ _ ⟨rfl, rfl⟩
  refine r_istore_n hC (q := 7) (L' := [_, _, _, _]) dX3_operandA_6 (Nat.le_of_ble_eq_true rfl) rfl rfl ?_
  refine r_iload_n hC (q := 8) dX3_operandA_7 rfl rfl ?_
  refine r_if_eq hC (q := 11) (t := 15) dX3_operandA_8 (by decide) rfl (fun h8 => ?_) (fun h8 => ?_)
  · obtain ⟨hx1, hy1⟩ := q_err0 h8; obtain ⟨ex, bx⟩ := inb_tn (by omega) hx1; have hn := (hW.2.2 _ bx).2; obtain ⟨ey, by1⟩ := inb_tn (c := nb v 1 (tn x)) (by omega) hy1
    refine r_aload_n hC (q := 16) dX3_operandA_15 rfl rfl ?_
    refine g_X3 hC 0 i_X3 l_10 (by decide) (q := 19) dX3_operandA_16 rfl rfl ?_
    refine g_X2 hC 0 i_X2 l_43 (by decide) (q := 22) dX3_operandA_19 isPr_1 rfl rfl ?_
    refine r_iload_n hC (q := 23) dX3_operandA_22 rfl rfl ?_
    refine r_top (y := nI (tn x)) ex ?_
    refine r_aBN hC (q := 24) dX3_operandA_23 isPr_1 rfl (by omega) rfl ?_
    refine g_X0 hC 2 i_X0 l_76 (by decide) (q := 27) dX3_operandA_24 (isBk_of isPr_1 (by omega)) rfl rfl ?_
    refine r_iload_n hC (q := 28) dX3_operandA_27 rfl rfl ?_
    refine r_top (y := nI (tn y)) ey ?_
    refine r_iaN hC (q := 29) dX3_operandA_28 (iA_b3 (isBk_of isPr_1 (by omega))) rfl (by omega) rfl ?_
    exact hR _ _ _ _ dX3_operandA_29 ⟨(q_fld0 (f := 2) h8).symm, rfl⟩
  · skip
    refine r_iload_n hC (q := 12) dX3_operandA_11 rfl rfl ?_
    refine r_goto hC (t := 29) dX3_operandA_12 (by decide) ?_
    exact hR _ _ _ _ dX3_operandA_29 ⟨q_err1 h8, rfl⟩
theorem c_X3_operandA (l : Launch) {G : GG} {v : VV} {c : Nat} {x y : Int32} (hW : PW v 1 c) : MtI l G yX3_operandA wsX3_operandA 2 43 [.ref (G.1 0), .int x, .int y] v (fun r v' => r = q_fld 2 c (pv v 1) x y ∧ v = v') := mt_int (Or.inl rfl) (by decide) rfl (by simp [Value.category]) (Nat.le_of_ble_eq_true rfl) rfl rfl (fun E hC hR => b_X3_operandA hC hR hW)

set_option maxRecDepth 100000 in
set_option maxHeartbeats 4000000 in
theorem b_X3_operandB {E : TE} {G : GG} {v : VV} {c : Nat} {x y : Int32} (hC : Cx E G cX3_operandB RX3 4 wsX3_operandB 2 43) (hR : RtI E G cX3_operandB (fun r v' => r = q_fld 3 c (pv v 1) x y ∧ v = v')) (hW : PW v 1 c) : Wv E G v 0 [some (.ref (G.1 0)), some (.int x), some (.int y), none] [] := by
  have h12 := hW.2.1
  have i_X0 : ∀ w ∈ wsX00, w ∈ wsX3_operandB := by decide +kernel
  have i_X2 : ∀ w ∈ wsX20, w ∈ wsX3_operandB := by decide +kernel
  have i_X3 : ∀ w ∈ wsX30, w ∈ wsX3_operandB := by decide +kernel
  have l_10 : lnk E RX3 10 (TX3 0) := hC.fl (by decide +kernel)
  have l_43 : lnk E RX3 43 (TX2 0) := hC.nf 18 rfl
  have l_79 : lnk E RX3 79 (TX0 3) := hC.nf 7 rfl
  refine r_aload_n hC (q := 1) dX3_operandB_0 rfl rfl ?_
  refine r_iload_n hC (q := 2) dX3_operandB_1 rfl rfl ?_
  refine r_iload_n hC (q := 3) dX3_operandB_2 rfl rfl ?_
  refine r_cVI hC (q := 6) (n := 2) (As := [_, _]) (fun lch => c_X3_instructionError lch hW) gX3_operandB_X3_instructionError rfl (by decide +kernel) ⟨by decide, by decide⟩ ob_0 rfl rfl rfl rfl (Nat.le_of_ble_eq_true rfl) dX3_operandB_3 rfl ?_
  rintro _ _ ⟨rfl, rfl⟩
  refine r_istore_n hC (q := 7) (L' := [_, _, _, _]) dX3_operandB_6 (Nat.le_of_ble_eq_true rfl) rfl rfl ?_
  refine r_iload_n hC (q := 8) dX3_operandB_7 rfl rfl ?_
  refine r_if_eq hC (q := 11) (t := 15) dX3_operandB_8 (by decide) rfl (fun h8 => ?_) (fun h8 => ?_)
  · obtain ⟨hx1, hy1⟩ := q_err0 h8; obtain ⟨ex, bx⟩ := inb_tn (by omega) hx1; have hn := (hW.2.2 _ bx).2; obtain ⟨ey, by1⟩ := inb_tn (c := nb v 1 (tn x)) (by omega) hy1
    refine r_aload_n hC (q := 16) dX3_operandB_15 rfl rfl ?_
    refine g_X3 hC 0 i_X3 l_10 (by decide) (q := 19) dX3_operandB_16 rfl rfl ?_
    refine g_X2 hC 0 i_X2 l_43 (by decide) (q := 22) dX3_operandB_19 isPr_1 rfl rfl ?_
    refine r_iload_n hC (q := 23) dX3_operandB_22 rfl rfl ?_
    refine r_top (y := nI (tn x)) ex ?_
    refine r_aBN hC (q := 24) dX3_operandB_23 isPr_1 rfl (by omega) rfl ?_
    refine g_X0 hC 3 i_X0 l_79 (by decide) (q := 27) dX3_operandB_24 (isBk_of isPr_1 (by omega)) rfl rfl ?_
    refine r_iload_n hC (q := 28) dX3_operandB_27 rfl rfl ?_
    refine r_top (y := nI (tn y)) ey ?_
    refine r_iaN hC (q := 29) dX3_operandB_28 (iA_b4 (isBk_of isPr_1 (by omega))) rfl (by omega) rfl ?_
    exact hR _ _ _ _ dX3_operandB_29 ⟨(q_fld0 (f := 3) h8).symm, rfl⟩
  · skip
    refine r_iload_n hC (q := 12) dX3_operandB_11 rfl rfl ?_
    refine r_goto hC (t := 29) dX3_operandB_12 (by decide) ?_
    exact hR _ _ _ _ dX3_operandB_29 ⟨q_err1 h8, rfl⟩
theorem c_X3_operandB (l : Launch) {G : GG} {v : VV} {c : Nat} {x y : Int32} (hW : PW v 1 c) : MtI l G yX3_operandB wsX3_operandB 2 43 [.ref (G.1 0), .int x, .int y] v (fun r v' => r = q_fld 3 c (pv v 1) x y ∧ v = v') := mt_int (Or.inl rfl) (by decide) rfl (by simp [Value.category]) (Nat.le_of_ble_eq_true rfl) rfl rfl (fun E hC hR => b_X3_operandB hC hR hW)

set_option maxRecDepth 100000 in
set_option maxHeartbeats 4000000 in
theorem b_X3_lines {E : TE} {G : GG} {v : VV} {c : Nat} {x y : Int32} (hC : Cx E G cX3_lines RX3 4 wsX3_lines 2 43) (hR : RtI E G cX3_lines (fun r v' => r = q_fld 4 c (pv v 1) x y ∧ v = v')) (hW : PW v 1 c) : Wv E G v 0 [some (.ref (G.1 0)), some (.int x), some (.int y), none] [] := by
  have h12 := hW.2.1
  have i_X0 : ∀ w ∈ wsX00, w ∈ wsX3_lines := by decide +kernel
  have i_X2 : ∀ w ∈ wsX20, w ∈ wsX3_lines := by decide +kernel
  have i_X3 : ∀ w ∈ wsX30, w ∈ wsX3_lines := by decide +kernel
  have l_10 : lnk E RX3 10 (TX3 0) := hC.fl (by decide +kernel)
  have l_43 : lnk E RX3 43 (TX2 0) := hC.nf 18 rfl
  have l_82 : lnk E RX3 82 (TX0 4) := hC.nf 8 rfl
  refine r_aload_n hC (q := 1) dX3_lines_0 rfl rfl ?_
  refine r_iload_n hC (q := 2) dX3_lines_1 rfl rfl ?_
  refine r_iload_n hC (q := 3) dX3_lines_2 rfl rfl ?_
  refine r_cVI hC (q := 6) (n := 2) (As := [_, _]) (fun lch => c_X3_instructionError lch hW) gX3_lines_X3_instructionError rfl (by decide +kernel) ⟨by decide, by decide⟩ ob_0 rfl rfl rfl rfl (Nat.le_of_ble_eq_true rfl) dX3_lines_3 rfl ?_
  rintro _ _ ⟨rfl, rfl⟩
  refine r_istore_n hC (q := 7) (L' := [_, _, _, _]) dX3_lines_6 (Nat.le_of_ble_eq_true rfl) rfl rfl ?_
  refine r_iload_n hC (q := 8) dX3_lines_7 rfl rfl ?_
  refine r_if_eq hC (q := 11) (t := 15) dX3_lines_8 (by decide) rfl (fun h8 => ?_) (fun h8 => ?_)
  · obtain ⟨hx1, hy1⟩ := q_err0 h8; obtain ⟨ex, bx⟩ := inb_tn (by omega) hx1; have hn := (hW.2.2 _ bx).2; obtain ⟨ey, by1⟩ := inb_tn (c := nb v 1 (tn x)) (by omega) hy1
    refine r_aload_n hC (q := 16) dX3_lines_15 rfl rfl ?_
    refine g_X3 hC 0 i_X3 l_10 (by decide) (q := 19) dX3_lines_16 rfl rfl ?_
    refine g_X2 hC 0 i_X2 l_43 (by decide) (q := 22) dX3_lines_19 isPr_1 rfl rfl ?_
    refine r_iload_n hC (q := 23) dX3_lines_22 rfl rfl ?_
    refine r_top (y := nI (tn x)) ex ?_
    refine r_aBN hC (q := 24) dX3_lines_23 isPr_1 rfl (by omega) rfl ?_
    refine g_X0 hC 4 i_X0 l_82 (by decide) (q := 27) dX3_lines_24 (isBk_of isPr_1 (by omega)) rfl rfl ?_
    refine r_iload_n hC (q := 28) dX3_lines_27 rfl rfl ?_
    refine r_top (y := nI (tn y)) ey ?_
    refine r_iaN hC (q := 29) dX3_lines_28 (iA_b5 (isBk_of isPr_1 (by omega))) rfl (by omega) rfl ?_
    exact hR _ _ _ _ dX3_lines_29 ⟨(q_fld0 (f := 4) h8).symm, rfl⟩
  · skip
    refine r_iload_n hC (q := 12) dX3_lines_11 rfl rfl ?_
    refine r_goto hC (t := 29) dX3_lines_12 (by decide) ?_
    exact hR _ _ _ _ dX3_lines_29 ⟨q_err1 h8, rfl⟩
theorem c_X3_lines (l : Launch) {G : GG} {v : VV} {c : Nat} {x y : Int32} (hW : PW v 1 c) : MtI l G yX3_lines wsX3_lines 2 43 [.ref (G.1 0), .int x, .int y] v (fun r v' => r = q_fld 4 c (pv v 1) x y ∧ v = v') := mt_int (Or.inl rfl) (by decide) rfl (by simp [Value.category]) (Nat.le_of_ble_eq_true rfl) rfl rfl (fun E hC hR => b_X3_lines hC hR hW)

set_option maxRecDepth 100000 in
set_option maxHeartbeats 4000000 in
theorem b_X3_terminatorKind {E : TE} {G : GG} {v : VV} {c : Nat} {x : Int32} (hC : Cx E G cX3_terminatorKind RX3 2 wsX3_terminatorKind 1 21) (hR : RtI E G cX3_terminatorKind (fun r v' => r = q_kind c (pv v 1) x ∧ v = v')) (hW : PW v 1 c) : Wv E G v 0 [some (.ref (G.1 0)), some (.int x)] [] := by
  have h12 := hW.2.1
  have i_X0 : ∀ w ∈ wsX00, w ∈ wsX3_terminatorKind := by decide +kernel
  have i_X2 : ∀ w ∈ wsX20, w ∈ wsX3_terminatorKind := by decide +kernel
  have i_X3 : ∀ w ∈ wsX30, w ∈ wsX3_terminatorKind := by decide +kernel
  have l_10 : lnk E RX3 10 (TX3 0) := hC.fl (by decide +kernel)
  have l_43 : lnk E RX3 43 (TX2 0) := hC.nf 18 rfl
  have l_85 : lnk E RX3 85 (TX0 6) := hC.nf 14 rfl
  refine r_aload_n hC (q := 1) dX3_terminatorKind_0 rfl rfl ?_
  refine g_X3 hC 0 i_X3 l_10 (by decide) (q := 4) dX3_terminatorKind_1 rfl rfl ?_
  refine r_iload_n hC (q := 5) dX3_terminatorKind_4 rfl rfl ?_
  refine r_cNI hC (q := 8) (n := 1) (As := [_]) (fun lch => c_X2_has lch isPr_1 hW.1) ggX3_terminatorKind_X2_has rfl 5 rfl (by decide +kernel) (by decide +kernel) (by decide +kernel) (by decide +kernel) ⟨by decide, by decide⟩ (ob_p isPr_1) rfl rfl rfl rfl (Nat.le_of_ble_eq_true rfl) dX3_terminatorKind_5 rfl ?_
  rintro _ _ ⟨rfl, rfl⟩
  refine r_if_eqB hC (q := 11) (t := 26) dX3_terminatorKind_8 (by decide) rfl (fun h8 => ?_) (fun h8 => ?_)
  · skip
    refine r_sipush hC (x := (-1001)) (q := 29) dX3_terminatorKind_26 (by decide) rfl ?_
    exact hR _ _ _ _ dX3_terminatorKind_29 ⟨by rw [q_kind, if_neg h8], rfl⟩
  · obtain ⟨ex, bx⟩ := inb_tn (by have := hW.2.1; omega) h8
    refine r_aload_n hC (q := 12) dX3_terminatorKind_11 rfl rfl ?_
    refine g_X3 hC 0 i_X3 l_10 (by decide) (q := 15) dX3_terminatorKind_12 rfl rfl ?_
    refine g_X2 hC 0 i_X2 l_43 (by decide) (q := 18) dX3_terminatorKind_15 isPr_1 rfl rfl ?_
    refine r_iload_n hC (q := 19) dX3_terminatorKind_18 rfl rfl ?_
    refine r_top (y := nI (tn x)) ex ?_
    refine r_aBN hC (q := 20) dX3_terminatorKind_19 isPr_1 rfl (by omega) rfl ?_
    refine g_X0 hC 6 i_X0 l_85 (by decide) (q := 23) dX3_terminatorKind_20 (isBk_of isPr_1 (by omega)) rfl rfl ?_
    refine r_goto hC (t := 29) dX3_terminatorKind_23 (by decide) ?_
    exact hR _ _ _ _ dX3_terminatorKind_29 ⟨by rw [q_kind, if_pos h8]; rfl, rfl⟩
theorem c_X3_terminatorKind (l : Launch) {G : GG} {v : VV} {c : Nat} {x : Int32} (hW : PW v 1 c) : MtI l G yX3_terminatorKind wsX3_terminatorKind 1 21 [.ref (G.1 0), .int x] v (fun r v' => r = q_kind c (pv v 1) x ∧ v = v') := mt_int (Or.inl rfl) (by decide) rfl (by simp [Value.category]) (Nat.le_of_ble_eq_true rfl) rfl rfl (fun E hC hR => b_X3_terminatorKind hC hR hW)
