/-! a block as it is read: number of instructions, their fields (0 opcode, 1 d, 2 a, 3 b, 4 lines), the terminator (kind and operands) -/
abbrev Bv : Type := Nat × (Nat → Nat → Int32) × (Nat → Int32)
def bw (v : VV) (k n : Nat) : Bv := (n, fun c i => v (k + (1 + c)) i, fun j => if j = 0 then v k 6 else v (k + 6) (j - 1))
def eqA (x y : Bv) (b : Nat) : Prop := x.2.1 0 (x.1 - b) = y.2.1 0 (y.1 - b) ∧ x.2.1 1 (x.1 - b) = y.2.1 1 (y.1 - b) ∧ x.2.1 2 (x.1 - b) = y.2.1 2 (y.1 - b) ∧ x.2.1 3 (x.1 - b) = y.2.1 3 (y.1 - b)
def eqT (x y : Bv) : Prop := x.2.2 0 = y.2.2 0 ∧ x.2.2 1 = y.2.2 1 ∧ x.2.2 2 = y.2.2 2 ∧ x.2.2 3 = y.2.2 3
def sct (x y : Bv) (b : Nat) : Prop := x.2.1 0 (x.1 - b) = 0 ∧ y.2.1 0 (y.1 - b) = 0 ∧ x.2.1 1 (x.1 - b) = y.2.1 1 (y.1 - b)
def us7 (x : Bv) (b : Nat) : Prop := x.2.1 1 (x.1 - b) = 7 ∨ x.2.1 3 (x.1 - b) = 7 ∨ (x.2.1 2 (x.1 - b) = 7 ∧ ¬ x.2.1 0 (x.1 - b) = 0)
def eqAd (x y : Bv) (b : Nat) : Decidable (eqA x y b) := by unfold eqA; exact inferInstance
def eqTd (x y : Bv) : Decidable (eqT x y) := by unfold eqT; exact inferInstance
def sctd (x y : Bv) (b : Nat) : Decidable (sct x y b) := by unfold sct; exact inferInstance
def us7d (x : Bv) (b : Nat) : Decidable (us7 x b) := by unfold us7; exact inferInstance
/-- the same as numbers -/
def eqAb (x y : Bv) (b : Nat) : Bool := @decide (eqA x y b) (eqAd x y b)
def eqTb (x y : Bv) : Bool := @decide (eqT x y) (eqTd x y)
def sctb (x y : Bv) (b : Nat) : Bool := @decide (sct x y b) (sctd x y b)
def us7b (x : Bv) (b : Nat) : Bool := @decide (us7 x b) (us7d x b)
theorem eqAb_iff {x y : Bv} {b : Nat} : eqAb x y b = true ↔ eqA x y b := @decide_eq_true_iff _ (eqAd x y b)
theorem eqTb_iff {x y : Bv} : eqTb x y = true ↔ eqT x y := @decide_eq_true_iff _ (eqTd x y)
theorem sctb_iff {x y : Bv} {b : Nat} : sctb x y b = true ↔ sct x y b := @decide_eq_true_iff _ (sctd x y b)
theorem us7b_iff {x : Bv} {b : Nat} : us7b x b = true ↔ us7 x b := @decide_eq_true_iff _ (us7d x b)
/-- a boolean as an int -/
abbrev bI (c : Bool) : Int32 := if c = true then 1 else 0
theorem bI_t {c : Bool} {p : Prop} (h : c = true ↔ p) (hp : p) : (1 : Int32) = bI c := by rw [bI, if_pos (h.mpr hp)]
theorem bI_f {c : Bool} {p : Prop} (h : c = true ↔ p) (hp : ¬ p) : (0 : Int32) = bI c := by rw [bI, if_neg (fun e => hp (h.mp e))]

set_option maxRecDepth 100000 in
set_option maxHeartbeats 4000000 in
theorem b_X0_hasTerminatorOf {E : TE} {G : GG} {v : VV} {k : Nat} {k2 n n2 : Nat} (hC : Cx E G cX0_hasTerminatorOf RX0 2 wsX0_hasTerminatorOf 0 0) (hR : RtI E G cX0_hasTerminatorOf (fun r v' => r = bI (eqTb (bw v k n) (bw v k2 n2)) ∧ v = v')) (hk : isBk k) (hk2 : isBk k2) : Wv E G v 0 [some (.ref (G.1 k)), some (.ref (G.1 k2))] [] := by
  have i_X0 : ∀ w ∈ wsX00, w ∈ wsX0_hasTerminatorOf := by decide +kernel
  have l_31 : lnk E RX0 31 (TX0 6) := hC.fl (by decide +kernel)
  have l_34 : lnk E RX0 34 (TX0 7) := hC.fl (by decide +kernel)
  refine r_aload_n hC (q := 1) dX0_hasTerminatorOf_0 rfl rfl ?_
  refine g_X0 hC 6 i_X0 l_31 (by decide) (q := 4) dX0_hasTerminatorOf_1 hk rfl rfl ?_
  refine r_aload_n hC (q := 5) dX0_hasTerminatorOf_4 rfl rfl ?_
  refine g_X0 hC 6 i_X0 l_31 (by decide) (q := 8) dX0_hasTerminatorOf_5 hk2 rfl rfl ?_
  refine r_icmp_ne hC (q := 11) (t := 60) dX0_hasTerminatorOf_8 (by decide) rfl (fun h8 => ?_) (fun h8 => ?_)
  · skip
    refine r_iconst hC (x := 0) (q := 61) dX0_hasTerminatorOf_60 (by decide) rfl ?_
    exact hR _ _ _ _ dX0_hasTerminatorOf_61 ⟨by first | exact bI_t eqTb_iff (by simp [eqT, bw, h8]) | exact bI_f eqTb_iff (by simp [eqT, bw, h8]), rfl⟩
  · skip
    refine r_aload_n hC (q := 12) dX0_hasTerminatorOf_11 rfl rfl ?_
    refine g_X0 hC 7 i_X0 l_34 (by decide) (q := 15) dX0_hasTerminatorOf_12 hk rfl rfl ?_
    refine r_iconst hC (x := 0) (q := 16) dX0_hasTerminatorOf_15 (by decide) rfl ?_
    refine r_iaN hC (q := 17) (i := 0) dX0_hasTerminatorOf_16 (iA_b6 hk) rfl (by omega) rfl ?_
    refine r_aload_n hC (q := 18) dX0_hasTerminatorOf_17 rfl rfl ?_
    refine g_X0 hC 7 i_X0 l_34 (by decide) (q := 21) dX0_hasTerminatorOf_18 hk2 rfl rfl ?_
    refine r_iconst hC (x := 0) (q := 22) dX0_hasTerminatorOf_21 (by decide) rfl ?_
    refine r_iaN hC (q := 23) (i := 0) dX0_hasTerminatorOf_22 (iA_b6 hk2) rfl (by omega) rfl ?_
    refine r_icmp_ne hC (q := 26) (t := 60) dX0_hasTerminatorOf_23 (by decide) rfl (fun h23 => ?_) (fun h23 => ?_)
    · skip
      refine r_iconst hC (x := 0) (q := 61) dX0_hasTerminatorOf_60 (by decide) rfl ?_
      exact hR _ _ _ _ dX0_hasTerminatorOf_61 ⟨by first | exact bI_t eqTb_iff (by simp [eqT, bw, h8, h23]) | exact bI_f eqTb_iff (by simp [eqT, bw, h8, h23]), rfl⟩
    · skip
      refine r_aload_n hC (q := 27) dX0_hasTerminatorOf_26 rfl rfl ?_
      refine g_X0 hC 7 i_X0 l_34 (by decide) (q := 30) dX0_hasTerminatorOf_27 hk rfl rfl ?_
      refine r_iconst hC (x := 1) (q := 31) dX0_hasTerminatorOf_30 (by decide) rfl ?_
      refine r_iaN hC (q := 32) (i := 1) dX0_hasTerminatorOf_31 (iA_b6 hk) rfl (by omega) rfl ?_
      refine r_aload_n hC (q := 33) dX0_hasTerminatorOf_32 rfl rfl ?_
      refine g_X0 hC 7 i_X0 l_34 (by decide) (q := 36) dX0_hasTerminatorOf_33 hk2 rfl rfl ?_
      refine r_iconst hC (x := 1) (q := 37) dX0_hasTerminatorOf_36 (by decide) rfl ?_
      refine r_iaN hC (q := 38) (i := 1) dX0_hasTerminatorOf_37 (iA_b6 hk2) rfl (by omega) rfl ?_
      refine r_icmp_ne hC (q := 41) (t := 60) dX0_hasTerminatorOf_38 (by decide) rfl (fun h38 => ?_) (fun h38 => ?_)
      · skip
        refine r_iconst hC (x := 0) (q := 61) dX0_hasTerminatorOf_60 (by decide) rfl ?_
        exact hR _ _ _ _ dX0_hasTerminatorOf_61 ⟨by first | exact bI_t eqTb_iff (by simp [eqT, bw, h8, h23, h38]) | exact bI_f eqTb_iff (by simp [eqT, bw, h8, h23, h38]), rfl⟩
      · skip
        refine r_aload_n hC (q := 42) dX0_hasTerminatorOf_41 rfl rfl ?_
        refine g_X0 hC 7 i_X0 l_34 (by decide) (q := 45) dX0_hasTerminatorOf_42 hk rfl rfl ?_
        refine r_iconst hC (x := 2) (q := 46) dX0_hasTerminatorOf_45 (by decide) rfl ?_
        refine r_iaN hC (q := 47) (i := 2) dX0_hasTerminatorOf_46 (iA_b6 hk) rfl (by omega) rfl ?_
        refine r_aload_n hC (q := 48) dX0_hasTerminatorOf_47 rfl rfl ?_
        refine g_X0 hC 7 i_X0 l_34 (by decide) (q := 51) dX0_hasTerminatorOf_48 hk2 rfl rfl ?_
        refine r_iconst hC (x := 2) (q := 52) dX0_hasTerminatorOf_51 (by decide) rfl ?_
        refine r_iaN hC (q := 53) (i := 2) dX0_hasTerminatorOf_52 (iA_b6 hk2) rfl (by omega) rfl ?_
        refine r_icmp_ne hC (q := 56) (t := 60) dX0_hasTerminatorOf_53 (by decide) rfl (fun h53 => ?_) (fun h53 => ?_)
        · skip
          refine r_iconst hC (x := 0) (q := 61) dX0_hasTerminatorOf_60 (by decide) rfl ?_
          exact hR _ _ _ _ dX0_hasTerminatorOf_61 ⟨by first | exact bI_t eqTb_iff (by simp [eqT, bw, h8, h23, h38, h53]) | exact bI_f eqTb_iff (by simp [eqT, bw, h8, h23, h38, h53]), rfl⟩
        · skip
          refine r_iconst hC (x := 1) (q := 57) dX0_hasTerminatorOf_56 (by decide) rfl ?_
          refine r_goto hC (t := 61) dX0_hasTerminatorOf_57 (by decide) ?_
          exact hR _ _ _ _ dX0_hasTerminatorOf_61 ⟨by first | exact bI_t eqTb_iff (by simp [eqT, bw, h8, h23, h38, h53]) | exact bI_f eqTb_iff (by simp [eqT, bw, h8, h23, h38, h53]), rfl⟩
theorem c_X0_hasTerminatorOf (l : Launch) {G : GG} {v : VV} {k : Nat} {k2 n n2 : Nat} (hk : isBk k) (hk2 : isBk k2) : MtI l G yX0_hasTerminatorOf wsX0_hasTerminatorOf 0 0 [.ref (G.1 k), .ref (G.1 k2)] v (fun r v' => r = bI (eqTb (bw v k n) (bw v k2 n2)) ∧ v = v') := mt_int (Or.inr ⟨rfl, fun r v' h => by rw [h.1]; exact ite01 _⟩) (by decide) rfl (by simp [Value.category]) (Nat.le_of_ble_eq_true rfl) rfl rfl (fun E hC hR => b_X0_hasTerminatorOf hC hR hk hk2)

set_option maxRecDepth 100000 in
set_option maxHeartbeats 4000000 in
theorem b_X0_isEqualAt {E : TE} {G : GG} {v : VV} {k : Nat} {k2 n n2 b : Nat} (hC : Cx E G cX0_isEqualAt RX0 5 wsX0_isEqualAt 0 0) (hR : RtI E G cX0_isEqualAt (fun r v' => r = bI (eqAb (bw v k n) (bw v k2 n2) b) ∧ v = v')) (hk : isBk k) (hk2 : isBk k2) (hn : v k 5 = nI n) (hn2 : v k2 5 = nI n2) (h1 : n ≤ 10) (h2 : n2 ≤ 10) (hb1 : 1 ≤ b) (hbn : b ≤ n) (hbn2 : b ≤ n2) : Wv E G v 0 [some (.ref (G.1 k)), some (.ref (G.1 k2)), some (.int (nI b)), none, none] [] := by
  have i_X0 : ∀ w ∈ wsX00, w ∈ wsX0_isEqualAt := by decide +kernel
  have l_9 : lnk E RX0 9 (TX0 0) := hC.fl (by decide +kernel)
  have l_15 : lnk E RX0 15 (TX0 1) := hC.fl (by decide +kernel)
  have l_18 : lnk E RX0 18 (TX0 2) := hC.fl (by decide +kernel)
  have l_21 : lnk E RX0 21 (TX0 3) := hC.fl (by decide +kernel)
  have l_27 : lnk E RX0 27 (TX0 5) := hC.fl (by decide +kernel)
  refine r_aload_n hC (q := 1) dX0_isEqualAt_0 rfl rfl ?_
  refine g_X0 hC 5 i_X0 l_27 (by decide) (q := 4) dX0_isEqualAt_1 hk rfl rfl ?_
  refine r_top (y := nI n) hn ?_
  refine r_iload_n hC (q := 5) dX0_isEqualAt_4 rfl rfl ?_
  refine r_isubN hC (q := 6) dX0_isEqualAt_5 rfl rfl (by omega) rfl ?_
  refine r_istore_n hC (q := 7) (L' := [_, _, _, _, _]) dX0_isEqualAt_6 (Nat.le_of_ble_eq_true rfl) rfl rfl ?_
  refine r_aload_n hC (q := 8) dX0_isEqualAt_7 rfl rfl ?_
  refine g_X0 hC 5 i_X0 l_27 (by decide) (q := 11) dX0_isEqualAt_8 hk2 rfl rfl ?_
  refine r_top (y := nI n2) hn2 ?_
  refine r_iload_n hC (q := 12) dX0_isEqualAt_11 rfl rfl ?_
  refine r_isubN hC (q := 13) dX0_isEqualAt_12 rfl rfl (by omega) rfl ?_
  refine r_istore hC (q := 15) (L' := [_, _, _, _, _]) dX0_isEqualAt_13 (Nat.le_of_ble_eq_true rfl) rfl rfl ?_
  refine r_aload_n hC (q := 16) dX0_isEqualAt_15 rfl rfl ?_
  refine g_X0 hC 0 i_X0 l_9 (by decide) (q := 19) dX0_isEqualAt_16 hk rfl rfl ?_
  refine r_iload_n hC (q := 20) dX0_isEqualAt_19 rfl rfl ?_
  refine r_iaN hC (q := 21) dX0_isEqualAt_20 (iA_b1 hk) rfl (by omega) rfl ?_
  refine r_aload_n hC (q := 22) dX0_isEqualAt_21 rfl rfl ?_
  refine g_X0 hC 0 i_X0 l_9 (by decide) (q := 25) dX0_isEqualAt_22 hk2 rfl rfl ?_
  refine r_iload hC (q := 27) dX0_isEqualAt_25 rfl rfl ?_
  refine r_iaN hC (q := 28) dX0_isEqualAt_27 (iA_b1 hk2) rfl (by omega) rfl ?_
  refine r_icmp_ne hC (q := 31) (t := 83) dX0_isEqualAt_28 (by decide) rfl (fun h28 => ?_) (fun h28 => ?_)
  · skip
    refine r_iconst hC (x := 0) (q := 84) dX0_isEqualAt_83 (by decide) rfl ?_
    exact hR _ _ _ _ dX0_isEqualAt_84 ⟨by first | exact bI_t eqAb_iff (by simp [eqA, bw, h28]) | exact bI_f eqAb_iff (by simp [eqA, bw, h28]), rfl⟩
  · skip
    refine r_aload_n hC (q := 32) dX0_isEqualAt_31 rfl rfl ?_
    refine g_X0 hC 1 i_X0 l_15 (by decide) (q := 35) dX0_isEqualAt_32 hk rfl rfl ?_
    refine r_iload_n hC (q := 36) dX0_isEqualAt_35 rfl rfl ?_
    refine r_iaN hC (q := 37) dX0_isEqualAt_36 (iA_b2 hk) rfl (by omega) rfl ?_
    refine r_aload_n hC (q := 38) dX0_isEqualAt_37 rfl rfl ?_
    refine g_X0 hC 1 i_X0 l_15 (by decide) (q := 41) dX0_isEqualAt_38 hk2 rfl rfl ?_
    refine r_iload hC (q := 43) dX0_isEqualAt_41 rfl rfl ?_
    refine r_iaN hC (q := 44) dX0_isEqualAt_43 (iA_b2 hk2) rfl (by omega) rfl ?_
    refine r_icmp_ne hC (q := 47) (t := 83) dX0_isEqualAt_44 (by decide) rfl (fun h44 => ?_) (fun h44 => ?_)
    · skip
      refine r_iconst hC (x := 0) (q := 84) dX0_isEqualAt_83 (by decide) rfl ?_
      exact hR _ _ _ _ dX0_isEqualAt_84 ⟨by first | exact bI_t eqAb_iff (by simp [eqA, bw, h28, h44]) | exact bI_f eqAb_iff (by simp [eqA, bw, h28, h44]), rfl⟩
    · skip
      refine r_aload_n hC (q := 48) dX0_isEqualAt_47 rfl rfl ?_
      refine g_X0 hC 2 i_X0 l_18 (by decide) (q := 51) dX0_isEqualAt_48 hk rfl rfl ?_
      refine r_iload_n hC (q := 52) dX0_isEqualAt_51 rfl rfl ?_
      refine r_iaN hC (q := 53) dX0_isEqualAt_52 (iA_b3 hk) rfl (by omega) rfl ?_
      refine r_aload_n hC (q := 54) dX0_isEqualAt_53 rfl rfl ?_
      refine g_X0 hC 2 i_X0 l_18 (by decide) (q := 57) dX0_isEqualAt_54 hk2 rfl rfl ?_
      refine r_iload hC (q := 59) dX0_isEqualAt_57 rfl rfl ?_
      refine r_iaN hC (q := 60) dX0_isEqualAt_59 (iA_b3 hk2) rfl (by omega) rfl ?_
      refine r_icmp_ne hC (q := 63) (t := 83) dX0_isEqualAt_60 (by decide) rfl (fun h60 => ?_) (fun h60 => ?_)
      · skip
        refine r_iconst hC (x := 0) (q := 84) dX0_isEqualAt_83 (by decide) rfl ?_
        exact hR _ _ _ _ dX0_isEqualAt_84 ⟨by first | exact bI_t eqAb_iff (by simp [eqA, bw, h28, h44, h60]) | exact bI_f eqAb_iff (by simp [eqA, bw, h28, h44, h60]), rfl⟩
      · skip
        refine r_aload_n hC (q := 64) dX0_isEqualAt_63 rfl rfl ?_
        refine g_X0 hC 3 i_X0 l_21 (by decide) (q := 67) dX0_isEqualAt_64 hk rfl rfl ?_
        refine r_iload_n hC (q := 68) dX0_isEqualAt_67 rfl rfl ?_
        refine r_iaN hC (q := 69) dX0_isEqualAt_68 (iA_b4 hk) rfl (by omega) rfl ?_
        refine r_aload_n hC (q := 70) dX0_isEqualAt_69 rfl rfl ?_
        refine g_X0 hC 3 i_X0 l_21 (by decide) (q := 73) dX0_isEqualAt_70 hk2 rfl rfl ?_
        refine r_iload hC (q := 75) dX0_isEqualAt_73 rfl rfl ?_
        refine r_iaN hC (q := 76) dX0_isEqualAt_75 (iA_b4 hk2) rfl (by omega) rfl ?_
        refine r_icmp_ne hC (q := 79) (t := 83) dX0_isEqualAt_76 (by decide) rfl (fun h76 => ?_) (fun h76 => ?_)
        · skip
          refine r_iconst hC (x := 0) (q := 84) dX0_isEqualAt_83 (by decide) rfl ?_
          exact hR _ _ _ _ dX0_isEqualAt_84 ⟨by first | exact bI_t eqAb_iff (by simp [eqA, bw, h28, h44, h60, h76]) | exact bI_f eqAb_iff (by simp [eqA, bw, h28, h44, h60, h76]), rfl⟩
        · skip
          refine r_iconst hC (x := 1) (q := 80) dX0_isEqualAt_79 (by decide) rfl ?_
          refine r_goto hC (t := 84) dX0_isEqualAt_80 (by decide) ?_
          exact hR _ _ _ _ dX0_isEqualAt_84 ⟨by first | exact bI_t eqAb_iff (by simp [eqA, bw, h28, h44, h60, h76]) | exact bI_f eqAb_iff (by simp [eqA, bw, h28, h44, h60, h76]), rfl⟩
theorem c_X0_isEqualAt (l : Launch) {G : GG} {v : VV} {k : Nat} {k2 n n2 b : Nat} (hk : isBk k) (hk2 : isBk k2) (hn : v k 5 = nI n) (hn2 : v k2 5 = nI n2) (h1 : n ≤ 10) (h2 : n2 ≤ 10) (hb1 : 1 ≤ b) (hbn : b ≤ n) (hbn2 : b ≤ n2) : MtI l G yX0_isEqualAt wsX0_isEqualAt 0 0 [.ref (G.1 k), .ref (G.1 k2), .int (nI b)] v (fun r v' => r = bI (eqAb (bw v k n) (bw v k2 n2) b) ∧ v = v') := mt_int (Or.inr ⟨rfl, fun r v' h => by rw [h.1]; exact ite01 _⟩) (by decide) rfl (by simp [Value.category]) (Nat.le_of_ble_eq_true rfl) rfl rfl (fun E hC hR => b_X0_isEqualAt hC hR hk hk2 hn hn2 h1 h2 hb1 hbn hbn2)

set_option maxRecDepth 100000 in
set_option maxHeartbeats 4000000 in
theorem b_X0_isSameConstTargetAt {E : TE} {G : GG} {v : VV} {k : Nat} {k2 n n2 b : Nat} (hC : Cx E G cX0_isSameConstTargetAt RX0 5 wsX0_isSameConstTargetAt 0 0) (hR : RtI E G cX0_isSameConstTargetAt (fun r v' => r = bI (sctb (bw v k n) (bw v k2 n2) b) ∧ v = v')) (hk : isBk k) (hk2 : isBk k2) (hn : v k 5 = nI n) (hn2 : v k2 5 = nI n2) (h1 : n ≤ 10) (h2 : n2 ≤ 10) (hb1 : 1 ≤ b) (hbn : b ≤ n) (hbn2 : b ≤ n2) : Wv E G v 0 [some (.ref (G.1 k)), some (.ref (G.1 k2)), some (.int (nI b)), none, none] [] := by
  have i_X0 : ∀ w ∈ wsX00, w ∈ wsX0_isSameConstTargetAt := by decide +kernel
  have l_9 : lnk E RX0 9 (TX0 0) := hC.fl (by decide +kernel)
  have l_15 : lnk E RX0 15 (TX0 1) := hC.fl (by decide +kernel)
  have l_27 : lnk E RX0 27 (TX0 5) := hC.fl (by decide +kernel)
  refine r_aload_n hC (q := 1) dX0_isSameConstTargetAt_0 rfl rfl ?_
  refine g_X0 hC 5 i_X0 l_27 (by decide) (q := 4) dX0_isSameConstTargetAt_1 hk rfl rfl ?_
  refine r_top (y := nI n) hn ?_
  refine r_iload_n hC (q := 5) dX0_isSameConstTargetAt_4 rfl rfl ?_
  refine r_isubN hC (q := 6) dX0_isSameConstTargetAt_5 rfl rfl (by omega) rfl ?_
  refine r_istore_n hC (q := 7) (L' := [_, _, _, _, _]) dX0_isSameConstTargetAt_6 (Nat.le_of_ble_eq_true rfl) rfl rfl ?_
  refine r_aload_n hC (q := 8) dX0_isSameConstTargetAt_7 rfl rfl ?_
  refine g_X0 hC 5 i_X0 l_27 (by decide) (q := 11) dX0_isSameConstTargetAt_8 hk2 rfl rfl ?_
  refine r_top (y := nI n2) hn2 ?_
  refine r_iload_n hC (q := 12) dX0_isSameConstTargetAt_11 rfl rfl ?_
  refine r_isubN hC (q := 13) dX0_isSameConstTargetAt_12 rfl rfl (by omega) rfl ?_
  refine r_istore hC (q := 15) (L' := [_, _, _, _, _]) dX0_isSameConstTargetAt_13 (Nat.le_of_ble_eq_true rfl) rfl rfl ?_
  refine r_aload_n hC (q := 16) dX0_isSameConstTargetAt_15 rfl rfl ?_
  refine g_X0 hC 0 i_X0 l_9 (by decide) (q := 19) dX0_isSameConstTargetAt_16 hk rfl rfl ?_
  refine r_iload_n hC (q := 20) dX0_isSameConstTargetAt_19 rfl rfl ?_
  refine r_iaN hC (q := 21) dX0_isSameConstTargetAt_20 (iA_b1 hk) rfl (by omega) rfl ?_
  refine r_if_ne hC (q := 24) (t := 54) dX0_isSameConstTargetAt_21 (by decide) rfl (fun h21 => ?_) (fun h21 => ?_)
  · skip
    refine r_iconst hC (x := 0) (q := 55) dX0_isSameConstTargetAt_54 (by decide) rfl ?_
    exact hR _ _ _ _ dX0_isSameConstTargetAt_55 ⟨by first | exact bI_t sctb_iff (by simp [sct, bw, h21]) | exact bI_f sctb_iff (by simp [sct, bw, h21]), rfl⟩
  · skip
    refine r_aload_n hC (q := 25) dX0_isSameConstTargetAt_24 rfl rfl ?_
    refine g_X0 hC 0 i_X0 l_9 (by decide) (q := 28) dX0_isSameConstTargetAt_25 hk2 rfl rfl ?_
    refine r_iload hC (q := 30) dX0_isSameConstTargetAt_28 rfl rfl ?_
    refine r_iaN hC (q := 31) dX0_isSameConstTargetAt_30 (iA_b1 hk2) rfl (by omega) rfl ?_
    refine r_if_ne hC (q := 34) (t := 54) dX0_isSameConstTargetAt_31 (by decide) rfl (fun h31 => ?_) (fun h31 => ?_)
    · skip
      refine r_iconst hC (x := 0) (q := 55) dX0_isSameConstTargetAt_54 (by decide) rfl ?_
      exact hR _ _ _ _ dX0_isSameConstTargetAt_55 ⟨by first | exact bI_t sctb_iff (by simp [sct, bw, h21, h31]) | exact bI_f sctb_iff (by simp [sct, bw, h21, h31]), rfl⟩
    · skip
      refine r_aload_n hC (q := 35) dX0_isSameConstTargetAt_34 rfl rfl ?_
      refine g_X0 hC 1 i_X0 l_15 (by decide) (q := 38) dX0_isSameConstTargetAt_35 hk rfl rfl ?_
      refine r_iload_n hC (q := 39) dX0_isSameConstTargetAt_38 rfl rfl ?_
      refine r_iaN hC (q := 40) dX0_isSameConstTargetAt_39 (iA_b2 hk) rfl (by omega) rfl ?_
      refine r_aload_n hC (q := 41) dX0_isSameConstTargetAt_40 rfl rfl ?_
      refine g_X0 hC 1 i_X0 l_15 (by decide) (q := 44) dX0_isSameConstTargetAt_41 hk2 rfl rfl ?_
      refine r_iload hC (q := 46) dX0_isSameConstTargetAt_44 rfl rfl ?_
      refine r_iaN hC (q := 47) dX0_isSameConstTargetAt_46 (iA_b2 hk2) rfl (by omega) rfl ?_
      refine r_icmp_ne hC (q := 50) (t := 54) dX0_isSameConstTargetAt_47 (by decide) rfl (fun h47 => ?_) (fun h47 => ?_)
      · skip
        refine r_iconst hC (x := 0) (q := 55) dX0_isSameConstTargetAt_54 (by decide) rfl ?_
        exact hR _ _ _ _ dX0_isSameConstTargetAt_55 ⟨by first | exact bI_t sctb_iff (by simp [sct, bw, h21, h31, h47]) | exact bI_f sctb_iff (by simp [sct, bw, h21, h31, h47]), rfl⟩
      · skip
        refine r_iconst hC (x := 1) (q := 51) dX0_isSameConstTargetAt_50 (by decide) rfl ?_
        refine r_goto hC (t := 55) dX0_isSameConstTargetAt_51 (by decide) ?_
        exact hR _ _ _ _ dX0_isSameConstTargetAt_55 ⟨by first | exact bI_t sctb_iff (by simp [sct, bw, h21, h31, h47]) | exact bI_f sctb_iff (by simp [sct, bw, h21, h31, h47]), rfl⟩
theorem c_X0_isSameConstTargetAt (l : Launch) {G : GG} {v : VV} {k : Nat} {k2 n n2 b : Nat} (hk : isBk k) (hk2 : isBk k2) (hn : v k 5 = nI n) (hn2 : v k2 5 = nI n2) (h1 : n ≤ 10) (h2 : n2 ≤ 10) (hb1 : 1 ≤ b) (hbn : b ≤ n) (hbn2 : b ≤ n2) : MtI l G yX0_isSameConstTargetAt wsX0_isSameConstTargetAt 0 0 [.ref (G.1 k), .ref (G.1 k2), .int (nI b)] v (fun r v' => r = bI (sctb (bw v k n) (bw v k2 n2) b) ∧ v = v') := mt_int (Or.inr ⟨rfl, fun r v' h => by rw [h.1]; exact ite01 _⟩) (by decide) rfl (by simp [Value.category]) (Nat.le_of_ble_eq_true rfl) rfl rfl (fun E hC hR => b_X0_isSameConstTargetAt hC hR hk hk2 hn hn2 h1 h2 hb1 hbn hbn2)

set_option maxRecDepth 100000 in
set_option maxHeartbeats 4000000 in
theorem b_X0_usesParameterAt {E : TE} {G : GG} {v : VV} {k : Nat} {n b : Nat} (hC : Cx E G cX0_usesParameterAt RX0 3 wsX0_usesParameterAt 0 0) (hR : RtI E G cX0_usesParameterAt (fun r v' => r = bI (us7b (bw v k n) b) ∧ v = v')) (hk : isBk k) (hn : v k 5 = nI n) (h1 : n ≤ 10) (hb1 : 1 ≤ b) (hbn : b ≤ n) : Wv E G v 0 [some (.ref (G.1 k)), some (.int (nI b)), none] [] := by
  have i_X0 : ∀ w ∈ wsX00, w ∈ wsX0_usesParameterAt := by decide +kernel
  have l_9 : lnk E RX0 9 (TX0 0) := hC.fl (by decide +kernel)
  have l_15 : lnk E RX0 15 (TX0 1) := hC.fl (by decide +kernel)
  have l_18 : lnk E RX0 18 (TX0 2) := hC.fl (by decide +kernel)
  have l_21 : lnk E RX0 21 (TX0 3) := hC.fl (by decide +kernel)
  have l_27 : lnk E RX0 27 (TX0 5) := hC.fl (by decide +kernel)
  refine r_aload_n hC (q := 1) dX0_usesParameterAt_0 rfl rfl ?_
  refine g_X0 hC 5 i_X0 l_27 (by decide) (q := 4) dX0_usesParameterAt_1 hk rfl rfl ?_
  refine r_top (y := nI n) hn ?_
  refine r_iload_n hC (q := 5) dX0_usesParameterAt_4 rfl rfl ?_
  refine r_isubN hC (q := 6) dX0_usesParameterAt_5 rfl rfl (by omega) rfl ?_
  refine r_istore_n hC (q := 7) (L' := [_, _, _]) dX0_usesParameterAt_6 (Nat.le_of_ble_eq_true rfl) rfl rfl ?_
  refine r_aload_n hC (q := 8) dX0_usesParameterAt_7 rfl rfl ?_
  refine g_X0 hC 1 i_X0 l_15 (by decide) (q := 11) dX0_usesParameterAt_8 hk rfl rfl ?_
  refine r_iload_n hC (q := 12) dX0_usesParameterAt_11 rfl rfl ?_
  refine r_iaN hC (q := 13) dX0_usesParameterAt_12 (iA_b2 hk) rfl (by omega) rfl ?_
  refine r_bipush hC (x := 7) (q := 15) dX0_usesParameterAt_13 (by decide) rfl ?_
  refine r_icmp_eq hC (q := 18) (t := 49) dX0_usesParameterAt_15 (by decide) rfl (fun h15 => ?_) (fun h15 => ?_)
  · skip
    refine r_iconst hC (x := 1) (q := 50) dX0_usesParameterAt_49 (by decide) rfl ?_
    refine r_goto hC (t := 54) dX0_usesParameterAt_50 (by decide) ?_
    exact hR _ _ _ _ dX0_usesParameterAt_54 ⟨by first | exact bI_t us7b_iff (by simp [us7, bw, h15]) | exact bI_f us7b_iff (by simp [us7, bw, h15]), rfl⟩
  · skip
    refine r_aload_n hC (q := 19) dX0_usesParameterAt_18 rfl rfl ?_
    refine g_X0 hC 3 i_X0 l_21 (by decide) (q := 22) dX0_usesParameterAt_19 hk rfl rfl ?_
    refine r_iload_n hC (q := 23) dX0_usesParameterAt_22 rfl rfl ?_
    refine r_iaN hC (q := 24) dX0_usesParameterAt_23 (iA_b4 hk) rfl (by omega) rfl ?_
    refine r_bipush hC (x := 7) (q := 26) dX0_usesParameterAt_24 (by decide) rfl ?_
    refine r_icmp_eq hC (q := 29) (t := 49) dX0_usesParameterAt_26 (by decide) rfl (fun h26 => ?_) (fun h26 => ?_)
    · skip
      refine r_iconst hC (x := 1) (q := 50) dX0_usesParameterAt_49 (by decide) rfl ?_
      refine r_goto hC (t := 54) dX0_usesParameterAt_50 (by decide) ?_
      exact hR _ _ _ _ dX0_usesParameterAt_54 ⟨by first | exact bI_t us7b_iff (by simp [us7, bw, h15, h26]) | exact bI_f us7b_iff (by simp [us7, bw, h15, h26]), rfl⟩
    · skip
      refine r_aload_n hC (q := 30) dX0_usesParameterAt_29 rfl rfl ?_
      refine g_X0 hC 2 i_X0 l_18 (by decide) (q := 33) dX0_usesParameterAt_30 hk rfl rfl ?_
      refine r_iload_n hC (q := 34) dX0_usesParameterAt_33 rfl rfl ?_
      refine r_iaN hC (q := 35) dX0_usesParameterAt_34 (iA_b3 hk) rfl (by omega) rfl ?_
      refine r_bipush hC (x := 7) (q := 37) dX0_usesParameterAt_35 (by decide) rfl ?_
      refine r_icmp_ne hC (q := 40) (t := 53) dX0_usesParameterAt_37 (by decide) rfl (fun h37 => ?_) (fun h37 => ?_)
      · skip
        refine r_iconst hC (x := 0) (q := 54) dX0_usesParameterAt_53 (by decide) rfl ?_
        exact hR _ _ _ _ dX0_usesParameterAt_54 ⟨by first | exact bI_t us7b_iff (by simp [us7, bw, h15, h26, h37]) | exact bI_f us7b_iff (by simp [us7, bw, h15, h26, h37]), rfl⟩
      · skip
        refine r_aload_n hC (q := 41) dX0_usesParameterAt_40 rfl rfl ?_
        refine g_X0 hC 0 i_X0 l_9 (by decide) (q := 44) dX0_usesParameterAt_41 hk rfl rfl ?_
        refine r_iload_n hC (q := 45) dX0_usesParameterAt_44 rfl rfl ?_
        refine r_iaN hC (q := 46) dX0_usesParameterAt_45 (iA_b1 hk) rfl (by omega) rfl ?_
        refine r_if_eq hC (q := 49) (t := 53) dX0_usesParameterAt_46 (by decide) rfl (fun h46 => ?_) (fun h46 => ?_)
        · skip
          refine r_iconst hC (x := 0) (q := 54) dX0_usesParameterAt_53 (by decide) rfl ?_
          exact hR _ _ _ _ dX0_usesParameterAt_54 ⟨by first | exact bI_t us7b_iff (by simp [us7, bw, h15, h26, h37, h46]) | exact bI_f us7b_iff (by simp [us7, bw, h15, h26, h37, h46]), rfl⟩
        · skip
          refine r_iconst hC (x := 1) (q := 50) dX0_usesParameterAt_49 (by decide) rfl ?_
          refine r_goto hC (t := 54) dX0_usesParameterAt_50 (by decide) ?_
          exact hR _ _ _ _ dX0_usesParameterAt_54 ⟨by first | exact bI_t us7b_iff (by simp [us7, bw, h15, h26, h37, h46]) | exact bI_f us7b_iff (by simp [us7, bw, h15, h26, h37, h46]), rfl⟩
theorem c_X0_usesParameterAt (l : Launch) {G : GG} {v : VV} {k : Nat} {n b : Nat} (hk : isBk k) (hn : v k 5 = nI n) (h1 : n ≤ 10) (hb1 : 1 ≤ b) (hbn : b ≤ n) : MtI l G yX0_usesParameterAt wsX0_usesParameterAt 0 0 [.ref (G.1 k), .int (nI b)] v (fun r v' => r = bI (us7b (bw v k n) b) ∧ v = v') := mt_int (Or.inr ⟨rfl, fun r v' h => by rw [h.1]; exact ite01 _⟩) (by decide) rfl (by simp [Value.category]) (Nat.le_of_ble_eq_true rfl) rfl rfl (fun E hC hR => b_X0_usesParameterAt hC hR hk hn h1 hb1 hbn)

def pfit (x y : Bv) (b : Nat) (df : Bool) : Bool := !(us7b x b) && !(us7b y b) && (eqAb x y b || (!df && sctb x y b))

set_option maxRecDepth 100000 in
set_option maxHeartbeats 4000000 in
theorem b_X0_fitsParameterTail {E : TE} {G : GG} {v : VV} {k : Nat} {k2 n n2 b : Nat} {z : Int32} {df : Bool} (hC : Cx E G cX0_fitsParameterTail RX0 4 wsX0_fitsParameterTail 1 24) (hR : RtI E G cX0_fitsParameterTail (fun r v' => r = bI (pfit (bw v k n) (bw v k2 n2) b df) ∧ v = v')) (hk : isBk k) (hk2 : isBk k2) (hn : v k 5 = nI n) (hn2 : v k2 5 = nI n2) (h1 : n ≤ 10) (h2 : n2 ≤ 10) (hb1 : 1 ≤ b) (hbn : b ≤ n) (hbn2 : b ≤ n2) (hz : z = bI df) : Wv E G v 0 [some (.ref (G.1 k)), some (.ref (G.1 k2)), some (.int (nI b)), some (.int z)] [] := by
  refine r_aload_n hC (q := 1) dX0_fitsParameterTail_0 rfl rfl ?_
  refine r_iload_n hC (q := 2) dX0_fitsParameterTail_1 rfl rfl ?_
  refine r_cVI hC (q := 5) (n := 1) (As := [_]) (fun l => c_X0_usesParameterAt l (n := n) hk hn h1 hb1 hbn) gX0_fitsParameterTail_X0_usesParameterAt rfl (by decide +kernel) ⟨by decide, by decide⟩ (ob_b hk) rfl rfl rfl rfl (Nat.le_of_ble_eq_true rfl) dX0_fitsParameterTail_2 rfl ?_
  rintro _ _ ⟨rfl, rfl⟩
  refine r_if_neB hC (q := 8) (t := 16) dX0_fitsParameterTail_5 (by decide) rfl (fun h5 => ?_) (fun h5 => ?_)
  · skip
    refine r_iconst hC (x := 0) (q := 17) dX0_fitsParameterTail_16 (by decide) rfl ?_
    exact hR _ _ _ _ dX0_fitsParameterTail_17 ⟨by simp [pfit, bI, h5, *], rfl⟩
  · skip
    refine r_aload_n hC (q := 9) dX0_fitsParameterTail_8 rfl rfl ?_
    refine r_iload_n hC (q := 10) dX0_fitsParameterTail_9 rfl rfl ?_
    refine r_cVI hC (q := 13) (n := 1) (As := [_]) (fun l => c_X0_usesParameterAt l (n := n2) hk2 hn2 h2 hb1 hbn2) gX0_fitsParameterTail_X0_usesParameterAt rfl (by decide +kernel) ⟨by decide, by decide⟩ (ob_b hk2) rfl rfl rfl rfl (Nat.le_of_ble_eq_true rfl) dX0_fitsParameterTail_10 rfl ?_
    rintro _ _ ⟨rfl, rfl⟩
    refine r_if_eqB hC (q := 16) (t := 18) dX0_fitsParameterTail_13 (by decide) rfl (fun h13 => ?_) (fun h13 => ?_)
    · skip
      refine r_aload_n hC (q := 19) dX0_fitsParameterTail_18 rfl rfl ?_
      refine r_aload_n hC (q := 20) dX0_fitsParameterTail_19 rfl rfl ?_
      refine r_iload_n hC (q := 21) dX0_fitsParameterTail_20 rfl rfl ?_
      refine r_cVI hC (q := 24) (n := 2) (As := [_, _]) (fun l => c_X0_isEqualAt l (n := n) (n2 := n2) hk hk2 hn hn2 h1 h2 hb1 hbn hbn2) gX0_fitsParameterTail_X0_isEqualAt rfl (by decide +kernel) ⟨by decide, by decide⟩ (ob_b hk) rfl rfl rfl rfl (Nat.le_of_ble_eq_true rfl) dX0_fitsParameterTail_21 rfl ?_
      rintro _ _ ⟨rfl, rfl⟩
      refine r_if_neB hC (q := 27) (t := 40) dX0_fitsParameterTail_24 (by decide) rfl (fun h24 => ?_) (fun h24 => ?_)
      · skip
        refine r_iconst hC (x := 1) (q := 41) dX0_fitsParameterTail_40 (by decide) rfl ?_
        refine r_goto hC (t := 45) dX0_fitsParameterTail_41 (by decide) ?_
        exact hR _ _ _ _ dX0_fitsParameterTail_45 ⟨by simp [pfit, bI, h5, h13, h24, *], rfl⟩
      · skip
        refine r_iload_n hC (q := 28) dX0_fitsParameterTail_27 rfl rfl ?_
        refine r_if_ne hC (q := 31) (t := 44) dX0_fitsParameterTail_28 (by decide) rfl (fun h28 => ?_) (fun h28 => ?_)
        · have hdf : df = true := by cases df <;> simp [hz] at h28 ⊢
          refine r_iconst hC (x := 0) (q := 45) dX0_fitsParameterTail_44 (by decide) rfl ?_
          exact hR _ _ _ _ dX0_fitsParameterTail_45 ⟨by simp [pfit, bI, h5, h13, h24, h28, *], rfl⟩
        · have hdf : df = false := by cases df <;> simp [hz] at h28 ⊢
          refine r_aload_n hC (q := 32) dX0_fitsParameterTail_31 rfl rfl ?_
          refine r_aload_n hC (q := 33) dX0_fitsParameterTail_32 rfl rfl ?_
          refine r_iload_n hC (q := 34) dX0_fitsParameterTail_33 rfl rfl ?_
          refine r_cVI hC (q := 37) (n := 2) (As := [_, _]) (fun l => c_X0_isSameConstTargetAt l (n := n) (n2 := n2) hk hk2 hn hn2 h1 h2 hb1 hbn hbn2) gX0_fitsParameterTail_X0_isSameConstTargetAt rfl (by decide +kernel) ⟨by decide, by decide⟩ (ob_b hk) rfl rfl rfl rfl (Nat.le_of_ble_eq_true rfl) dX0_fitsParameterTail_34 rfl ?_
          rintro _ _ ⟨rfl, rfl⟩
          refine r_if_eqB hC (q := 40) (t := 44) dX0_fitsParameterTail_37 (by decide) rfl (fun h37 => ?_) (fun h37 => ?_)
          · skip
            refine r_iconst hC (x := 0) (q := 45) dX0_fitsParameterTail_44 (by decide) rfl ?_
            exact hR _ _ _ _ dX0_fitsParameterTail_45 ⟨by simp [pfit, bI, h5, h13, h24, h28, h37, *], rfl⟩
          · skip
            refine r_iconst hC (x := 1) (q := 41) dX0_fitsParameterTail_40 (by decide) rfl ?_
            refine r_goto hC (t := 45) dX0_fitsParameterTail_41 (by decide) ?_
            exact hR _ _ _ _ dX0_fitsParameterTail_45 ⟨by simp [pfit, bI, h5, h13, h24, h28, h37, *], rfl⟩
    · skip
      refine r_iconst hC (x := 0) (q := 17) dX0_fitsParameterTail_16 (by decide) rfl ?_
      exact hR _ _ _ _ dX0_fitsParameterTail_17 ⟨by simp [pfit, bI, h5, h13, *], rfl⟩
theorem c_X0_fitsParameterTail (l : Launch) {G : GG} {v : VV} {k : Nat} {k2 n n2 b : Nat} {z : Int32} {df : Bool} (hk : isBk k) (hk2 : isBk k2) (hn : v k 5 = nI n) (hn2 : v k2 5 = nI n2) (h1 : n ≤ 10) (h2 : n2 ≤ 10) (hb1 : 1 ≤ b) (hbn : b ≤ n) (hbn2 : b ≤ n2) (hz : z = bI df) : MtI l G yX0_fitsParameterTail wsX0_fitsParameterTail 1 24 [.ref (G.1 k), .ref (G.1 k2), .int (nI b), .int z] v (fun r v' => r = bI (pfit (bw v k n) (bw v k2 n2) b df) ∧ v = v') := mt_int (Or.inr ⟨rfl, fun r v' h => by rw [h.1]; exact ite01 _⟩) (by decide) rfl (by simp [Value.category]) (Nat.le_of_ble_eq_true rfl) rfl rfl (fun E hC hR => b_X0_fitsParameterTail hC hR hk hk2 hn hn2 h1 h2 hb1 hbn hbn2 hz)

/-- how far two blocks agree from their ends, at most f further than t -/
def tlF (x y : Bv) : Nat → Nat → Nat
  | 0, t => t
  | f + 1, t => if eqAb x y (t + 1) = true then tlF x y f (t + 1) else t
def tl (x y : Bv) : Int32 := if eqTb x y = true then nI (tlF x y (min x.1 y.1) 0) else -1005
theorem min_nI {a b : Nat} (ha : a < 2 ^ 31) (hb : b < 2 ^ 31) : (if nI b < nI a then nI b else nI a) = nI (min a b) := by
  by_cases h : b < a
  · rw [if_pos ((nI_ltI hb ha).mpr h), Nat.min_eq_right (by omega)]
  · rw [if_neg (fun e => h ((nI_ltI hb ha).mp e)), Nat.min_eq_left (by omega)]

set_option maxRecDepth 100000 in
set_option maxHeartbeats 4000000 in
theorem lp_X0_tailSharedWith {E : TE} {G : GG} {v : VV} {k k2 n n2 m : Nat} {post : Int32 → VV → Prop} (hC : Cx E G cX0_tailSharedWith RX0 4 wsX0_tailSharedWith 1 24) (hR : RtI E G cX0_tailSharedWith post) (hk : isBk k) (hk2 : isBk k2) (hn : v k 5 = nI n) (hn2 : v k2 5 = nI n2) (h1 : n ≤ 10) (h2 : n2 ≤ 10) (hm1 : m ≤ n) (hm2 : m ≤ n2) : ∀ (f t : Nat), t + f = m → post (nI (tlF (bw v k n) (bw v k2 n2) f t)) v → Wv E G v 26 [some (.ref (G.1 k)), some (.ref (G.1 k2)), some (.int (nI m)), some (.int (nI t))] [] := by
  intro f
  induction f with
  | zero =>
    intro t htf hpost
    refine r_iload_n hC (q := 27) dX0_tailSharedWith_26 rfl rfl ?_
    refine r_iload_n hC (q := 28) dX0_tailSharedWith_27 rfl rfl ?_
    refine r_icmp_geN hC (q := 31) (t := 48) dX0_tailSharedWith_28 rfl rfl (by omega) (by omega) (by decide) rfl (fun h28 => ?_) (fun h28 => ?_)
    · skip
      refine r_iload_n hC (q := 49) dX0_tailSharedWith_48 rfl rfl ?_
      exact hR _ _ _ _ dX0_tailSharedWith_49 hpost
    · skip
      omega
  | succ f ih =>
    intro t htf hpost
    refine r_iload_n hC (q := 27) dX0_tailSharedWith_26 rfl rfl ?_
    refine r_iload_n hC (q := 28) dX0_tailSharedWith_27 rfl rfl ?_
    refine r_icmp_geN hC (q := 31) (t := 48) dX0_tailSharedWith_28 rfl rfl (by omega) (by omega) (by decide) rfl (fun h28 => ?_) (fun h28 => ?_)
    · skip
      omega
    · skip
      refine r_aload_n hC (q := 32) dX0_tailSharedWith_31 rfl rfl ?_
      refine r_aload_n hC (q := 33) dX0_tailSharedWith_32 rfl rfl ?_
      refine r_iload_n hC (q := 34) dX0_tailSharedWith_33 rfl rfl ?_
      refine r_iconst hC (x := 1) (q := 35) dX0_tailSharedWith_34 (by decide) rfl ?_
      refine r_iaddN hC (q := 36) (b := 1) dX0_tailSharedWith_35 rfl rfl rfl ?_
      refine r_cVI hC (q := 39) (n := 2) (As := [_, _]) (fun l => c_X0_isEqualAt l (n := n) (n2 := n2) (b := t + 1) hk hk2 hn hn2 h1 h2 (by omega) (by omega) (by omega)) gX0_tailSharedWith_X0_isEqualAt rfl (by decide +kernel) ⟨by decide, by decide⟩ (ob_b hk) rfl rfl rfl rfl (Nat.le_of_ble_eq_true rfl) dX0_tailSharedWith_36 rfl ?_
      rintro _ _ ⟨rfl, rfl⟩
      refine r_if_eqB hC (q := 42) (t := 48) dX0_tailSharedWith_39 (by decide) rfl (fun h39 => ?_) (fun h39 => ?_)
      · skip
        refine r_iload_n hC (q := 49) dX0_tailSharedWith_48 rfl rfl ?_
        exact hR _ _ _ _ dX0_tailSharedWith_49 (by rw [tlF, if_neg h39] at hpost; exact hpost)
      · skip
        refine r_iincN hC (q := 45) (L' := [_, _, _, _]) (c := 1) dX0_tailSharedWith_42 rfl rfl rfl rfl rfl ?_
        refine r_goto hC (t := 26) dX0_tailSharedWith_45 (by decide) ?_
        exact ih (t + 1) (by omega) (by rw [tlF, if_pos h39] at hpost; exact hpost)

set_option maxRecDepth 100000 in
set_option maxHeartbeats 4000000 in
theorem b_X0_tailSharedWith {E : TE} {G : GG} {v : VV} {k : Nat} {k2 n n2 : Nat} (hC : Cx E G cX0_tailSharedWith RX0 4 wsX0_tailSharedWith 1 24) (hR : RtI E G cX0_tailSharedWith (fun r v' => r = tl (bw v k n) (bw v k2 n2) ∧ v = v')) (hk : isBk k) (hk2 : isBk k2) (hn : v k 5 = nI n) (hn2 : v k2 5 = nI n2) (h1 : n ≤ 10) (h2 : n2 ≤ 10) : Wv E G v 0 [some (.ref (G.1 k)), some (.ref (G.1 k2)), none, none] [] := by
  have i_X0 : ∀ w ∈ wsX00, w ∈ wsX0_tailSharedWith := by decide +kernel
  have l_27 : lnk E RX0 27 (TX0 5) := hC.fl (by decide +kernel)
  refine r_aload_n hC (q := 1) dX0_tailSharedWith_0 rfl rfl ?_
  refine r_aload_n hC (q := 2) dX0_tailSharedWith_1 rfl rfl ?_
  refine r_cVI hC (q := 5) (n := 1) (As := [_]) (fun l => c_X0_hasTerminatorOf l (n := n) (n2 := n2) hk hk2) gX0_tailSharedWith_X0_hasTerminatorOf rfl (by decide +kernel) ⟨by decide, by decide⟩ (ob_b hk) rfl rfl rfl rfl (Nat.le_of_ble_eq_true rfl) dX0_tailSharedWith_2 rfl ?_
  rintro _ _ ⟨rfl, rfl⟩
  refine r_if_neB hC (q := 8) (t := 12) dX0_tailSharedWith_5 (by decide) rfl (fun h5 => ?_) (fun h5 => ?_)
  · skip
    refine r_aload_n hC (q := 13) dX0_tailSharedWith_12 rfl rfl ?_
    refine g_X0 hC 5 i_X0 l_27 (by decide) (q := 16) dX0_tailSharedWith_13 hk rfl rfl ?_
    refine r_top (y := nI n) hn ?_
    refine r_aload_n hC (q := 17) dX0_tailSharedWith_16 rfl rfl ?_
    refine g_X0 hC 5 i_X0 l_27 (by decide) (q := 20) dX0_tailSharedWith_17 hk2 rfl rfl ?_
    refine r_top (y := nI n2) hn2 ?_
    refine r_min hC (q := 23) (by decide +kernel) (by decide +kernel) (by decide +kernel) (by decide +kernel) rfl (by decide) (Nat.le_of_ble_eq_true rfl) dX0_tailSharedWith_20 rfl ?_
    refine r_top (y := nI (min n n2)) (min_nI (by omega) (by omega)) ?_
    refine r_istore_n hC (q := 24) (L' := [_, _, _, _]) dX0_tailSharedWith_23 (Nat.le_of_ble_eq_true rfl) rfl rfl ?_
    refine r_iconst hC (x := 0) (q := 25) dX0_tailSharedWith_24 (by decide) rfl ?_
    refine r_istore_n hC (q := 26) (L' := [_, _, _, _]) dX0_tailSharedWith_25 (Nat.le_of_ble_eq_true rfl) rfl rfl ?_
    exact lp_X0_tailSharedWith (m := min n n2) hC hR hk hk2 hn hn2 h1 h2 (Nat.min_le_left _ _) (Nat.min_le_right _ _) (min n n2) 0 (by omega) ⟨by rw [tl, if_pos h5]; rfl, rfl⟩
  · skip
    refine r_sipush hC (x := (-1005)) (q := 11) dX0_tailSharedWith_8 (by decide) rfl ?_
    exact hR _ _ _ _ dX0_tailSharedWith_11 ⟨by rw [tl, if_neg h5], rfl⟩
theorem c_X0_tailSharedWith (l : Launch) {G : GG} {v : VV} {k : Nat} {k2 n n2 : Nat} (hk : isBk k) (hk2 : isBk k2) (hn : v k 5 = nI n) (hn2 : v k2 5 = nI n2) (h1 : n ≤ 10) (h2 : n2 ≤ 10) : MtI l G yX0_tailSharedWith wsX0_tailSharedWith 1 24 [.ref (G.1 k), .ref (G.1 k2)] v (fun r v' => r = tl (bw v k n) (bw v k2 n2) ∧ v = v') := mt_int (Or.inl rfl) (by decide) rfl (by simp [Value.category]) (Nat.le_of_ble_eq_true rfl) rfl rfl (fun E hC hR => b_X0_tailSharedWith hC hR hk hk2 hn hn2 h1 h2)

def ptF (x y : Bv) : Nat → Nat → Bool → Nat × Bool
  | 0, t, df => (t, df)
  | f + 1, t, df => if pfit x y (t + 1) df = true then ptF x y f (t + 1) (df || !(eqAb x y (t + 1))) else (t, df)
def pt (x y : Bv) : Int32 := if x.2.2 0 = 2 ∧ eqTb x y = true then (if (ptF x y (min x.1 y.1) 0 false).2 = true then nI (ptF x y (min x.1 y.1) 0 false).1 else -1005) else -1005
def ptR (q : Nat × Bool) : Int32 := if q.2 = true then nI q.1 else -1005

set_option maxRecDepth 100000 in
set_option maxHeartbeats 4000000 in
theorem lp_X0_parameterTailWith {E : TE} {G : GG} {v : VV} {k k2 n n2 m : Nat} {post : Int32 → VV → Prop} (hC : Cx E G cX0_parameterTailWith RX0 5 wsX0_parameterTailWith 2 47) (hR : RtI E G cX0_parameterTailWith post) (hk : isBk k) (hk2 : isBk k2) (hn : v k 5 = nI n) (hn2 : v k2 5 = nI n2) (h1 : n ≤ 10) (h2 : n2 ≤ 10) (hm1 : m ≤ n) (hm2 : m ≤ n2) : ∀ (f t : Nat) (df : Bool) (z : Int32), z = bI df → t + f = m → post (ptR (ptF (bw v k n) (bw v k2 n2) f t df)) v → Wv E G v 37 [some (.ref (G.1 k)), some (.ref (G.1 k2)), some (.int (nI m)), some (.int (nI t)), some (.int z)] [] := by
  have hend : ∀ (t : Nat) (df : Bool) (z : Int32), z = bI df → post (ptR (t, df)) v → Wv E G v 82 [some (.ref (G.1 k)), some (.ref (G.1 k2)), some (.int (nI m)), some (.int (nI t)), some (.int z)] [] := by
    intro t df z hz hpost
    refine r_iload hC (q := 84) dX0_parameterTailWith_82 rfl rfl ?_
    refine r_if_eq hC (q := 87) (t := 91) dX0_parameterTailWith_84 (by decide) rfl (fun h84 => ?_) (fun h84 => ?_)
    · have hdf : df = false := by cases df <;> simp [hz] at h84 ⊢
      refine r_sipush hC (x := (-1005)) (q := 94) dX0_parameterTailWith_91 (by decide) rfl ?_
      exact hR _ _ _ _ dX0_parameterTailWith_94 (by rw [ptR, hdf] at hpost; exact hpost)
    · have hdf : df = true := by cases df <;> simp [hz] at h84 ⊢
      refine r_iload_n hC (q := 88) dX0_parameterTailWith_87 rfl rfl ?_
      refine r_goto hC (t := 94) dX0_parameterTailWith_88 (by decide) ?_
      exact hR _ _ _ _ dX0_parameterTailWith_94 (by rw [ptR, hdf] at hpost; exact hpost)
  intro f
  induction f with
  | zero =>
    intro t df z hz htf hpost
    refine r_iload_n hC (q := 38) dX0_parameterTailWith_37 rfl rfl ?_
    refine r_iload_n hC (q := 39) dX0_parameterTailWith_38 rfl rfl ?_
    refine r_icmp_geN hC (q := 42) (t := 82) dX0_parameterTailWith_39 rfl rfl (by omega) (by omega) (by decide) rfl (fun h39 => ?_) (fun h39 => ?_)
    · skip
      exact hend t df z hz hpost
    · skip
      omega
  | succ f ih =>
    intro t df z hz htf hpost
    refine r_iload_n hC (q := 38) dX0_parameterTailWith_37 rfl rfl ?_
    refine r_iload_n hC (q := 39) dX0_parameterTailWith_38 rfl rfl ?_
    refine r_icmp_geN hC (q := 42) (t := 82) dX0_parameterTailWith_39 rfl rfl (by omega) (by omega) (by decide) rfl (fun h39 => ?_) (fun h39 => ?_)
    · skip
      omega
    · skip
      refine r_aload_n hC (q := 43) dX0_parameterTailWith_42 rfl rfl ?_
      refine r_aload_n hC (q := 44) dX0_parameterTailWith_43 rfl rfl ?_
      refine r_iload_n hC (q := 45) dX0_parameterTailWith_44 rfl rfl ?_
      refine r_iconst hC (x := 1) (q := 46) dX0_parameterTailWith_45 (by decide) rfl ?_
      refine r_iaddN hC (q := 47) (b := 1) dX0_parameterTailWith_46 rfl rfl rfl ?_
      refine r_iload hC (q := 49) dX0_parameterTailWith_47 rfl rfl ?_
      refine r_cVI hC (q := 52) (n := 3) (As := [_, _, _]) (fun l => c_X0_fitsParameterTail l (n := n) (n2 := n2) (b := t + 1) (df := df) hk hk2 hn hn2 h1 h2 (by omega) (by omega) (by omega) hz) gX0_parameterTailWith_X0_fitsParameterTail rfl (by decide +kernel) ⟨by decide, by decide⟩ (ob_b hk) rfl rfl rfl rfl (Nat.le_of_ble_eq_true rfl) dX0_parameterTailWith_49 rfl ?_
      rintro _ _ ⟨rfl, rfl⟩
      refine r_if_eqB hC (q := 55) (t := 82) dX0_parameterTailWith_52 (by decide) rfl (fun h52 => ?_) (fun h52 => ?_)
      · skip
        exact hend t df z hz (by rw [ptF, if_neg h52] at hpost; exact hpost)
      · skip
        refine r_iincN hC (q := 58) (L' := [_, _, _, _, _]) (c := 1) dX0_parameterTailWith_55 rfl rfl rfl rfl rfl ?_
        refine r_iload hC (q := 60) dX0_parameterTailWith_58 rfl rfl ?_
        refine r_if_ne hC (q := 63) (t := 72) dX0_parameterTailWith_60 (by decide) rfl (fun h60 => ?_) (fun h60 => ?_)
        · have hdf : df = true := by cases df <;> simp [hz] at h60 ⊢
          refine r_iconst hC (x := 1) (q := 73) dX0_parameterTailWith_72 (by decide) rfl ?_
          refine r_goto hC (t := 77) dX0_parameterTailWith_73 (by decide) ?_
          refine r_istore hC (q := 79) (L' := [_, _, _, _, _]) dX0_parameterTailWith_77 (Nat.le_of_ble_eq_true rfl) rfl rfl ?_
          refine r_goto hC (t := 37) dX0_parameterTailWith_79 (by decide) ?_
          exact ih (t + 1) (df || !(eqAb (bw v k n) (bw v k2 n2) (t + 1))) _ (by simp [bI, hdf, h39, h52, h60]) (by omega) (by rw [ptF, if_pos h52] at hpost; exact hpost)
        · have hdf : df = false := by cases df <;> simp [hz] at h60 ⊢
          refine r_aload_n hC (q := 64) dX0_parameterTailWith_63 rfl rfl ?_
          refine r_aload_n hC (q := 65) dX0_parameterTailWith_64 rfl rfl ?_
          refine r_iload_n hC (q := 66) dX0_parameterTailWith_65 rfl rfl ?_
          refine r_cVI hC (q := 69) (n := 2) (As := [_, _]) (fun l => c_X0_isEqualAt l (n := n) (n2 := n2) (b := t + 1) hk hk2 hn hn2 h1 h2 (by omega) (by omega) (by omega)) gX0_parameterTailWith_X0_isEqualAt rfl (by decide +kernel) ⟨by decide, by decide⟩ (ob_b hk) rfl rfl rfl rfl (Nat.le_of_ble_eq_true rfl) dX0_parameterTailWith_66 rfl ?_
          rintro _ _ ⟨rfl, rfl⟩
          refine r_if_neB hC (q := 72) (t := 76) dX0_parameterTailWith_69 (by decide) rfl (fun h69 => ?_) (fun h69 => ?_)
          · skip
            refine r_iconst hC (x := 0) (q := 77) dX0_parameterTailWith_76 (by decide) rfl ?_
            refine r_istore hC (q := 79) (L' := [_, _, _, _, _]) dX0_parameterTailWith_77 (Nat.le_of_ble_eq_true rfl) rfl rfl ?_
            refine r_goto hC (t := 37) dX0_parameterTailWith_79 (by decide) ?_
            exact ih (t + 1) (df || !(eqAb (bw v k n) (bw v k2 n2) (t + 1))) _ (by simp [bI, hdf, h39, h52, h60, h69]) (by omega) (by rw [ptF, if_pos h52] at hpost; exact hpost)
          · skip
            refine r_iconst hC (x := 1) (q := 73) dX0_parameterTailWith_72 (by decide) rfl ?_
            refine r_goto hC (t := 77) dX0_parameterTailWith_73 (by decide) ?_
            refine r_istore hC (q := 79) (L' := [_, _, _, _, _]) dX0_parameterTailWith_77 (Nat.le_of_ble_eq_true rfl) rfl rfl ?_
            refine r_goto hC (t := 37) dX0_parameterTailWith_79 (by decide) ?_
            exact ih (t + 1) (df || !(eqAb (bw v k n) (bw v k2 n2) (t + 1))) _ (by simp [bI, hdf, h39, h52, h60, h69]) (by omega) (by rw [ptF, if_pos h52] at hpost; exact hpost)

set_option maxRecDepth 100000 in
set_option maxHeartbeats 4000000 in
theorem b_X0_parameterTailWith {E : TE} {G : GG} {v : VV} {k : Nat} {k2 n n2 : Nat} (hC : Cx E G cX0_parameterTailWith RX0 5 wsX0_parameterTailWith 2 47) (hR : RtI E G cX0_parameterTailWith (fun r v' => r = pt (bw v k n) (bw v k2 n2) ∧ v = v')) (hk : isBk k) (hk2 : isBk k2) (hn : v k 5 = nI n) (hn2 : v k2 5 = nI n2) (h1 : n ≤ 10) (h2 : n2 ≤ 10) : Wv E G v 0 [some (.ref (G.1 k)), some (.ref (G.1 k2)), none, none, none] [] := by
  have i_X0 : ∀ w ∈ wsX00, w ∈ wsX0_parameterTailWith := by decide +kernel
  have l_27 : lnk E RX0 27 (TX0 5) := hC.fl (by decide +kernel)
  have l_31 : lnk E RX0 31 (TX0 6) := hC.fl (by decide +kernel)
  refine r_aload_n hC (q := 1) dX0_parameterTailWith_0 rfl rfl ?_
  refine g_X0 hC 6 i_X0 l_31 (by decide) (q := 4) dX0_parameterTailWith_1 hk rfl rfl ?_
  refine r_iconst hC (x := 2) (q := 5) dX0_parameterTailWith_4 (by decide) rfl ?_
  refine r_icmp_ne hC (q := 8) (t := 16) dX0_parameterTailWith_5 (by decide) rfl (fun h5 => ?_) (fun h5 => ?_)
  · skip
    refine r_sipush hC (x := (-1005)) (q := 19) dX0_parameterTailWith_16 (by decide) rfl ?_
    exact hR _ _ _ _ dX0_parameterTailWith_19 ⟨by first | rw [pt, if_neg (fun e => h5 e.1)] | rw [pt, if_neg (fun e => h13 e.2)], rfl⟩
  · skip
    refine r_aload_n hC (q := 9) dX0_parameterTailWith_8 rfl rfl ?_
    refine r_aload_n hC (q := 10) dX0_parameterTailWith_9 rfl rfl ?_
    refine r_cVI hC (q := 13) (n := 1) (As := [_]) (fun l => c_X0_hasTerminatorOf l (n := n) (n2 := n2) hk hk2) gX0_parameterTailWith_X0_hasTerminatorOf rfl (by decide +kernel) ⟨by decide, by decide⟩ (ob_b hk) rfl rfl rfl rfl (Nat.le_of_ble_eq_true rfl) dX0_parameterTailWith_10 rfl ?_
    rintro _ _ ⟨rfl, rfl⟩
    refine r_if_neB hC (q := 16) (t := 20) dX0_parameterTailWith_13 (by decide) rfl (fun h13 => ?_) (fun h13 => ?_)
    · skip
      refine r_aload_n hC (q := 21) dX0_parameterTailWith_20 rfl rfl ?_
      refine g_X0 hC 5 i_X0 l_27 (by decide) (q := 24) dX0_parameterTailWith_21 hk rfl rfl ?_
      refine r_top (y := nI n) hn ?_
      refine r_aload_n hC (q := 25) dX0_parameterTailWith_24 rfl rfl ?_
      refine g_X0 hC 5 i_X0 l_27 (by decide) (q := 28) dX0_parameterTailWith_25 hk2 rfl rfl ?_
      refine r_top (y := nI n2) hn2 ?_
      refine r_min hC (q := 31) (by decide +kernel) (by decide +kernel) (by decide +kernel) (by decide +kernel) rfl (by decide) (Nat.le_of_ble_eq_true rfl) dX0_parameterTailWith_28 rfl ?_
      refine r_top (y := nI (min n n2)) (min_nI (by omega) (by omega)) ?_
      refine r_istore_n hC (q := 32) (L' := [_, _, _, _, _]) dX0_parameterTailWith_31 (Nat.le_of_ble_eq_true rfl) rfl rfl ?_
      refine r_iconst hC (x := 0) (q := 33) dX0_parameterTailWith_32 (by decide) rfl ?_
      refine r_istore_n hC (q := 34) (L' := [_, _, _, _, _]) dX0_parameterTailWith_33 (Nat.le_of_ble_eq_true rfl) rfl rfl ?_
      refine r_iconst hC (x := 0) (q := 35) dX0_parameterTailWith_34 (by decide) rfl ?_
      refine r_istore hC (q := 37) (L' := [_, _, _, _, _]) dX0_parameterTailWith_35 (Nat.le_of_ble_eq_true rfl) rfl rfl ?_
      exact lp_X0_parameterTailWith (m := min n n2) hC hR hk hk2 hn hn2 h1 h2 (Nat.min_le_left _ _) (Nat.min_le_right _ _) (min n n2) 0 false 0 rfl (by omega) ⟨by rw [pt, if_pos ⟨h5, h13⟩]; rfl, rfl⟩
    · skip
      refine r_sipush hC (x := (-1005)) (q := 19) dX0_parameterTailWith_16 (by decide) rfl ?_
      exact hR _ _ _ _ dX0_parameterTailWith_19 ⟨by first | rw [pt, if_neg (fun e => h5 e.1)] | rw [pt, if_neg (fun e => h13 e.2)], rfl⟩
theorem c_X0_parameterTailWith (l : Launch) {G : GG} {v : VV} {k : Nat} {k2 n n2 : Nat} (hk : isBk k) (hk2 : isBk k2) (hn : v k 5 = nI n) (hn2 : v k2 5 = nI n2) (h1 : n ≤ 10) (h2 : n2 ≤ 10) : MtI l G yX0_parameterTailWith wsX0_parameterTailWith 2 47 [.ref (G.1 k), .ref (G.1 k2)] v (fun r v' => r = pt (bw v k n) (bw v k2 n2) ∧ v = v') := mt_int (Or.inl rfl) (by decide) rfl (by simp [Value.category]) (Nat.le_of_ble_eq_true rfl) rfl rfl (fun E hC hR => b_X0_parameterTailWith hC hR hk hk2 hn hn2 h1 h2)

def hsI (x : Bv) : Nat → Nat → Int32 → Int32
  | 0, _, h => h
  | f + 1, i, h => hsI x f (i + 1) (31 * (31 * (31 * (31 * h + x.2.1 0 i) + x.2.1 1 i) + x.2.1 2 i) + x.2.1 3 i)
def hsT (x : Bv) (h : Int32) : Int32 := 31 * (31 * (31 * (31 * h + x.2.2 0) + x.2.2 1) + x.2.2 2) + x.2.2 3
def hsh (x : Bv) (m : Nat) : Int32 := hsT x (hsI x m (x.1 - m) 17) &&& 2147483647
def hsO (v : VV) (k : Nat) : Nat → Nat → Int32 → Int32
  | 0, _, h => h
  | f + 1, j, h => hsO v k f (j + 1) (31 * h + v (k + 6) j)

set_option maxRecDepth 100000 in
set_option maxHeartbeats 4000000 in
theorem lp2_X0_hashOfTail {E : TE} {G : GG} {v : VV} {k : Nat} {x : Int32} {post : Int32 → VV → Prop} (hC : Cx E G cX0_hashOfTail RX0 4 wsX0_hashOfTail 0 0) (hR : RtI E G cX0_hashOfTail post) (hk : isBk k) : ∀ (f i : Nat) (h : Int32), i + f = 3 → post (hsO v k f i h &&& 2147483647) v → Wv E G v 84 [some (.ref (G.1 k)), some (.int x), some (.int h), some (.int (nI i))] [] := by
  intro f
  induction f with
  | zero =>
    intro i h hif hpost
    refine r_iload_n hC (q := 85) dX0_hashOfTail_84 rfl rfl ?_
    refine r_iconst hC (x := 3) (q := 86) dX0_hashOfTail_85 (by decide) rfl ?_
    refine r_icmp_geN hC (q := 89) (t := 107) (b := 3) dX0_hashOfTail_86 rfl rfl (by omega) (by omega) (by decide) rfl (fun h86 => ?_) (fun h86 => ?_)
    · skip
      refine r_iload_n hC (q := 108) dX0_hashOfTail_107 rfl rfl ?_
      refine r_ldc hC (x := 2147483647) (q := 110) (by decide +kernel) dX0_hashOfTail_108 rfl ?_
      refine r_iand hC (q := 111) dX0_hashOfTail_110 rfl ?_
      exact hR _ _ _ _ dX0_hashOfTail_111 hpost
    · skip
      omega
  | succ f ih =>
    intro i h hif hpost
    have i_X0 : ∀ w ∈ wsX00, w ∈ wsX0_hashOfTail := by decide +kernel
    have l_34 : lnk E RX0 34 (TX0 7) := hC.fl (by decide +kernel)
    refine r_iload_n hC (q := 85) dX0_hashOfTail_84 rfl rfl ?_
    refine r_iconst hC (x := 3) (q := 86) dX0_hashOfTail_85 (by decide) rfl ?_
    refine r_icmp_geN hC (q := 89) (t := 107) (b := 3) dX0_hashOfTail_86 rfl rfl (by omega) (by omega) (by decide) rfl (fun h86 => ?_) (fun h86 => ?_)
    · skip
      omega
    · skip
      refine r_bipush hC (x := 31) (q := 91) dX0_hashOfTail_89 (by decide) rfl ?_
      refine r_iload_n hC (q := 92) dX0_hashOfTail_91 rfl rfl ?_
      refine r_imul hC (q := 93) dX0_hashOfTail_92 rfl ?_
      refine r_aload_n hC (q := 94) dX0_hashOfTail_93 rfl rfl ?_
      refine g_X0 hC 7 i_X0 l_34 (by decide) (q := 97) dX0_hashOfTail_94 hk rfl rfl ?_
      refine r_iload_n hC (q := 98) dX0_hashOfTail_97 rfl rfl ?_
      refine r_iaN hC (q := 99) dX0_hashOfTail_98 (iA_b6 hk) rfl (by omega) rfl ?_
      refine r_iadd hC (q := 100) dX0_hashOfTail_99 rfl ?_
      refine r_istore_n hC (q := 101) (L' := [_, _, _, _]) dX0_hashOfTail_100 (Nat.le_of_ble_eq_true rfl) rfl rfl ?_
      refine r_iincN hC (q := 104) (L' := [_, _, _, _]) (c := 1) dX0_hashOfTail_101 rfl rfl rfl rfl rfl ?_
      refine r_goto hC (t := 84) dX0_hashOfTail_104 (by decide) ?_
      exact ih (i + 1) _ (by omega) hpost

set_option maxRecDepth 100000 in
set_option maxHeartbeats 4000000 in
theorem lp_X0_hashOfTail {E : TE} {G : GG} {v : VV} {k n : Nat} {x : Int32} {post : Int32 → VV → Prop} (hC : Cx E G cX0_hashOfTail RX0 4 wsX0_hashOfTail 0 0) (hR : RtI E G cX0_hashOfTail post) (hk : isBk k) (hn : v k 5 = nI n) (h1 : n ≤ 10) : ∀ (f i : Nat) (h : Int32), i + f = n → post (hsT (bw v k n) (hsI (bw v k n) f i h) &&& 2147483647) v → Wv E G v 10 [some (.ref (G.1 k)), some (.int x), some (.int h), some (.int (nI i))] [] := by
  intro f
  induction f with
  | zero =>
    intro i h hif hpost
    have i_X0 : ∀ w ∈ wsX00, w ∈ wsX0_hashOfTail := by decide +kernel
    have l_27 : lnk E RX0 27 (TX0 5) := hC.fl (by decide +kernel)
    have l_31 : lnk E RX0 31 (TX0 6) := hC.fl (by decide +kernel)
    refine r_iload_n hC (q := 11) dX0_hashOfTail_10 rfl rfl ?_
    refine r_aload_n hC (q := 12) dX0_hashOfTail_11 rfl rfl ?_
    refine g_X0 hC 5 i_X0 l_27 (by decide) (q := 15) dX0_hashOfTail_12 hk rfl rfl ?_
    refine r_top (y := nI n) hn ?_
    refine r_icmp_geN hC (q := 18) (t := 72) dX0_hashOfTail_15 rfl rfl (by omega) (by omega) (by decide) rfl (fun h15 => ?_) (fun h15 => ?_)
    · skip
      refine r_bipush hC (x := 31) (q := 74) dX0_hashOfTail_72 (by decide) rfl ?_
      refine r_iload_n hC (q := 75) dX0_hashOfTail_74 rfl rfl ?_
      refine r_imul hC (q := 76) dX0_hashOfTail_75 rfl ?_
      refine r_aload_n hC (q := 77) dX0_hashOfTail_76 rfl rfl ?_
      refine g_X0 hC 6 i_X0 l_31 (by decide) (q := 80) dX0_hashOfTail_77 hk rfl rfl ?_
      refine r_iadd hC (q := 81) dX0_hashOfTail_80 rfl ?_
      refine r_istore_n hC (q := 82) (L' := [_, _, _, _]) dX0_hashOfTail_81 (Nat.le_of_ble_eq_true rfl) rfl rfl ?_
      refine r_iconst hC (x := 0) (q := 83) dX0_hashOfTail_82 (by decide) rfl ?_
      refine r_istore_n hC (q := 84) (L' := [_, _, _, _]) dX0_hashOfTail_83 (Nat.le_of_ble_eq_true rfl) rfl rfl ?_
      exact lp2_X0_hashOfTail hC hR hk 3 0 _ rfl hpost
    · skip
      omega
  | succ f ih =>
    intro i h hif hpost
    have i_X0 : ∀ w ∈ wsX00, w ∈ wsX0_hashOfTail := by decide +kernel
    have l_9 : lnk E RX0 9 (TX0 0) := hC.fl (by decide +kernel)
    have l_15 : lnk E RX0 15 (TX0 1) := hC.fl (by decide +kernel)
    have l_18 : lnk E RX0 18 (TX0 2) := hC.fl (by decide +kernel)
    have l_21 : lnk E RX0 21 (TX0 3) := hC.fl (by decide +kernel)
    have l_27 : lnk E RX0 27 (TX0 5) := hC.fl (by decide +kernel)
    refine r_iload_n hC (q := 11) dX0_hashOfTail_10 rfl rfl ?_
    refine r_aload_n hC (q := 12) dX0_hashOfTail_11 rfl rfl ?_
    refine g_X0 hC 5 i_X0 l_27 (by decide) (q := 15) dX0_hashOfTail_12 hk rfl rfl ?_
    refine r_top (y := nI n) hn ?_
    refine r_icmp_geN hC (q := 18) (t := 72) dX0_hashOfTail_15 rfl rfl (by omega) (by omega) (by decide) rfl (fun h15 => ?_) (fun h15 => ?_)
    · skip
      omega
    · skip
      refine r_bipush hC (x := 31) (q := 20) dX0_hashOfTail_18 (by decide) rfl ?_
      refine r_iload_n hC (q := 21) dX0_hashOfTail_20 rfl rfl ?_
      refine r_imul hC (q := 22) dX0_hashOfTail_21 rfl ?_
      refine r_aload_n hC (q := 23) dX0_hashOfTail_22 rfl rfl ?_
      refine g_X0 hC 0 i_X0 l_9 (by decide) (q := 26) dX0_hashOfTail_23 hk rfl rfl ?_
      refine r_iload_n hC (q := 27) dX0_hashOfTail_26 rfl rfl ?_
      refine r_iaN hC (q := 28) dX0_hashOfTail_27 (iA_b1 hk) rfl (by omega) rfl ?_
      refine r_iadd hC (q := 29) dX0_hashOfTail_28 rfl ?_
      refine r_istore_n hC (q := 30) (L' := [_, _, _, _]) dX0_hashOfTail_29 (Nat.le_of_ble_eq_true rfl) rfl rfl ?_
      refine r_bipush hC (x := 31) (q := 32) dX0_hashOfTail_30 (by decide) rfl ?_
      refine r_iload_n hC (q := 33) dX0_hashOfTail_32 rfl rfl ?_
      refine r_imul hC (q := 34) dX0_hashOfTail_33 rfl ?_
      refine r_aload_n hC (q := 35) dX0_hashOfTail_34 rfl rfl ?_
      refine g_X0 hC 1 i_X0 l_15 (by decide) (q := 38) dX0_hashOfTail_35 hk rfl rfl ?_
      refine r_iload_n hC (q := 39) dX0_hashOfTail_38 rfl rfl ?_
      refine r_iaN hC (q := 40) dX0_hashOfTail_39 (iA_b2 hk) rfl (by omega) rfl ?_
      refine r_iadd hC (q := 41) dX0_hashOfTail_40 rfl ?_
      refine r_istore_n hC (q := 42) (L' := [_, _, _, _]) dX0_hashOfTail_41 (Nat.le_of_ble_eq_true rfl) rfl rfl ?_
      refine r_bipush hC (x := 31) (q := 44) dX0_hashOfTail_42 (by decide) rfl ?_
      refine r_iload_n hC (q := 45) dX0_hashOfTail_44 rfl rfl ?_
      refine r_imul hC (q := 46) dX0_hashOfTail_45 rfl ?_
      refine r_aload_n hC (q := 47) dX0_hashOfTail_46 rfl rfl ?_
      refine g_X0 hC 2 i_X0 l_18 (by decide) (q := 50) dX0_hashOfTail_47 hk rfl rfl ?_
      refine r_iload_n hC (q := 51) dX0_hashOfTail_50 rfl rfl ?_
      refine r_iaN hC (q := 52) dX0_hashOfTail_51 (iA_b3 hk) rfl (by omega) rfl ?_
      refine r_iadd hC (q := 53) dX0_hashOfTail_52 rfl ?_
      refine r_istore_n hC (q := 54) (L' := [_, _, _, _]) dX0_hashOfTail_53 (Nat.le_of_ble_eq_true rfl) rfl rfl ?_
      refine r_bipush hC (x := 31) (q := 56) dX0_hashOfTail_54 (by decide) rfl ?_
      refine r_iload_n hC (q := 57) dX0_hashOfTail_56 rfl rfl ?_
      refine r_imul hC (q := 58) dX0_hashOfTail_57 rfl ?_
      refine r_aload_n hC (q := 59) dX0_hashOfTail_58 rfl rfl ?_
      refine g_X0 hC 3 i_X0 l_21 (by decide) (q := 62) dX0_hashOfTail_59 hk rfl rfl ?_
      refine r_iload_n hC (q := 63) dX0_hashOfTail_62 rfl rfl ?_
      refine r_iaN hC (q := 64) dX0_hashOfTail_63 (iA_b4 hk) rfl (by omega) rfl ?_
      refine r_iadd hC (q := 65) dX0_hashOfTail_64 rfl ?_
      refine r_istore_n hC (q := 66) (L' := [_, _, _, _]) dX0_hashOfTail_65 (Nat.le_of_ble_eq_true rfl) rfl rfl ?_
      refine r_iincN hC (q := 69) (L' := [_, _, _, _]) (c := 1) dX0_hashOfTail_66 rfl rfl rfl rfl rfl ?_
      refine r_goto hC (t := 10) dX0_hashOfTail_69 (by decide) ?_
      exact ih (i + 1) _ (by omega) hpost

set_option maxRecDepth 100000 in
set_option maxHeartbeats 4000000 in
theorem b_X0_hashOfTail {E : TE} {G : GG} {v : VV} {k : Nat} {n m : Nat} (hC : Cx E G cX0_hashOfTail RX0 4 wsX0_hashOfTail 0 0) (hR : RtI E G cX0_hashOfTail (fun r v' => r = hsh (bw v k n) m ∧ v = v')) (hk : isBk k) (hn : v k 5 = nI n) (h1 : n ≤ 10) (hm : m ≤ n) : Wv E G v 0 [some (.ref (G.1 k)), some (.int (nI m)), none, none] [] := by
  have i_X0 : ∀ w ∈ wsX00, w ∈ wsX0_hashOfTail := by decide +kernel
  have l_27 : lnk E RX0 27 (TX0 5) := hC.fl (by decide +kernel)
  refine r_bipush hC (x := 17) (q := 2) dX0_hashOfTail_0 (by decide) rfl ?_
  refine r_istore_n hC (q := 3) (L' := [_, _, _, _]) dX0_hashOfTail_2 (Nat.le_of_ble_eq_true rfl) rfl rfl ?_
  refine r_aload_n hC (q := 4) dX0_hashOfTail_3 rfl rfl ?_
  refine g_X0 hC 5 i_X0 l_27 (by decide) (q := 7) dX0_hashOfTail_4 hk rfl rfl ?_
  refine r_top (y := nI n) hn ?_
  refine r_iload_n hC (q := 8) dX0_hashOfTail_7 rfl rfl ?_
  refine r_isubN hC (q := 9) dX0_hashOfTail_8 rfl rfl (by omega) rfl ?_
  refine r_istore_n hC (q := 10) (L' := [_, _, _, _]) dX0_hashOfTail_9 (Nat.le_of_ble_eq_true rfl) rfl rfl ?_
  exact lp_X0_hashOfTail hC hR hk hn h1 m (n - m) 17 (by omega) ⟨rfl, rfl⟩
theorem c_X0_hashOfTail (l : Launch) {G : GG} {v : VV} {k : Nat} {n m : Nat} (hk : isBk k) (hn : v k 5 = nI n) (h1 : n ≤ 10) (hm : m ≤ n) : MtI l G yX0_hashOfTail wsX0_hashOfTail 0 0 [.ref (G.1 k), .int (nI m)] v (fun r v' => r = hsh (bw v k n) m ∧ v = v') := mt_int (Or.inl rfl) (by decide) rfl (by simp [Value.category]) (Nat.le_of_ble_eq_true rfl) rfl rfl (fun E hC hR => b_X0_hashOfTail hC hR hk hn h1 hm)
