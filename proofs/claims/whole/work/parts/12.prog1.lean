/-! a program: its blocks by their numbers -/
abbrev kB (p b : Nat) : Nat := p + 2 + 7 * b
def nb (v : VV) (p b : Nat) : Nat := (v (kB p b) 5).toNatClampNeg
def pv (v : VV) (p b : Nat) : Bv := bw v (kB p b) (nb v p b)
/-- c blocks, each with at most ten instructions -/
def PW (v : VV) (p c : Nat) : Prop := v p 1 = nI c ∧ c ≤ 12 ∧ ∀ b, b < c → v (kB p b) 5 = nI (nb v p b) ∧ nb v p b ≤ 10
theorem kB_ne {p a b : Nat} (h : a ≠ b) : kB p a ≠ kB p b := by unfold kB; omega
theorem nb_eq {v w : VV} {p b : Nat} (h : w (kB p b) = v (kB p b)) : nb w p b = nb v p b := by unfold nb; rw [h]
def inb (x : Int32) (c : Nat) : Bool := decide (¬ x < 0 ∧ ¬ nI c ≤ x)
theorem inb_iff {x : Int32} {c : Nat} : inb x c = true ↔ (¬ x < 0 ∧ ¬ nI c ≤ x) := decide_eq_true_iff
theorem inb_nat {x : Int32} {c : Nat} (hc : c < 2 ^ 31) (h : inb x c = true) : ∃ j, j < c ∧ x = nI j := by
  obtain ⟨h1, h2⟩ := inb_iff.mp h
  rcases pk_ix x hc with h3 | h3 | h3
  · exact absurd h3 h1
  · exact absurd h3 h2
  · exact h3
theorem inb_nI {j c : Nat} (hc : c < 2 ^ 31) (h : j < c) : inb (nI j) c = true := inb_iff.mpr ⟨nI_pos (by omega), fun e => by have := (nI_leI hc (by omega)).mp e; omega⟩
theorem u2_ne {v : VV} {k j q : Nat} {x : Int32} (h : q ≠ k) : u2 v k j x q = v q := va_up_ne _ _ h
def clr (v : VV) (k : Nat) : VV := tm (u2 v k 5 0) k 2 0 0 0
def tc (v : VV) (p b : Nat) : Int32 := if v (kB p b) 6 = 0 then v p 2 else if v (kB p b) 6 = 1 then 2 else 1
def sv (m len cost j : Int32) : Int32 := (m - 1) * (len + cost) - m * j

set_option maxRecDepth 100000 in
set_option maxHeartbeats 4000000 in
theorem b_X2_has {E : TE} {G : GG} {v : VV} {p : Nat} {c : Nat} {x : Int32} (hC : Cx E G cX2_has RX2 2 wsX2_has 0 0) (hR : RtI E G cX2_has (fun r v' => r = bI (inb x c) ∧ v = v')) (hp : isPr p) (hc : v p 1 = nI c) : Wv E G v 0 [some (.ref (G.1 p)), some (.int x)] [] := by
  have i_X2 : ∀ w ∈ wsX20, w ∈ wsX2_has := by decide +kernel
  have l_18 : lnk E RX2 18 (TX2 1) := hC.fl (by decide +kernel)
  refine r_iload_n hC (q := 1) dX2_has_0 rfl rfl ?_
  refine r_if_lt hC (q := 4) (t := 16) dX2_has_1 (by decide) rfl (fun h1 => ?_) (fun h1 => ?_)
  · skip
    refine r_iconst hC (x := 0) (q := 17) dX2_has_16 (by decide) rfl ?_
    exact hR _ _ _ _ dX2_has_17 ⟨by first | exact bI_t inb_iff ⟨h1, h9⟩ | exact bI_f inb_iff (fun e => e.1 h1) | exact bI_f inb_iff (fun e => e.2 h9), rfl⟩
  · skip
    refine r_iload_n hC (q := 5) dX2_has_4 rfl rfl ?_
    refine r_aload_n hC (q := 6) dX2_has_5 rfl rfl ?_
    refine g_X2 hC 1 i_X2 l_18 (by decide) (q := 9) dX2_has_6 hp rfl rfl ?_
    refine r_top (y := nI c) hc ?_
    refine r_icmp_ge hC (q := 12) (t := 16) dX2_has_9 (by decide) rfl (fun h9 => ?_) (fun h9 => ?_)
    · skip
      refine r_iconst hC (x := 0) (q := 17) dX2_has_16 (by decide) rfl ?_
      exact hR _ _ _ _ dX2_has_17 ⟨by first | exact bI_t inb_iff ⟨h1, h9⟩ | exact bI_f inb_iff (fun e => e.1 h1) | exact bI_f inb_iff (fun e => e.2 h9), rfl⟩
    · skip
      refine r_iconst hC (x := 1) (q := 13) dX2_has_12 (by decide) rfl ?_
      refine r_goto hC (t := 17) dX2_has_13 (by decide) ?_
      exact hR _ _ _ _ dX2_has_17 ⟨by first | exact bI_t inb_iff ⟨h1, h9⟩ | exact bI_f inb_iff (fun e => e.1 h1) | exact bI_f inb_iff (fun e => e.2 h9), rfl⟩
theorem c_X2_has (l : Launch) {G : GG} {v : VV} {p : Nat} {c : Nat} {x : Int32} (hp : isPr p) (hc : v p 1 = nI c) : MtI l G yX2_has wsX2_has 0 0 [.ref (G.1 p), .int x] v (fun r v' => r = bI (inb x c) ∧ v = v') := mt_int (Or.inr ⟨rfl, fun r v' h => by rw [h.1]; exact ite01 _⟩) (by decide) rfl (by simp [Value.category]) (Nat.le_of_ble_eq_true rfl) rfl rfl (fun E hC hR => b_X2_has hC hR hp hc)

set_option maxRecDepth 100000 in
set_option maxHeartbeats 4000000 in
theorem b_X2_appendBlock {E : TE} {G : GG} {v : VV} {p : Nat} {c : Nat} (hC : Cx E G cX2_appendBlock RX2 2 wsX2_appendBlock 2 45) (hR : RtI E G cX2_appendBlock (fun r v' => r = nI c ∧ v' = u2 (clr v (kB p c)) p 1 (nI (c + 1)))) (hp : isPr p) (hc : v p 1 = nI c) (h12 : c < 12) : Wv E G v 0 [some (.ref (G.1 p)), none] [] := by
  have i_X2 : ∀ w ∈ wsX20, w ∈ wsX2_appendBlock := by decide +kernel
  have l_11 : lnk E RX2 11 (TX2 0) := hC.fl (by decide +kernel)
  have l_18 : lnk E RX2 18 (TX2 1) := hC.fl (by decide +kernel)
  refine r_aload_n hC (q := 1) dX2_appendBlock_0 rfl rfl ?_
  refine g_X2 hC 1 i_X2 l_18 (by decide) (q := 4) dX2_appendBlock_1 hp rfl rfl ?_
  refine r_top (y := nI c) hc ?_
  refine r_bipush hC (x := 12) (q := 6) dX2_appendBlock_4 (by decide) rfl ?_
  refine r_icmp_ltN hC (q := 9) (t := 13) (b := 12) dX2_appendBlock_6 rfl rfl (by omega) (by omega) (by decide) rfl (fun h6 => ?_) (fun h6 => ?_)
  · skip
    refine r_aload_n hC (q := 14) dX2_appendBlock_13 rfl rfl ?_
    refine g_X2 hC 1 i_X2 l_18 (by decide) (q := 17) dX2_appendBlock_14 hp rfl rfl ?_
    refine r_top (y := nI c) hc ?_
    refine r_istore_n hC (q := 18) (L' := [_, _]) dX2_appendBlock_17 (Nat.le_of_ble_eq_true rfl) rfl rfl ?_
    refine r_aload_n hC (q := 19) dX2_appendBlock_18 rfl rfl ?_
    refine g_X2 hC 0 i_X2 l_11 (by decide) (q := 22) dX2_appendBlock_19 hp rfl rfl ?_
    refine r_iload_n hC (q := 23) dX2_appendBlock_22 rfl rfl ?_
    refine r_aBN hC (q := 24) dX2_appendBlock_23 hp rfl (by omega) rfl ?_
    refine r_cNV hC (q := 27) (n := 0) (As := []) (fun l => c_X0_clear l (isBk_of hp h12)) ggX2_appendBlock_X0_clear rfl 4 rfl (by decide +kernel) (by decide +kernel) (by decide +kernel) (by decide +kernel) ⟨by decide, by decide⟩ (ob_b (isBk_of hp (by omega))) rfl rfl rfl rfl (Nat.le_of_ble_eq_true rfl) dX2_appendBlock_24 rfl ?_
    rintro _ rfl
    refine r_aload_n hC (q := 28) dX2_appendBlock_27 rfl rfl ?_
    refine r_dup hC (q := 29) rfl dX2_appendBlock_28 rfl ?_
    refine g_X2 hC 1 i_X2 l_18 (by decide) (q := 32) dX2_appendBlock_29 hp rfl rfl ?_
    refine r_top (y := nI c) (by rw [tm_far (by omega), u2_ne (by omega)]; exact hc) ?_
    refine r_iconst hC (x := 1) (q := 33) dX2_appendBlock_32 (by decide) rfl ?_
    refine r_iaddN hC (q := 34) (b := 1) dX2_appendBlock_33 rfl rfl rfl ?_
    refine p_X2_1 hC i_X2 l_18 (q := 37) dX2_appendBlock_34 hp rfl ?_
    refine r_iload_n hC (q := 38) dX2_appendBlock_37 rfl rfl ?_
    exact hR _ _ _ _ dX2_appendBlock_38 ⟨rfl, rfl⟩
  · skip
    omega
theorem c_X2_appendBlock (l : Launch) {G : GG} {v : VV} {p : Nat} {c : Nat} (hp : isPr p) (hc : v p 1 = nI c) (h12 : c < 12) : MtI l G yX2_appendBlock wsX2_appendBlock 2 45 [.ref (G.1 p)] v (fun r v' => r = nI c ∧ v' = u2 (clr v (kB p c)) p 1 (nI (c + 1))) := mt_int (Or.inl rfl) (by decide) rfl (by simp [Value.category]) (Nat.le_of_ble_eq_true rfl) rfl rfl (fun E hC hR => b_X2_appendBlock hC hR hp hc h12)

set_option maxRecDepth 100000 in
set_option maxHeartbeats 4000000 in
theorem b_X2_appendBlockF {E : TE} {G : GG} {v : VV} {p : Nat}  (hC : Cx E G cX2_appendBlock RX2 2 wsX2_appendBlock 2 45) (hR : RtI E G cX2_appendBlock (fun r v' => r = -1004 ∧ v = v')) (hp : isPr p) (hc : v p 1 = nI 12) : Wv E G v 0 [some (.ref (G.1 p)), none] [] := by
  have i_X2 : ∀ w ∈ wsX20, w ∈ wsX2_appendBlock := by decide +kernel
  have l_18 : lnk E RX2 18 (TX2 1) := hC.fl (by decide +kernel)
  refine r_aload_n hC (q := 1) dX2_appendBlock_0 rfl rfl ?_
  refine g_X2 hC 1 i_X2 l_18 (by decide) (q := 4) dX2_appendBlock_1 hp rfl rfl ?_
  refine r_top (y := nI 12) hc ?_
  refine r_bipush hC (x := 12) (q := 6) dX2_appendBlock_4 (by decide) rfl ?_
  refine r_icmp_ltN hC (q := 9) (t := 13) (b := 12) dX2_appendBlock_6 rfl rfl (by omega) (by omega) (by decide) rfl (fun h6 => ?_) (fun h6 => ?_)
  · skip
    omega
  · skip
    refine r_sipush hC (x := (-1004)) (q := 12) dX2_appendBlock_9 (by decide) rfl ?_
    exact hR _ _ _ _ dX2_appendBlock_12 ⟨rfl, rfl⟩
theorem c_X2_appendBlockF (l : Launch) {G : GG} {v : VV} {p : Nat}  (hp : isPr p) (hc : v p 1 = nI 12) : MtI l G yX2_appendBlock wsX2_appendBlock 2 45 [.ref (G.1 p)] v (fun r v' => r = -1004 ∧ v = v') := mt_int (Or.inl rfl) (by decide) rfl (by simp [Value.category]) (Nat.le_of_ble_eq_true rfl) rfl rfl (fun E hC hR => b_X2_appendBlockF hC hR hp hc)

set_option maxRecDepth 100000 in
set_option maxHeartbeats 4000000 in
theorem b_X2_terminatorCost {E : TE} {G : GG} {v : VV} {p : Nat} {b : Nat} (hC : Cx E G cX2_terminatorCost RX2 2 wsX2_terminatorCost 0 0) (hR : RtI E G cX2_terminatorCost (fun r v' => r = tc v p b ∧ v = v')) (hp : isPr p) (hb : b < 12) : Wv E G v 0 [some (.ref (G.1 p)), some (.int (nI b))] [] := by
  have i_X0 : ∀ w ∈ wsX00, w ∈ wsX2_terminatorCost := by decide +kernel
  have i_X2 : ∀ w ∈ wsX20, w ∈ wsX2_terminatorCost := by decide +kernel
  have l_11 : lnk E RX2 11 (TX2 0) := hC.fl (by decide +kernel)
  have l_22 : lnk E RX2 22 (TX2 2) := hC.fl (by decide +kernel)
  have l_50 : lnk E RX2 50 (TX0 6) := hC.nf 13 rfl
  refine r_aload_n hC (q := 1) dX2_terminatorCost_0 rfl rfl ?_
  refine g_X2 hC 0 i_X2 l_11 (by decide) (q := 4) dX2_terminatorCost_1 hp rfl rfl ?_
  refine r_iload_n hC (q := 5) dX2_terminatorCost_4 rfl rfl ?_
  refine r_aBN hC (q := 6) dX2_terminatorCost_5 hp rfl hb rfl ?_
  refine g_X0 hC 6 i_X0 l_50 (by decide) (q := 9) dX2_terminatorCost_6 (isBk_of hp hb) rfl rfl ?_
  refine r_lsw hC (td := 43) (t0 := 36) (t1 := 41) dX2_terminatorCost_9 (by decide) (by decide) (by decide) (fun h9 => ?_) (fun h9 => ?_) (fun h9 => ?_)
  · skip
    refine r_iconst hC (x := 1) (q := 44) dX2_terminatorCost_43 (by decide) rfl ?_
    exact hR _ _ _ _ dX2_terminatorCost_44 ⟨by first | exact ((if_neg h9.1).trans (if_neg h9.2)).symm | exact (if_pos h9).symm | exact ((if_neg (by rw [h9]; decide)).trans (if_pos h9)).symm, rfl⟩
  · skip
    refine r_aload_n hC (q := 37) dX2_terminatorCost_36 rfl rfl ?_
    refine g_X2 hC 2 i_X2 l_22 (by decide) (q := 40) dX2_terminatorCost_37 hp rfl rfl ?_
    exact hR _ _ _ _ dX2_terminatorCost_40 ⟨by first | exact ((if_neg h9.1).trans (if_neg h9.2)).symm | exact (if_pos h9).symm | exact ((if_neg (by rw [h9]; decide)).trans (if_pos h9)).symm, rfl⟩
  · skip
    refine r_iconst hC (x := 2) (q := 42) dX2_terminatorCost_41 (by decide) rfl ?_
    exact hR _ _ _ _ dX2_terminatorCost_42 ⟨by first | exact ((if_neg h9.1).trans (if_neg h9.2)).symm | exact (if_pos h9).symm | exact ((if_neg (by rw [h9]; decide)).trans (if_pos h9)).symm, rfl⟩
theorem c_X2_terminatorCost (l : Launch) {G : GG} {v : VV} {p : Nat} {b : Nat} (hp : isPr p) (hb : b < 12) : MtI l G yX2_terminatorCost wsX2_terminatorCost 0 0 [.ref (G.1 p), .int (nI b)] v (fun r v' => r = tc v p b ∧ v = v') := mt_int (Or.inl rfl) (by decide) rfl (by simp [Value.category]) (Nat.le_of_ble_eq_true rfl) rfl rfl (fun E hC hR => b_X2_terminatorCost hC hR hp hb)

set_option maxRecDepth 100000 in
set_option maxHeartbeats 4000000 in
theorem b_X2_savingOf {E : TE} {G : GG} {v : VV} {p : Nat} {x y z : Int32} (hC : Cx E G cX2_savingOf RX2 4 wsX2_savingOf 0 0) (hR : RtI E G cX2_savingOf (fun r v' => r = sv x y z (v p 2) ∧ v = v')) (hp : isPr p) : Wv E G v 0 [some (.ref (G.1 p)), some (.int x), some (.int y), some (.int z)] [] := by
  have i_X2 : ∀ w ∈ wsX20, w ∈ wsX2_savingOf := by decide +kernel
  have l_22 : lnk E RX2 22 (TX2 2) := hC.fl (by decide +kernel)
  refine r_iload_n hC (q := 1) dX2_savingOf_0 rfl rfl ?_
  refine r_iconst hC (x := 1) (q := 2) dX2_savingOf_1 (by decide) rfl ?_
  refine r_isub hC (q := 3) dX2_savingOf_2 rfl ?_
  refine r_iload_n hC (q := 4) dX2_savingOf_3 rfl rfl ?_
  refine r_iload_n hC (q := 5) dX2_savingOf_4 rfl rfl ?_
  refine r_iadd hC (q := 6) dX2_savingOf_5 rfl ?_
  refine r_imul hC (q := 7) dX2_savingOf_6 rfl ?_
  refine r_iload_n hC (q := 8) dX2_savingOf_7 rfl rfl ?_
  refine r_aload_n hC (q := 9) dX2_savingOf_8 rfl rfl ?_
  refine g_X2 hC 2 i_X2 l_22 (by decide) (q := 12) dX2_savingOf_9 hp rfl rfl ?_
  refine r_imul hC (q := 13) dX2_savingOf_12 rfl ?_
  refine r_isub hC (q := 14) dX2_savingOf_13 rfl ?_
  exact hR _ _ _ _ dX2_savingOf_14 ⟨rfl, rfl⟩
theorem c_X2_savingOf (l : Launch) {G : GG} {v : VV} {p : Nat} {x y z : Int32} (hp : isPr p) : MtI l G yX2_savingOf wsX2_savingOf 0 0 [.ref (G.1 p), .int x, .int y, .int z] v (fun r v' => r = sv x y z (v p 2) ∧ v = v') := mt_int (Or.inl rfl) (by decide) rfl (by simp [Value.category]) (Nat.le_of_ble_eq_true rfl) rfl rfl (fun E hC hR => b_X2_savingOf hC hR hp)

set_option maxRecDepth 100000 in
set_option maxHeartbeats 4000000 in
theorem b_X2_savingWithParameter {E : TE} {G : GG} {v : VV} {p : Nat} {b : Nat} {x : Int32} (hC : Cx E G cX2_savingWithParameter RX2 3 wsX2_savingWithParameter 1 21) (hR : RtI E G cX2_savingWithParameter (fun r v' => r = x + tc v p b - 2 * v p 2 - 2 ∧ v = v')) (hp : isPr p) (hb : b < 12) : Wv E G v 0 [some (.ref (G.1 p)), some (.int (nI b)), some (.int x)] [] := by
  have i_X2 : ∀ w ∈ wsX20, w ∈ wsX2_savingWithParameter := by decide +kernel
  have l_22 : lnk E RX2 22 (TX2 2) := hC.fl (by decide +kernel)
  refine r_iload_n hC (q := 1) dX2_savingWithParameter_0 rfl rfl ?_
  refine r_aload_n hC (q := 2) dX2_savingWithParameter_1 rfl rfl ?_
  refine r_iload_n hC (q := 3) dX2_savingWithParameter_2 rfl rfl ?_
  refine r_cVI hC (q := 6) (n := 1) (As := [_]) (fun l => c_X2_terminatorCost l hp hb) gX2_savingWithParameter_X2_terminatorCost rfl (by decide +kernel) ⟨by decide, by decide⟩ (ob_p hp) rfl rfl rfl rfl (Nat.le_of_ble_eq_true rfl) dX2_savingWithParameter_3 rfl ?_
  rintro _ _ ⟨rfl, rfl⟩
  refine r_iadd hC (q := 7) dX2_savingWithParameter_6 rfl ?_
  refine r_iconst hC (x := 2) (q := 8) dX2_savingWithParameter_7 (by decide) rfl ?_
  refine r_aload_n hC (q := 9) dX2_savingWithParameter_8 rfl rfl ?_
  refine g_X2 hC 2 i_X2 l_22 (by decide) (q := 12) dX2_savingWithParameter_9 hp rfl rfl ?_
  refine r_imul hC (q := 13) dX2_savingWithParameter_12 rfl ?_
  refine r_isub hC (q := 14) dX2_savingWithParameter_13 rfl ?_
  refine r_iconst hC (x := 2) (q := 15) dX2_savingWithParameter_14 (by decide) rfl ?_
  refine r_isub hC (q := 16) dX2_savingWithParameter_15 rfl ?_
  exact hR _ _ _ _ dX2_savingWithParameter_16 ⟨rfl, rfl⟩
theorem c_X2_savingWithParameter (l : Launch) {G : GG} {v : VV} {p : Nat} {b : Nat} {x : Int32} (hp : isPr p) (hb : b < 12) : MtI l G yX2_savingWithParameter wsX2_savingWithParameter 1 21 [.ref (G.1 p), .int (nI b), .int x] v (fun r v' => r = x + tc v p b - 2 * v p 2 - 2 ∧ v = v') := mt_int (Or.inl rfl) (by decide) rfl (by simp [Value.category]) (Nat.le_of_ble_eq_true rfl) rfl rfl (fun E hC hR => b_X2_savingWithParameter hC hR hp hb)

theorem sh_tb {S b : Nat} (hS : S < 2 ^ 31) (hb : b < 31) : (nI S >>> (nI b &&& 31)) &&& 1 = nI (S / 2 ^ b % 2) := by
  have h1 : nI b &&& 31 = nI b := by
    rw [pk_andN (by omega) 5 rfl]
    congr 1
    exact Nat.mod_eq_of_lt (by omega)
  have h2 : ((nI b).toBitVec.smod 32).toNat = b := by
    have : ∀ b, b < 31 → ((nI b).toBitVec.smod 32).toNat = b := by decide +kernel
    exact this b hb
  rw [h1, pk_shrN hS (nI b) b h2, pk_andN (by
    have : S / 2 ^ b ≤ S := Nat.div_le_self _ _
    omega) 1 rfl]
theorem sh_1 {b : Nat} (hb : b < 31) : (1 : Int32) <<< (nI b &&& 31) = nI (2 ^ b) := by
  have : ∀ b, b < 31 → (1 : Int32) <<< (nI b &&& 31) = nI (2 ^ b) := by decide +kernel
  exact this b hb
theorem tb_iff {S b : Nat} : Nat.testBit S b = true ↔ S / 2 ^ b % 2 = 1 := by rw [Nat.testBit_eq_decide_div_mod_eq, decide_eq_true_iff]

set_option maxRecDepth 100000 in
set_option maxHeartbeats 4000000 in
theorem b_X2_contains {E : TE} {G : GG} {v : VV} {S b : Nat} (hC : Cx E G cX2_contains RX2 2 wsX2_contains 0 0) (hR : RtI E G cX2_contains (fun r v' => r = bI (Nat.testBit S b) ∧ v = v')) (hS : S < 2 ^ 31) (hb : b < 31) : Wv E G v 0 [some (.int (nI S)), some (.int (nI b))] [] := by
  refine r_iload_n hC (q := 1) dX2_contains_0 rfl rfl ?_
  refine r_iload_n hC (q := 2) dX2_contains_1 rfl rfl ?_
  refine r_ishr hC (q := 3) dX2_contains_2 rfl ?_
  refine r_iconst hC (x := 1) (q := 4) dX2_contains_3 (by decide) rfl ?_
  refine r_iand hC (q := 5) dX2_contains_4 rfl ?_
  refine r_top (y := nI (S / 2 ^ b % 2)) (sh_tb hS hb) ?_
  refine r_iconst hC (x := 1) (q := 6) dX2_contains_5 (by decide) rfl ?_
  refine r_icmp_neN hC (q := 9) (t := 13) (b := 1) dX2_contains_6 rfl rfl (by omega) (by omega) (by decide) rfl (fun h6 => ?_) (fun h6 => ?_)
  · skip
    refine r_iconst hC (x := 0) (q := 14) dX2_contains_13 (by decide) rfl ?_
    exact hR _ _ _ _ dX2_contains_14 ⟨by first | exact bI_t tb_iff h6 | exact bI_f tb_iff h6, rfl⟩
  · skip
    refine r_iconst hC (x := 1) (q := 10) dX2_contains_9 (by decide) rfl ?_
    refine r_goto hC (t := 14) dX2_contains_10 (by decide) ?_
    exact hR _ _ _ _ dX2_contains_14 ⟨by first | exact bI_t tb_iff h6 | exact bI_f tb_iff h6, rfl⟩
theorem c_X2_contains (l : Launch) {G : GG} {v : VV} {S b : Nat} (hS : S < 2 ^ 31) (hb : b < 31) : MtI l G yX2_contains wsX2_contains 0 0 [.int (nI S), .int (nI b)] v (fun r v' => r = bI (Nat.testBit S b) ∧ v = v') := mt_int (Or.inr ⟨rfl, fun r v' h => by rw [h.1]; exact ite01 _⟩) (by decide) rfl (by simp [Value.category]) (Nat.le_of_ble_eq_true rfl) rfl rfl (fun E hC hR => b_X2_contains hC hR hS hb)

def szF (v : VV) (p : Nat) : Nat → Nat → Int32 → Int32
  | 0, _, s => s
  | f + 1, b, s => szF v p f (b + 1) (s + (v (kB p b) 5 + tc v p b))

set_option maxRecDepth 100000 in
set_option maxHeartbeats 4000000 in
theorem lp_X2_size {E : TE} {G : GG} {v : VV} {p c : Nat} {post : Int32 → VV → Prop} (hC : Cx E G cX2_size RX2 3 wsX2_size 1 21) (hR : RtI E G cX2_size post) (hp : isPr p) (hc : v p 1 = nI c) (h12 : c ≤ 12) : ∀ (f b : Nat) (s : Int32), b + f = c → post (szF v p f b s) v → Wv E G v 4 [some (.ref (G.1 p)), some (.int s), some (.int (nI b))] [] := by
  intro f
  induction f with
  | zero =>
    intro b s hbf hpost
    have i_X2 : ∀ w ∈ wsX20, w ∈ wsX2_size := by decide +kernel
    have l_18 : lnk E RX2 18 (TX2 1) := hC.fl (by decide +kernel)
    refine r_iload_n hC (q := 5) dX2_size_4 rfl rfl ?_
    refine r_aload_n hC (q := 6) dX2_size_5 rfl rfl ?_
    refine g_X2 hC 1 i_X2 l_18 (by decide) (q := 9) dX2_size_6 hp rfl rfl ?_
    refine r_top (y := nI c) hc ?_
    refine r_icmp_geN hC (q := 12) (t := 36) dX2_size_9 rfl rfl (by omega) (by omega) (by decide) rfl (fun h9 => ?_) (fun h9 => ?_)
    · skip
      refine r_iload_n hC (q := 37) dX2_size_36 rfl rfl ?_
      exact hR _ _ _ _ dX2_size_37 hpost
    · skip
      omega
  | succ f ih =>
    intro b s hbf hpost
    have i_X0 : ∀ w ∈ wsX00, w ∈ wsX2_size := by decide +kernel
    have i_X2 : ∀ w ∈ wsX20, w ∈ wsX2_size := by decide +kernel
    have l_11 : lnk E RX2 11 (TX2 0) := hC.fl (by decide +kernel)
    have l_18 : lnk E RX2 18 (TX2 1) := hC.fl (by decide +kernel)
    have l_45 : lnk E RX2 45 (TX0 5) := hC.nf 10 rfl
    refine r_iload_n hC (q := 5) dX2_size_4 rfl rfl ?_
    refine r_aload_n hC (q := 6) dX2_size_5 rfl rfl ?_
    refine g_X2 hC 1 i_X2 l_18 (by decide) (q := 9) dX2_size_6 hp rfl rfl ?_
    refine r_top (y := nI c) hc ?_
    refine r_icmp_geN hC (q := 12) (t := 36) dX2_size_9 rfl rfl (by omega) (by omega) (by decide) rfl (fun h9 => ?_) (fun h9 => ?_)
    · skip
      omega
    · skip
      refine r_iload_n hC (q := 13) dX2_size_12 rfl rfl ?_
      refine r_aload_n hC (q := 14) dX2_size_13 rfl rfl ?_
      refine g_X2 hC 0 i_X2 l_11 (by decide) (q := 17) dX2_size_14 hp rfl rfl ?_
      refine r_iload_n hC (q := 18) dX2_size_17 rfl rfl ?_
      refine r_aBN hC (q := 19) dX2_size_18 hp rfl (by omega) rfl ?_
      refine g_X0 hC 5 i_X0 l_45 (by decide) (q := 22) dX2_size_19 (isBk_of hp (by omega)) rfl rfl ?_
      refine r_aload_n hC (q := 23) dX2_size_22 rfl rfl ?_
      refine r_iload_n hC (q := 24) dX2_size_23 rfl rfl ?_
      refine r_cVI hC (q := 27) (n := 1) (As := [_]) (fun l => c_X2_terminatorCost l hp (b := b) (by omega)) gX2_size_X2_terminatorCost rfl (by decide +kernel) ⟨by decide, by decide⟩ (ob_p hp) rfl rfl rfl rfl (Nat.le_of_ble_eq_true rfl) dX2_size_24 rfl ?_
      rintro _ _ ⟨rfl, rfl⟩
      refine r_iadd hC (q := 28) dX2_size_27 rfl ?_
      refine r_iadd hC (q := 29) dX2_size_28 rfl ?_
      refine r_istore_n hC (q := 30) (L' := [_, _, _]) dX2_size_29 (Nat.le_of_ble_eq_true rfl) rfl rfl ?_
      refine r_iincN hC (q := 33) (L' := [_, _, _]) (c := 1) dX2_size_30 rfl rfl rfl rfl rfl ?_
      refine r_goto hC (t := 4) dX2_size_33 (by decide) ?_
      exact ih (b + 1) _ (by omega) hpost

set_option maxRecDepth 100000 in
set_option maxHeartbeats 4000000 in
theorem b_X2_size {E : TE} {G : GG} {v : VV} {p : Nat} {c : Nat} (hC : Cx E G cX2_size RX2 3 wsX2_size 1 21) (hR : RtI E G cX2_size (fun r v' => r = szF v p c 0 0 ∧ v = v')) (hp : isPr p) (hc : v p 1 = nI c) (h12 : c ≤ 12) : Wv E G v 0 [some (.ref (G.1 p)), none, none] [] := by
  refine r_iconst hC (x := 0) (q := 1) dX2_size_0 (by decide) rfl ?_
  refine r_istore_n hC (q := 2) (L' := [_, _, _]) dX2_size_1 (Nat.le_of_ble_eq_true rfl) rfl rfl ?_
  refine r_iconst hC (x := 0) (q := 3) dX2_size_2 (by decide) rfl ?_
  refine r_istore_n hC (q := 4) (L' := [_, _, _]) dX2_size_3 (Nat.le_of_ble_eq_true rfl) rfl rfl ?_
  exact lp_X2_size hC hR hp hc h12 c 0 0 (by omega) ⟨rfl, rfl⟩
theorem c_X2_size (l : Launch) {G : GG} {v : VV} {p : Nat} {c : Nat} (hp : isPr p) (hc : v p 1 = nI c) (h12 : c ≤ 12) : MtI l G yX2_size wsX2_size 1 21 [.ref (G.1 p)] v (fun r v' => r = szF v p c 0 0 ∧ v = v') := mt_int (Or.inl rfl) (by decide) rfl (by simp [Value.category]) (Nat.le_of_ble_eq_true rfl) rfl rfl (fun E hC hR => b_X2_size hC hR hp hc h12)
