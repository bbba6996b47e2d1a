abbrev u2 (v : VV) (k j : Nat) (x : Int32) : VV := va_up v k (upd (v k) j x)
theorem ite01 (c : Prop) [Decidable c] : (if c then (1 : Int32) else 0) = 0 ∨ (if c then (1 : Int32) else 0) = 1 := by
  by_cases h : c
  · rw [if_pos h]; exact Or.inr rfl
  · rw [if_neg h]; exact Or.inl rfl
/-- a block's terminator is set -/
def tm (v : VV) (k : Nat) (a b c d : Int32) : VV := u2 (u2 (u2 (u2 v k 6 a) (k + 6) 0 b) (k + 6) 1 c) (k + 6) 2 d
/-- an instruction is put at place n -/
def ap (v : VV) (k n : Nat) (o d a b l : Int32) : VV := u2 (u2 (u2 (u2 (u2 (u2 v (k + 1) n o) (k + 2) n d) (k + 3) n a) (k + 4) n b) (k + 5) n l) k 5 (nI (n + 1))
theorem isBk_sep {k k2 : Nat} (h : isBk k) (h2 : isBk k2) (hn : k ≠ k2) : k + 6 < k2 ∨ k2 + 6 < k := by
  obtain ⟨p, b, hp, hb, rfl⟩ := h
  obtain ⟨p2, b2, hp2, hb2, rfl⟩ := h2
  unfold isPr at hp hp2
  omega

set_option maxRecDepth 100000 in
set_option maxHeartbeats 4000000 in
theorem b_X0_terminate {E : TE} {G : GG} {v : VV} {k : Nat} {a b c d : Int32} (hC : Cx E G cX0_terminate RX0 6 wsX0_terminate 0 0) (hR : RtI E G cX0_terminate (fun r v' => r = v k 6 ∧ v' = tm v k a b c d)) (hk : isBk k) : Wv E G v 0 [some (.ref (G.1 k)), some (.int a), some (.int b), some (.int c), some (.int d), none] [] := by
  have i_X0 : ∀ w ∈ wsX00, w ∈ wsX0_terminate := by decide +kernel
  have l_31 : lnk E RX0 31 (TX0 6) := hC.fl (by decide +kernel)
  have l_34 : lnk E RX0 34 (TX0 7) := hC.fl (by decide +kernel)
  refine r_aload_n hC (q := 1) dX0_terminate_0 rfl rfl ?_
  refine g_X0 hC 6 i_X0 l_31 (by decide) (q := 4) dX0_terminate_1 hk rfl rfl ?_
  refine r_istore hC (q := 6) (L' := [_, _, _, _, _, _]) dX0_terminate_4 (Nat.le_of_ble_eq_true rfl) rfl rfl ?_
  refine r_aload_n hC (q := 7) dX0_terminate_6 rfl rfl ?_
  refine r_iload_n hC (q := 8) dX0_terminate_7 rfl rfl ?_
  refine p_X0_6 hC i_X0 l_31 (q := 11) dX0_terminate_8 hk rfl ?_
  refine r_aload_n hC (q := 12) dX0_terminate_11 rfl rfl ?_
  refine g_X0 hC 7 i_X0 l_34 (by decide) (q := 15) dX0_terminate_12 hk rfl rfl ?_
  refine r_iconst hC (x := 0) (q := 16) dX0_terminate_15 (by decide) rfl ?_
  refine r_iload_n hC (q := 17) dX0_terminate_16 rfl rfl ?_
  refine r_isN hC (q := 18) (i := 0) dX0_terminate_17 (iA_b6 hk) rfl (by omega) rfl ?_
  refine r_aload_n hC (q := 19) dX0_terminate_18 rfl rfl ?_
  refine g_X0 hC 7 i_X0 l_34 (by decide) (q := 22) dX0_terminate_19 hk rfl rfl ?_
  refine r_iconst hC (x := 1) (q := 23) dX0_terminate_22 (by decide) rfl ?_
  refine r_iload_n hC (q := 24) dX0_terminate_23 rfl rfl ?_
  refine r_isN hC (q := 25) (i := 1) dX0_terminate_24 (iA_b6 hk) rfl (by omega) rfl ?_
  refine r_aload_n hC (q := 26) dX0_terminate_25 rfl rfl ?_
  refine g_X0 hC 7 i_X0 l_34 (by decide) (q := 29) dX0_terminate_26 hk rfl rfl ?_
  refine r_iconst hC (x := 2) (q := 30) dX0_terminate_29 (by decide) rfl ?_
  refine r_iload hC (q := 32) dX0_terminate_30 rfl rfl ?_
  refine r_isN hC (q := 33) (i := 2) dX0_terminate_32 (iA_b6 hk) rfl (by omega) rfl ?_
  refine r_iload hC (q := 35) dX0_terminate_33 rfl rfl ?_
  exact hR _ _ _ _ dX0_terminate_35 ⟨rfl, rfl⟩
theorem c_X0_terminate (l : Launch) {G : GG} {v : VV} {k : Nat} {a b c d : Int32} (hk : isBk k) : MtI l G yX0_terminate wsX0_terminate 0 0 [.ref (G.1 k), .int a, .int b, .int c, .int d] v (fun r v' => r = v k 6 ∧ v' = tm v k a b c d) := mt_int (Or.inl rfl) (by decide) rfl (by simp [Value.category]) (by decide) rfl rfl (fun E hC hR => b_X0_terminate hC hR hk)

set_option maxRecDepth 100000 in
set_option maxHeartbeats 4000000 in
theorem b_X0_clear {E : TE} {G : GG} {v : VV} {k : Nat}  (hC : Cx E G cX0_clear RX0 1 wsX0_clear 1 25) (hR : RtV E G cX0_clear (fun v' => v' = tm (u2 v k 5 0) k 2 0 0 0)) (hk : isBk k) : Wv E G v 0 [some (.ref (G.1 k))] [] := by
  have i_X0 : ∀ w ∈ wsX00, w ∈ wsX0_clear := by decide +kernel
  have l_27 : lnk E RX0 27 (TX0 5) := hC.fl (by decide +kernel)
  refine r_aload_n hC (q := 1) dX0_clear_0 rfl rfl ?_
  refine r_iconst hC (x := 0) (q := 2) dX0_clear_1 (by decide) rfl ?_
  refine p_X0_5 hC i_X0 l_27 (q := 5) dX0_clear_2 hk rfl ?_
  refine r_aload_n hC (q := 6) dX0_clear_5 rfl rfl ?_
  refine r_iconst hC (x := 2) (q := 7) dX0_clear_6 (by decide) rfl ?_
  refine r_iconst hC (x := 0) (q := 8) dX0_clear_7 (by decide) rfl ?_
  refine r_iconst hC (x := 0) (q := 9) dX0_clear_8 (by decide) rfl ?_
  refine r_iconst hC (x := 0) (q := 10) dX0_clear_9 (by decide) rfl ?_
  refine r_cVI hC (q := 13) (As := [_, _, _, _]) (fun l => c_X0_terminate l hk) gX0_clear_X0_terminate rfl (by decide +kernel) ⟨by decide, by decide⟩ (ob_b hk) rfl rfl rfl rfl (Nat.le_of_ble_eq_true rfl) dX0_clear_10 rfl ?_
  rintro _ _ ⟨rfl, rfl⟩
  refine r_pop hC (q := 14) rfl dX0_clear_13 rfl ?_
  exact hR _ _ _ dX0_clear_14 rfl
theorem c_X0_clear (l : Launch) {G : GG} {v : VV} {k : Nat}  (hk : isBk k) : MtV l G yX0_clear wsX0_clear 1 25 [.ref (G.1 k)] v (fun v' => v' = tm (u2 v k 5 0) k 2 0 0 0) := mt_void (by decide) rfl (by simp [Value.category]) (by decide) rfl rfl (fun E hC hR => b_X0_clear hC hR hk)

set_option maxRecDepth 100000 in
set_option maxHeartbeats 4000000 in
theorem b_X0_append {E : TE} {G : GG} {v : VV} {k : Nat} {n : Nat} {o d a b e : Int32} (hC : Cx E G cX0_append RX0 7 wsX0_append 0 0) (hR : RtI E G cX0_append (fun r v' => r = nI n ∧ v' = ap v k n o d a b e)) (hk : isBk k) (hn : v k 5 = nI n) (h10 : n < 10) : Wv E G v 0 [some (.ref (G.1 k)), some (.int o), some (.int d), some (.int a), some (.int b), some (.int e), none] [] := by
  have i_X0 : ∀ w ∈ wsX00, w ∈ wsX0_append := by decide +kernel
  have l_9 : lnk E RX0 9 (TX0 0) := hC.fl (by decide +kernel)
  have l_15 : lnk E RX0 15 (TX0 1) := hC.fl (by decide +kernel)
  have l_18 : lnk E RX0 18 (TX0 2) := hC.fl (by decide +kernel)
  have l_21 : lnk E RX0 21 (TX0 3) := hC.fl (by decide +kernel)
  have l_24 : lnk E RX0 24 (TX0 4) := hC.fl (by decide +kernel)
  have l_27 : lnk E RX0 27 (TX0 5) := hC.fl (by decide +kernel)
  refine r_aload_n hC (q := 1) dX0_append_0 rfl rfl ?_
  refine g_X0 hC 5 i_X0 l_27 (by decide) (q := 4) dX0_append_1 hk rfl rfl ?_
  refine r_top (y := nI n) hn ?_
  refine r_bipush hC (x := 10) (q := 6) dX0_append_4 (by decide) rfl ?_
  refine r_icmp_ltN hC (q := 9) (t := 13) (b := 10) dX0_append_6 rfl rfl (by omega) (by omega) (by decide) rfl (fun h6 => ?_) (fun h6 => ?_)
  · skip
    refine r_aload_n hC (q := 14) dX0_append_13 rfl rfl ?_
    refine g_X0 hC 5 i_X0 l_27 (by decide) (q := 17) dX0_append_14 hk rfl rfl ?_
    refine r_top (y := nI n) hn ?_
    refine r_istore hC (q := 19) (L' := [_, _, _, _, _, _, _]) dX0_append_17 (Nat.le_of_ble_eq_true rfl) rfl rfl ?_
    refine r_aload_n hC (q := 20) dX0_append_19 rfl rfl ?_
    refine g_X0 hC 0 i_X0 l_9 (by decide) (q := 23) dX0_append_20 hk rfl rfl ?_
    refine r_iload hC (q := 25) dX0_append_23 rfl rfl ?_
    refine r_iload_n hC (q := 26) dX0_append_25 rfl rfl ?_
    refine r_isN hC (q := 27) dX0_append_26 (iA_b1 hk) rfl (by omega) rfl ?_
    refine r_aload_n hC (q := 28) dX0_append_27 rfl rfl ?_
    refine g_X0 hC 1 i_X0 l_15 (by decide) (q := 31) dX0_append_28 hk rfl rfl ?_
    refine r_iload hC (q := 33) dX0_append_31 rfl rfl ?_
    refine r_iload_n hC (q := 34) dX0_append_33 rfl rfl ?_
    refine r_isN hC (q := 35) dX0_append_34 (iA_b2 hk) rfl (by omega) rfl ?_
    refine r_aload_n hC (q := 36) dX0_append_35 rfl rfl ?_
    refine g_X0 hC 2 i_X0 l_18 (by decide) (q := 39) dX0_append_36 hk rfl rfl ?_
    refine r_iload hC (q := 41) dX0_append_39 rfl rfl ?_
    refine r_iload_n hC (q := 42) dX0_append_41 rfl rfl ?_
    refine r_isN hC (q := 43) dX0_append_42 (iA_b3 hk) rfl (by omega) rfl ?_
    refine r_aload_n hC (q := 44) dX0_append_43 rfl rfl ?_
    refine g_X0 hC 3 i_X0 l_21 (by decide) (q := 47) dX0_append_44 hk rfl rfl ?_
    refine r_iload hC (q := 49) dX0_append_47 rfl rfl ?_
    refine r_iload hC (q := 51) dX0_append_49 rfl rfl ?_
    refine r_isN hC (q := 52) dX0_append_51 (iA_b4 hk) rfl (by omega) rfl ?_
    refine r_aload_n hC (q := 53) dX0_append_52 rfl rfl ?_
    refine g_X0 hC 4 i_X0 l_24 (by decide) (q := 56) dX0_append_53 hk rfl rfl ?_
    refine r_iload hC (q := 58) dX0_append_56 rfl rfl ?_
    refine r_iload hC (q := 60) dX0_append_58 rfl rfl ?_
    refine r_isN hC (q := 61) dX0_append_60 (iA_b5 hk) rfl (by omega) rfl ?_
    refine r_aload_n hC (q := 62) dX0_append_61 rfl rfl ?_
    refine r_dup hC (q := 63) rfl dX0_append_62 rfl ?_
    refine g_X0 hC 5 i_X0 l_27 (by decide) (q := 66) dX0_append_63 hk rfl rfl ?_
    refine r_top (y := nI n) (by simp [va_up, hn]) ?_
    refine r_iconst hC (x := 1) (q := 67) dX0_append_66 (by decide) rfl ?_
    refine r_iaddN hC (q := 68) (b := 1) dX0_append_67 rfl rfl rfl ?_
    refine p_X0_5 hC i_X0 l_27 (q := 71) dX0_append_68 hk rfl ?_
    refine r_iload hC (q := 73) dX0_append_71 rfl rfl ?_
    exact hR _ _ _ _ dX0_append_73 ⟨rfl, rfl⟩
  · skip
    omega
theorem c_X0_append (l : Launch) {G : GG} {v : VV} {k : Nat} {n : Nat} {o d a b e : Int32} (hk : isBk k) (hn : v k 5 = nI n) (h10 : n < 10) : MtI l G yX0_append wsX0_append 0 0 [.ref (G.1 k), .int o, .int d, .int a, .int b, .int e] v (fun r v' => r = nI n ∧ v' = ap v k n o d a b e) := mt_int (Or.inl rfl) (by decide) rfl (by simp [Value.category]) (by decide) rfl rfl (fun E hC hR => b_X0_append hC hR hk hn h10)
