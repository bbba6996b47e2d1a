abbrev u2 (v : VV) (k j : Nat) (x : Int32) : VV := va_up v k (upd (v k) j x)
theorem ite01 (c : Prop) [Decidable c] : (if c then (1 : Int32) else 0) = 0 ∨ (if c then (1 : Int32) else 0) = 1 := by
  by_cases h : c
  · rw [if_pos h]; exact Or.inr rfl
  · rw [if_neg h]; exact Or.inl rfl
/-- a block's terminator is set -/
def tm (v : VV) (k : Nat) (a b c d : Int32) : VV := u2 (u2 (u2 (u2 v k 6 a) (k + 6) 0 b) (k + 6) 1 c) (k + 6) 2 d
/-- an instruction is put at place n -/
def ap (v : VV) (k n : Nat) (o d a b l : Int32) : VV := u2 (u2 (u2 (u2 (u2 (u2 v (k + 1) n o) (k + 2) n d) (k + 3) n a) (k + 4) n b) (k + 5) n l) k 5 (nI (n + 1))
theorem isBk_sep {k k2 : Nat} (h : isBk k) (h2 : isBk k2) (hn : k ≠ k2) : k + 6 < k2 ∨ k2 + 6 < k := by
  obtain ⟨p, b, hp, hb, rfl⟩ := h
  obtain ⟨p2, b2, hp2, hb2, rfl⟩ := h2
  unfold isPr at hp hp2
  omega
theorem ap_far {v : VV} {k n q : Nat} {o d a b l : Int32} (h : k + 6 < q ∨ q < k) : ap v k n o d a b l q = v q := by
  unfold ap u2
  rw [va_up_ne _ _ (by omega), va_up_ne _ _ (by omega), va_up_ne _ _ (by omega), va_up_ne _ _ (by omega), va_up_ne _ _ (by omega), va_up_ne _ _ (by omega)]
theorem tm_far {v : VV} {k q : Nat} {a b c d : Int32} (h : k + 6 < q ∨ q < k) : tm v k a b c d q = v q := by
  unfold tm u2
  rw [va_up_ne _ _ (by omega), va_up_ne _ _ (by omega), va_up_ne _ _ (by omega), va_up_ne _ _ (by omega)]
theorem ap_cnt {v : VV} {k n : Nat} {o d a b l : Int32} : ap v k n o d a b l k 5 = nI (n + 1) := by simp [ap, va_up, upd]

set_option maxRecDepth 100000 in
set_option maxHeartbeats 4000000 in
theorem b_X0_terminate {E : TE} {G : GG} {v : VV} {k : Nat} {a b c d : Int32} (hC : Cx E G cX0_terminate RX0 6 wsX0_terminate 0 0) (hR : RtI E G cX0_terminate (fun r v' => r = v k 6 ∧ v' = tm v k a b c d)) (hk : isBk k) : Wv E G v 0 [some (.ref (G.1 k)), some (.int a), some (.int b), some (.int c), some (.int d), none] [] := by
  have i_X0 : ∀ w ∈ wsX00, w ∈ wsX0_terminate := by decide +kernel
  have l_31 : lnk E RX0 31 (TX0 6) := hC.fl (by decide +kernel)
  have l_34 : lnk E RX0 34 (TX0 7) := hC.fl (by decide +kernel)
  refine r_aload_n hC (q := 1) dX0_terminate_0 rfl rfl ?_
  refine g_X0 hC 6 i_X0 l_31 (by decide) (q := 4) dX0_terminate_1 hk rfl rfl ?_
  refine r_istore hC (q := 6) (L' := [_, _, _, _, _, _]) dX0_terminate_4 (Nat.le_of_ble_eq_true rfl) rfl rfl ?_
  refine r_aload_n hC (q := 7) dX0_terminate_6 rfl rfl ?_
  refine r_iload_n hC (q := 8) dX0_terminate_7 rfl rfl ?_
  refine p_X0_6 hC i_X0 l_31 (q := 11) dX0_terminate_8 hk rfl ?_
  refine r_aload_n hC (q := 12) dX0_terminate_11 rfl rfl ?_
  refine g_X0 hC 7 i_X0 l_34 (by decide) (q := 15) dX0_terminate_12 hk rfl rfl ?_
  refine r_iconst hC (x := 0) (q := 16) dX0_terminate_15 (by decide) rfl ?_
  refine r_iload_n hC (q := 17) dX0_terminate_16 rfl rfl ?_
  refine r_isN hC (q := 18) (i := 0) dX0_terminate_17 (iA_b6 hk) rfl (by omega) rfl ?_
  refine r_aload_n hC (q := 19) dX0_terminate_18 rfl rfl ?_
  refine g_X0 hC 7 i_X0 l_34 (by decide) (q := 22) dX0_terminate_19 hk rfl rfl ?_
  refine r_iconst hC (x := 1) (q := 23) dX0_terminate_22 (by decide) rfl ?_
  refine r_iload_n hC (q := 24) dX0_terminate_23 rfl rfl ?_
  refine r_isN hC (q := 25) (i := 1) dX0_terminate_24 (iA_b6 hk) rfl (by omega) rfl ?_
  refine r_aload_n hC (q := 26) dX0_terminate_25 rfl rfl ?_
  refine g_X0 hC 7 i_X0 l_34 (by decide) (q := 29) dX0_terminate_26 hk rfl rfl ?_
  refine r_iconst hC (x := 2) (q := 30) dX0_terminate_29 (by decide) rfl ?_
  refine r_iload hC (q := 32) dX0_terminate_30 rfl rfl ?_
  refine r_isN hC (q := 33) (i := 2) dX0_terminate_32 (iA_b6 hk) rfl (by omega) rfl ?_
  refine r_iload hC (q := 35) dX0_terminate_33 rfl rfl ?_
  exact hR _ _ _ _ dX0_terminate_35 ⟨rfl, rfl⟩
theorem c_X0_terminate (l : Launch) {G : GG} {v : VV} {k : Nat} {a b c d : Int32} (hk : isBk k) : MtI l G yX0_terminate wsX0_terminate 0 0 [.ref (G.1 k), .int a, .int b, .int c, .int d] v (fun r v' => r = v k 6 ∧ v' = tm v k a b c d) := mt_int (Or.inl rfl) (by decide) rfl (by simp [Value.category]) (Nat.le_of_ble_eq_true rfl) rfl rfl (fun E hC hR => b_X0_terminate hC hR hk)

set_option maxRecDepth 100000 in
set_option maxHeartbeats 4000000 in
theorem b_X0_clear {E : TE} {G : GG} {v : VV} {k : Nat}  (hC : Cx E G cX0_clear RX0 1 wsX0_clear 1 25) (hR : RtV E G cX0_clear (fun v' => v' = tm (u2 v k 5 0) k 2 0 0 0)) (hk : isBk k) : Wv E G v 0 [some (.ref (G.1 k))] [] := by
  have i_X0 : ∀ w ∈ wsX00, w ∈ wsX0_clear := by decide +kernel
  have l_27 : lnk E RX0 27 (TX0 5) := hC.fl (by decide +kernel)
  refine r_aload_n hC (q := 1) dX0_clear_0 rfl rfl ?_
  refine r_iconst hC (x := 0) (q := 2) dX0_clear_1 (by decide) rfl ?_
  refine p_X0_5 hC i_X0 l_27 (q := 5) dX0_clear_2 hk rfl ?_
  refine r_aload_n hC (q := 6) dX0_clear_5 rfl rfl ?_
  refine r_iconst hC (x := 2) (q := 7) dX0_clear_6 (by decide) rfl ?_
  refine r_iconst hC (x := 0) (q := 8) dX0_clear_7 (by decide) rfl ?_
  refine r_iconst hC (x := 0) (q := 9) dX0_clear_8 (by decide) rfl ?_
  refine r_iconst hC (x := 0) (q := 10) dX0_clear_9 (by decide) rfl ?_
  refine r_cVI hC (q := 13) (n := 4) (As := [_, _, _, _]) (fun l => c_X0_terminate l hk) gX0_clear_X0_terminate rfl (by decide +kernel) ⟨by decide, by decide⟩ (ob_b hk) rfl rfl rfl rfl (Nat.le_of_ble_eq_true rfl) dX0_clear_10 rfl ?_
  rintro _ _ ⟨rfl, rfl⟩
  refine r_pop hC (q := 14) rfl dX0_clear_13 rfl ?_
  exact hR _ _ _ dX0_clear_14 rfl
theorem c_X0_clear (l : Launch) {G : GG} {v : VV} {k : Nat}  (hk : isBk k) : MtV l G yX0_clear wsX0_clear 1 25 [.ref (G.1 k)] v (fun v' => v' = tm (u2 v k 5 0) k 2 0 0 0) := mt_void (by decide) rfl (by simp [Value.category]) (Nat.le_of_ble_eq_true rfl) rfl rfl (fun E hC hR => b_X0_clear hC hR hk)

set_option maxRecDepth 100000 in
set_option maxHeartbeats 4000000 in
theorem b_X0_append {E : TE} {G : GG} {v : VV} {k : Nat} {n : Nat} {o d a b e : Int32} (hC : Cx E G cX0_append RX0 7 wsX0_append 0 0) (hR : RtI E G cX0_append (fun r v' => r = nI n ∧ v' = ap v k n o d a b e)) (hk : isBk k) (hn : v k 5 = nI n) (h10 : n < 10) : Wv E G v 0 [some (.ref (G.1 k)), some (.int o), some (.int d), some (.int a), some (.int b), some (.int e), none] [] := by
  have i_X0 : ∀ w ∈ wsX00, w ∈ wsX0_append := by decide +kernel
  have l_9 : lnk E RX0 9 (TX0 0) := hC.fl (by decide +kernel)
  have l_15 : lnk E RX0 15 (TX0 1) := hC.fl (by decide +kernel)
  have l_18 : lnk E RX0 18 (TX0 2) := hC.fl (by decide +kernel)
  have l_21 : lnk E RX0 21 (TX0 3) := hC.fl (by decide +kernel)
  have l_24 : lnk E RX0 24 (TX0 4) := hC.fl (by decide +kernel)
  have l_27 : lnk E RX0 27 (TX0 5) := hC.fl (by decide +kernel)
  refine r_aload_n hC (q := 1) dX0_append_0 rfl rfl ?_
  refine g_X0 hC 5 i_X0 l_27 (by decide) (q := 4) dX0_append_1 hk rfl rfl ?_
  refine r_top (y := nI n) hn ?_
  refine r_bipush hC (x := 10) (q := 6) dX0_append_4 (by decide) rfl ?_
  refine r_icmp_ltN hC (q := 9) (t := 13) (b := 10) dX0_append_6 rfl rfl (by omega) (by omega) (by decide) rfl (fun h6 => ?_) (fun h6 => ?_)
  · skip
    refine r_aload_n hC (q := 14) dX0_append_13 rfl rfl ?_
    refine g_X0 hC 5 i_X0 l_27 (by decide) (q := 17) dX0_append_14 hk rfl rfl ?_
    refine r_top (y := nI n) hn ?_
    refine r_istore hC (q := 19) (L' := [_, _, _, _, _, _, _]) dX0_append_17 (Nat.le_of_ble_eq_true rfl) rfl rfl ?_
    refine r_aload_n hC (q := 20) dX0_append_19 rfl rfl ?_
    refine g_X0 hC 0 i_X0 l_9 (by decide) (q := 23) dX0_append_20 hk rfl rfl ?_
    refine r_iload hC (q := 25) dX0_append_23 rfl rfl ?_
    refine r_iload_n hC (q := 26) dX0_append_25 rfl rfl ?_
    refine r_isN hC (q := 27) dX0_append_26 (iA_b1 hk) rfl (by omega) rfl ?_
    refine r_aload_n hC (q := 28) dX0_append_27 rfl rfl ?_
    refine g_X0 hC 1 i_X0 l_15 (by decide) (q := 31) dX0_append_28 hk rfl rfl ?_
    refine r_iload hC (q := 33) dX0_append_31 rfl rfl ?_
    refine r_iload_n hC (q := 34) dX0_append_33 rfl rfl ?_
    refine r_isN hC (q := 35) dX0_append_34 (iA_b2 hk) rfl (by omega) rfl ?_
    refine r_aload_n hC (q := 36) dX0_append_35 rfl rfl ?_
    refine g_X0 hC 2 i_X0 l_18 (by decide) (q := 39) dX0_append_36 hk rfl rfl ?_
    refine r_iload hC (q := 41) dX0_append_39 rfl rfl ?_
    refine r_iload_n hC (q := 42) dX0_append_41 rfl rfl ?_
    refine r_isN hC (q := 43) dX0_append_42 (iA_b3 hk) rfl (by omega) rfl ?_
    refine r_aload_n hC (q := 44) dX0_append_43 rfl rfl ?_
    refine g_X0 hC 3 i_X0 l_21 (by decide) (q := 47) dX0_append_44 hk rfl rfl ?_
    refine r_iload hC (q := 49) dX0_append_47 rfl rfl ?_
    refine r_iload hC (q := 51) dX0_append_49 rfl rfl ?_
    refine r_isN hC (q := 52) dX0_append_51 (iA_b4 hk) rfl (by omega) rfl ?_
    refine r_aload_n hC (q := 53) dX0_append_52 rfl rfl ?_
    refine g_X0 hC 4 i_X0 l_24 (by decide) (q := 56) dX0_append_53 hk rfl rfl ?_
    refine r_iload hC (q := 58) dX0_append_56 rfl rfl ?_
    refine r_iload hC (q := 60) dX0_append_58 rfl rfl ?_
    refine r_isN hC (q := 61) dX0_append_60 (iA_b5 hk) rfl (by omega) rfl ?_
    refine r_aload_n hC (q := 62) dX0_append_61 rfl rfl ?_
    refine r_dup hC (q := 63) rfl dX0_append_62 rfl ?_
    refine g_X0 hC 5 i_X0 l_27 (by decide) (q := 66) dX0_append_63 hk rfl rfl ?_
    refine r_top (y := nI n) (by simp [va_up, hn]) ?_
    refine r_iconst hC (x := 1) (q := 67) dX0_append_66 (by decide) rfl ?_
    refine r_iaddN hC (q := 68) (b := 1) dX0_append_67 rfl rfl rfl ?_
    refine p_X0_5 hC i_X0 l_27 (q := 71) dX0_append_68 hk rfl ?_
    refine r_iload hC (q := 73) dX0_append_71 rfl rfl ?_
    exact hR _ _ _ _ dX0_append_73 ⟨rfl, rfl⟩
  · skip
    omega
theorem c_X0_append (l : Launch) {G : GG} {v : VV} {k : Nat} {n : Nat} {o d a b e : Int32} (hk : isBk k) (hn : v k 5 = nI n) (h10 : n < 10) : MtI l G yX0_append wsX0_append 0 0 [.ref (G.1 k), .int o, .int d, .int a, .int b, .int e] v (fun r v' => r = nI n ∧ v' = ap v k n o d a b e) := mt_int (Or.inl rfl) (by decide) rfl (by simp [Value.category]) (Nat.le_of_ble_eq_true rfl) rfl rfl (fun E hC hR => b_X0_append hC hR hk hn h10)

set_option maxRecDepth 100000 in
set_option maxHeartbeats 4000000 in
theorem b_X0_appendF {E : TE} {G : GG} {v : VV} {k : Nat} {o d a b e : Int32} (hC : Cx E G cX0_append RX0 7 wsX0_append 0 0) (hR : RtI E G cX0_append (fun r v' => r = -1004 ∧ v = v')) (hk : isBk k) (hn : v k 5 = nI 10) : Wv E G v 0 [some (.ref (G.1 k)), some (.int o), some (.int d), some (.int a), some (.int b), some (.int e), none] [] := by
  have i_X0 : ∀ w ∈ wsX00, w ∈ wsX0_append := by decide +kernel
  have l_27 : lnk E RX0 27 (TX0 5) := hC.fl (by decide +kernel)
  refine r_aload_n hC (q := 1) dX0_append_0 rfl rfl ?_
  refine g_X0 hC 5 i_X0 l_27 (by decide) (q := 4) dX0_append_1 hk rfl rfl ?_
  refine r_top (y := nI 10) hn ?_
  refine r_bipush hC (x := 10) (q := 6) dX0_append_4 (by decide) rfl ?_
  refine r_icmp_ltN hC (q := 9) (t := 13) (b := 10) dX0_append_6 rfl rfl (by omega) (by omega) (by decide) rfl (fun h6 => ?_) (fun h6 => ?_)
  · skip
    omega
  · skip
    refine r_sipush hC (x := (-1004)) (q := 12) dX0_append_9 (by decide) rfl ?_
    exact hR _ _ _ _ dX0_append_12 ⟨rfl, rfl⟩
theorem c_X0_appendF (l : Launch) {G : GG} {v : VV} {k : Nat} {o d a b e : Int32} (hk : isBk k) (hn : v k 5 = nI 10) : MtI l G yX0_append wsX0_append 0 0 [.ref (G.1 k), .int o, .int d, .int a, .int b, .int e] v (fun r v' => r = -1004 ∧ v = v') := mt_int (Or.inl rfl) (by decide) rfl (by simp [Value.category]) (Nat.le_of_ble_eq_true rfl) rfl rfl (fun E hC hR => b_X0_appendF hC hR hk hn)

def apL (k k2 : Nat) : Nat → Nat → Nat → VV → VV
  | 0, _, _, v => v
  | f + 1, n, i, v => apL k k2 f (n + 1) (i + 1) (ap v k n (v (k2 + 1) i) (v (k2 + 2) i) (v (k2 + 3) i) (v (k2 + 4) i) (v (k2 + 5) i))
def apE (v : VV) (k k2 : Nat) : VV := tm v k (v k2 6) (v (k2 + 6) 0) (v (k2 + 6) 1) (v (k2 + 6) 2)
/-- the last m of the n2 instructions of k2 come behind the n of k, with the terminator -/
def apT (v : VV) (k k2 n n2 m : Nat) : VV := apE (apL k k2 m n (n2 - m) v) k k2

set_option maxRecDepth 100000 in
set_option maxHeartbeats 4000000 in
theorem lp_X0_appendTail {E : TE} {G : GG} {k k2 n2 : Nat} {x : Int32} {post : VV → Prop} (hC : Cx E G cX0_appendTail RX0 4 wsX0_appendTail 1 26) (hR : RtV E G cX0_appendTail post) (hk : isBk k) (hk2 : isBk k2) (hne : k ≠ k2) (h2 : n2 ≤ 10) : ∀ (f n i : Nat) (v : VV), i + f = n2 → n + f ≤ 10 → v k2 5 = nI n2 → v k 5 = nI n → post (apE (apL k k2 f n i v) k k2) → Wv E G v 7 [some (.ref (G.1 k)), some (.ref (G.1 k2)), some (.int x), some (.int (nI i))] [] := by
  have hs := isBk_sep hk hk2 hne
  intro f
  induction f with
  | zero =>
    intro n i v hif hnf hn2 hn hpost
    have i_X0 : ∀ w ∈ wsX00, w ∈ wsX0_appendTail := by decide +kernel
    have l_27 : lnk E RX0 27 (TX0 5) := hC.fl (by decide +kernel)
    have l_31 : lnk E RX0 31 (TX0 6) := hC.fl (by decide +kernel)
    have l_34 : lnk E RX0 34 (TX0 7) := hC.fl (by decide +kernel)
    refine r_iload_n hC (q := 8) dX0_appendTail_7 rfl rfl ?_
    refine r_aload_n hC (q := 9) dX0_appendTail_8 rfl rfl ?_
    refine g_X0 hC 5 i_X0 l_27 (by decide) (q := 12) dX0_appendTail_9 hk2 rfl rfl ?_
    refine r_top (y := nI n2) hn2 ?_
    refine r_icmp_geN hC (q := 15) (t := 56) dX0_appendTail_12 rfl rfl (by omega) (by omega) (by decide) rfl (fun h12 => ?_) (fun h12 => ?_)
    · skip
      refine r_aload_n hC (q := 57) dX0_appendTail_56 rfl rfl ?_
      refine r_aload_n hC (q := 58) dX0_appendTail_57 rfl rfl ?_
      refine g_X0 hC 6 i_X0 l_31 (by decide) (q := 61) dX0_appendTail_58 hk2 rfl rfl ?_
      refine r_aload_n hC (q := 62) dX0_appendTail_61 rfl rfl ?_
      refine g_X0 hC 7 i_X0 l_34 (by decide) (q := 65) dX0_appendTail_62 hk2 rfl rfl ?_
      refine r_iconst hC (x := 0) (q := 66) dX0_appendTail_65 (by decide) rfl ?_
      refine r_iaN hC (q := 67) (i := 0) dX0_appendTail_66 (iA_b6 hk2) rfl (by omega) rfl ?_
      refine r_aload_n hC (q := 68) dX0_appendTail_67 rfl rfl ?_
      refine g_X0 hC 7 i_X0 l_34 (by decide) (q := 71) dX0_appendTail_68 hk2 rfl rfl ?_
      refine r_iconst hC (x := 1) (q := 72) dX0_appendTail_71 (by decide) rfl ?_
      refine r_iaN hC (q := 73) (i := 1) dX0_appendTail_72 (iA_b6 hk2) rfl (by omega) rfl ?_
      refine r_aload_n hC (q := 74) dX0_appendTail_73 rfl rfl ?_
      refine g_X0 hC 7 i_X0 l_34 (by decide) (q := 77) dX0_appendTail_74 hk2 rfl rfl ?_
      refine r_iconst hC (x := 2) (q := 78) dX0_appendTail_77 (by decide) rfl ?_
      refine r_iaN hC (q := 79) (i := 2) dX0_appendTail_78 (iA_b6 hk2) rfl (by omega) rfl ?_
      refine r_cVI hC (q := 82) (n := 4) (As := [_, _, _, _]) (fun l => c_X0_terminate l hk) gX0_appendTail_X0_terminate rfl (by decide +kernel) ⟨by decide, by decide⟩ (ob_b hk) rfl rfl rfl rfl (Nat.le_of_ble_eq_true rfl) dX0_appendTail_79 rfl ?_
      rintro _ _ ⟨rfl, rfl⟩
      refine r_pop hC (q := 83) rfl dX0_appendTail_82 rfl ?_
      exact hR _ _ _ dX0_appendTail_83 hpost
    · skip
      omega
  | succ f ih =>
    intro n i v hif hnf hn2 hn hpost
    have i_X0 : ∀ w ∈ wsX00, w ∈ wsX0_appendTail := by decide +kernel
    have l_9 : lnk E RX0 9 (TX0 0) := hC.fl (by decide +kernel)
    have l_15 : lnk E RX0 15 (TX0 1) := hC.fl (by decide +kernel)
    have l_18 : lnk E RX0 18 (TX0 2) := hC.fl (by decide +kernel)
    have l_21 : lnk E RX0 21 (TX0 3) := hC.fl (by decide +kernel)
    have l_24 : lnk E RX0 24 (TX0 4) := hC.fl (by decide +kernel)
    have l_27 : lnk E RX0 27 (TX0 5) := hC.fl (by decide +kernel)
    refine r_iload_n hC (q := 8) dX0_appendTail_7 rfl rfl ?_
    refine r_aload_n hC (q := 9) dX0_appendTail_8 rfl rfl ?_
    refine g_X0 hC 5 i_X0 l_27 (by decide) (q := 12) dX0_appendTail_9 hk2 rfl rfl ?_
    refine r_top (y := nI n2) hn2 ?_
    refine r_icmp_geN hC (q := 15) (t := 56) dX0_appendTail_12 rfl rfl (by omega) (by omega) (by decide) rfl (fun h12 => ?_) (fun h12 => ?_)
    · skip
      omega
    · skip
      refine r_aload_n hC (q := 16) dX0_appendTail_15 rfl rfl ?_
      refine r_aload_n hC (q := 17) dX0_appendTail_16 rfl rfl ?_
      refine g_X0 hC 0 i_X0 l_9 (by decide) (q := 20) dX0_appendTail_17 hk2 rfl rfl ?_
      refine r_iload_n hC (q := 21) dX0_appendTail_20 rfl rfl ?_
      refine r_iaN hC (q := 22) dX0_appendTail_21 (iA_b1 hk2) rfl (by omega) rfl ?_
      refine r_aload_n hC (q := 23) dX0_appendTail_22 rfl rfl ?_
      refine g_X0 hC 1 i_X0 l_15 (by decide) (q := 26) dX0_appendTail_23 hk2 rfl rfl ?_
      refine r_iload_n hC (q := 27) dX0_appendTail_26 rfl rfl ?_
      refine r_iaN hC (q := 28) dX0_appendTail_27 (iA_b2 hk2) rfl (by omega) rfl ?_
      refine r_aload_n hC (q := 29) dX0_appendTail_28 rfl rfl ?_
      refine g_X0 hC 2 i_X0 l_18 (by decide) (q := 32) dX0_appendTail_29 hk2 rfl rfl ?_
      refine r_iload_n hC (q := 33) dX0_appendTail_32 rfl rfl ?_
      refine r_iaN hC (q := 34) dX0_appendTail_33 (iA_b3 hk2) rfl (by omega) rfl ?_
      refine r_aload_n hC (q := 35) dX0_appendTail_34 rfl rfl ?_
      refine g_X0 hC 3 i_X0 l_21 (by decide) (q := 38) dX0_appendTail_35 hk2 rfl rfl ?_
      refine r_iload_n hC (q := 39) dX0_appendTail_38 rfl rfl ?_
      refine r_iaN hC (q := 40) dX0_appendTail_39 (iA_b4 hk2) rfl (by omega) rfl ?_
      refine r_aload_n hC (q := 41) dX0_appendTail_40 rfl rfl ?_
      refine g_X0 hC 4 i_X0 l_24 (by decide) (q := 44) dX0_appendTail_41 hk2 rfl rfl ?_
      refine r_iload_n hC (q := 45) dX0_appendTail_44 rfl rfl ?_
      refine r_iaN hC (q := 46) dX0_appendTail_45 (iA_b5 hk2) rfl (by omega) rfl ?_
      refine r_cVI hC (q := 49) (n := 5) (As := [_, _, _, _, _]) (fun l => c_X0_append l hk hn (by omega)) gX0_appendTail_X0_append rfl (by decide +kernel) ⟨by decide, by decide⟩ (ob_b hk) rfl rfl rfl rfl (Nat.le_of_ble_eq_true rfl) dX0_appendTail_46 rfl ?_
      rintro _ _ ⟨rfl, rfl⟩
      refine r_pop hC (q := 50) rfl dX0_appendTail_49 rfl ?_
      refine r_iincN hC (q := 53) (L' := [_, _, _, _]) (c := 1) dX0_appendTail_50 rfl rfl rfl rfl rfl ?_
      refine r_goto hC (t := 7) dX0_appendTail_53 (by decide) ?_
      exact ih (n + 1) (i + 1) _ (by omega) (by omega) (by rw [ap_far (by omega)]; exact hn2) ap_cnt hpost

set_option maxRecDepth 100000 in
set_option maxHeartbeats 4000000 in
theorem b_X0_appendTail {E : TE} {G : GG} {v : VV} {k : Nat} {k2 n n2 m : Nat} (hC : Cx E G cX0_appendTail RX0 4 wsX0_appendTail 1 26) (hR : RtV E G cX0_appendTail (fun v' => v' = apT v k k2 n n2 m)) (hk : isBk k) (hk2 : isBk k2) (hne : k ≠ k2) (hn : v k 5 = nI n) (hn2 : v k2 5 = nI n2) (h2 : n2 ≤ 10) (hm : m ≤ n2) (hnm : n + m ≤ 10) : Wv E G v 0 [some (.ref (G.1 k)), some (.ref (G.1 k2)), some (.int (nI m)), none] [] := by
  have i_X0 : ∀ w ∈ wsX00, w ∈ wsX0_appendTail := by decide +kernel
  have l_27 : lnk E RX0 27 (TX0 5) := hC.fl (by decide +kernel)
  refine r_aload_n hC (q := 1) dX0_appendTail_0 rfl rfl ?_
  refine g_X0 hC 5 i_X0 l_27 (by decide) (q := 4) dX0_appendTail_1 hk2 rfl rfl ?_
  refine r_top (y := nI n2) hn2 ?_
  refine r_iload_n hC (q := 5) dX0_appendTail_4 rfl rfl ?_
  refine r_isubN hC (q := 6) dX0_appendTail_5 rfl rfl (by omega) rfl ?_
  refine r_istore_n hC (q := 7) (L' := [_, _, _, _]) dX0_appendTail_6 (Nat.le_of_ble_eq_true rfl) rfl rfl ?_
  exact lp_X0_appendTail hC hR hk hk2 hne h2 m n (n2 - m) v (by omega) hnm hn2 hn rfl
theorem c_X0_appendTail (l : Launch) {G : GG} {v : VV} {k : Nat} {k2 n n2 m : Nat} (hk : isBk k) (hk2 : isBk k2) (hne : k ≠ k2) (hn : v k 5 = nI n) (hn2 : v k2 5 = nI n2) (h2 : n2 ≤ 10) (hm : m ≤ n2) (hnm : n + m ≤ 10) : MtV l G yX0_appendTail wsX0_appendTail 1 26 [.ref (G.1 k), .ref (G.1 k2), .int (nI m)] v (fun v' => v' = apT v k k2 n n2 m) := mt_void (by decide) rfl (by simp [Value.category]) (Nat.le_of_ble_eq_true rfl) rfl rfl (fun E hC hR => b_X0_appendTail hC hR hk hk2 hne hn hn2 h2 hm hnm)

set_option maxRecDepth 100000 in
set_option maxHeartbeats 4000000 in
theorem b_X0_copyFrom {E : TE} {G : GG} {v : VV} {k : Nat} {k2 n2 : Nat} (hC : Cx E G cX0_copyFrom RX0 2 wsX0_copyFrom 2 49) (hR : RtV E G cX0_copyFrom (fun v' => v' = apT (u2 v k 5 0) k k2 0 n2 n2)) (hk : isBk k) (hk2 : isBk k2) (hne : k ≠ k2) (hn2 : v k2 5 = nI n2) (h2 : n2 ≤ 10) : Wv E G v 0 [some (.ref (G.1 k)), some (.ref (G.1 k2))] [] := by
  have i_X0 : ∀ w ∈ wsX00, w ∈ wsX0_copyFrom := by decide +kernel
  have l_27 : lnk E RX0 27 (TX0 5) := hC.fl (by decide +kernel)
  refine r_aload_n hC (q := 1) dX0_copyFrom_0 rfl rfl ?_
  refine r_iconst hC (x := 0) (q := 2) dX0_copyFrom_1 (by decide) rfl ?_
  refine p_X0_5 hC i_X0 l_27 (q := 5) dX0_copyFrom_2 hk rfl ?_
  refine r_aload_n hC (q := 6) dX0_copyFrom_5 rfl rfl ?_
  refine r_aload_n hC (q := 7) dX0_copyFrom_6 rfl rfl ?_
  refine r_aload_n hC (q := 8) dX0_copyFrom_7 rfl rfl ?_
  refine g_X0 hC 5 i_X0 l_27 (by decide) (q := 11) dX0_copyFrom_8 hk2 rfl rfl ?_
  refine r_top (y := nI n2) (by rw [va_up_ne _ _ hne.symm]; exact hn2) ?_
  refine r_cVV hC (q := 14) (n := 2) (As := [_, _]) (fun l => c_X0_appendTail l hk hk2 hne (n := 0) (n2 := n2) (by simp [va_up, upd]; rfl) (by rw [va_up_ne _ _ hne.symm]; exact hn2) h2 (Nat.le_refl _) (by omega)) gX0_copyFrom_X0_appendTail rfl (by decide +kernel) ⟨by decide, by decide⟩ (ob_b hk) rfl rfl rfl rfl (Nat.le_of_ble_eq_true rfl) dX0_copyFrom_11 rfl ?_
  rintro _ rfl
  exact hR _ _ _ dX0_copyFrom_14 rfl
theorem c_X0_copyFrom (l : Launch) {G : GG} {v : VV} {k : Nat} {k2 n2 : Nat} (hk : isBk k) (hk2 : isBk k2) (hne : k ≠ k2) (hn2 : v k2 5 = nI n2) (h2 : n2 ≤ 10) : MtV l G yX0_copyFrom wsX0_copyFrom 2 49 [.ref (G.1 k), .ref (G.1 k2)] v (fun v' => v' = apT (u2 v k 5 0) k k2 0 n2 n2) := mt_void (by decide) rfl (by simp [Value.category]) (Nat.le_of_ble_eq_true rfl) rfl rfl (fun E hC hR => b_X0_copyFrom hC hR hk hk2 hne hn2 h2)

def unF (k k2 n n2 : Nat) : Nat → Nat → VV → VV
  | 0, _, v => v
  | f + 1, b, v => unF k k2 n n2 f (b + 1) (u2 v (k + 5) (n - b) (v (k + 5) (n - b) ||| v (k2 + 5) (n2 - b)))

set_option maxRecDepth 100000 in
set_option maxHeartbeats 4000000 in
theorem lp_X0_uniteLines {E : TE} {G : GG} {k k2 n n2 m : Nat} {post : VV → Prop} (hC : Cx E G cX0_uniteLines RX0 4 wsX0_uniteLines 0 0) (hR : RtV E G cX0_uniteLines post) (hk : isBk k) (hk2 : isBk k2) (hne : k ≠ k2) (h1 : n ≤ 10) (h2 : n2 ≤ 10) (hm1 : m ≤ n) (hm2 : m ≤ n2) : ∀ (f b : Nat) (v : VV), b + f = m + 1 → 1 ≤ b → v k 5 = nI n → v k2 5 = nI n2 → post (unF k k2 n n2 f b v) → Wv E G v 2 [some (.ref (G.1 k)), some (.ref (G.1 k2)), some (.int (nI m)), some (.int (nI b))] [] := by
  have hs := isBk_sep hk hk2 hne
  intro f
  induction f with
  | zero =>
    intro b v hbf hb1 hn hn2 hpost
    refine r_iload_n hC (q := 3) dX0_uniteLines_2 rfl rfl ?_
    refine r_iload_n hC (q := 4) dX0_uniteLines_3 rfl rfl ?_
    refine r_icmp_gtN hC (q := 7) (t := 38) dX0_uniteLines_4 rfl rfl (by omega) (by omega) (by decide) rfl (fun h4 => ?_) (fun h4 => ?_)
    · skip
      exact hR _ _ _ dX0_uniteLines_38 hpost
    · skip
      omega
  | succ f ih =>
    intro b v hbf hb1 hn hn2 hpost
    have i_X0 : ∀ w ∈ wsX00, w ∈ wsX0_uniteLines := by decide +kernel
    have l_24 : lnk E RX0 24 (TX0 4) := hC.fl (by decide +kernel)
    have l_27 : lnk E RX0 27 (TX0 5) := hC.fl (by decide +kernel)
    refine r_iload_n hC (q := 3) dX0_uniteLines_2 rfl rfl ?_
    refine r_iload_n hC (q := 4) dX0_uniteLines_3 rfl rfl ?_
    refine r_icmp_gtN hC (q := 7) (t := 38) dX0_uniteLines_4 rfl rfl (by omega) (by omega) (by decide) rfl (fun h4 => ?_) (fun h4 => ?_)
    · skip
      omega
    · skip
      refine r_aload_n hC (q := 8) dX0_uniteLines_7 rfl rfl ?_
      refine g_X0 hC 4 i_X0 l_24 (by decide) (q := 11) dX0_uniteLines_8 hk rfl rfl ?_
      refine r_aload_n hC (q := 12) dX0_uniteLines_11 rfl rfl ?_
      refine g_X0 hC 5 i_X0 l_27 (by decide) (q := 15) dX0_uniteLines_12 hk rfl rfl ?_
      refine r_top (y := nI n) hn ?_
      refine r_iload_n hC (q := 16) dX0_uniteLines_15 rfl rfl ?_
      refine r_isubN hC (q := 17) dX0_uniteLines_16 rfl rfl (by omega) rfl ?_
      refine r_dup2 hC (q := 18) rfl rfl dX0_uniteLines_17 rfl ?_
      refine r_iaN hC (q := 19) dX0_uniteLines_18 (iA_b5 hk) rfl (by omega) rfl ?_
      refine r_aload_n hC (q := 20) dX0_uniteLines_19 rfl rfl ?_
      refine g_X0 hC 4 i_X0 l_24 (by decide) (q := 23) dX0_uniteLines_20 hk2 rfl rfl ?_
      refine r_aload_n hC (q := 24) dX0_uniteLines_23 rfl rfl ?_
      refine g_X0 hC 5 i_X0 l_27 (by decide) (q := 27) dX0_uniteLines_24 hk2 rfl rfl ?_
      refine r_top (y := nI n2) hn2 ?_
      refine r_iload_n hC (q := 28) dX0_uniteLines_27 rfl rfl ?_
      refine r_isubN hC (q := 29) dX0_uniteLines_28 rfl rfl (by omega) rfl ?_
      refine r_iaN hC (q := 30) dX0_uniteLines_29 (iA_b5 hk2) rfl (by omega) rfl ?_
      refine r_ior hC (q := 31) dX0_uniteLines_30 rfl ?_
      refine r_isN hC (q := 32) dX0_uniteLines_31 (iA_b5 hk) rfl (by omega) rfl ?_
      refine r_iincN hC (q := 35) (L' := [_, _, _, _]) (c := 1) dX0_uniteLines_32 rfl rfl rfl rfl rfl ?_
      refine r_goto hC (t := 2) dX0_uniteLines_35 (by decide) ?_
      exact ih (b + 1) _ (by omega) (by omega) (by rw [va_up_ne _ _ (by omega)]; exact hn) (by rw [va_up_ne _ _ (by omega)]; exact hn2) hpost

set_option maxRecDepth 100000 in
set_option maxHeartbeats 4000000 in
theorem b_X0_uniteLines {E : TE} {G : GG} {v : VV} {k : Nat} {k2 n n2 m : Nat} (hC : Cx E G cX0_uniteLines RX0 4 wsX0_uniteLines 0 0) (hR : RtV E G cX0_uniteLines (fun v' => v' = unF k k2 n n2 m 1 v)) (hk : isBk k) (hk2 : isBk k2) (hne : k ≠ k2) (hn : v k 5 = nI n) (hn2 : v k2 5 = nI n2) (h1 : n ≤ 10) (h2 : n2 ≤ 10) (hm1 : m ≤ n) (hm2 : m ≤ n2) : Wv E G v 0 [some (.ref (G.1 k)), some (.ref (G.1 k2)), some (.int (nI m)), none] [] := by
  refine r_iconst hC (x := 1) (q := 1) dX0_uniteLines_0 (by decide) rfl ?_
  refine r_istore_n hC (q := 2) (L' := [_, _, _, _]) dX0_uniteLines_1 (Nat.le_of_ble_eq_true rfl) rfl rfl ?_
  exact lp_X0_uniteLines hC hR hk hk2 hne h1 h2 hm1 hm2 m 1 v (by omega) (by omega) hn hn2 rfl
theorem c_X0_uniteLines (l : Launch) {G : GG} {v : VV} {k : Nat} {k2 n n2 m : Nat} (hk : isBk k) (hk2 : isBk k2) (hne : k ≠ k2) (hn : v k 5 = nI n) (hn2 : v k2 5 = nI n2) (h1 : n ≤ 10) (h2 : n2 ≤ 10) (hm1 : m ≤ n) (hm2 : m ≤ n2) : MtV l G yX0_uniteLines wsX0_uniteLines 0 0 [.ref (G.1 k), .ref (G.1 k2), .int (nI m)] v (fun v' => v' = unF k k2 n n2 m 1 v) := mt_void (by decide) rfl (by simp [Value.category]) (Nat.le_of_ble_eq_true rfl) rfl rfl (fun E hC hR => b_X0_uniteLines hC hR hk hk2 hne hn hn2 h1 h2 hm1 hm2)

def rpJ (v : VV) (k n m : Nat) (t : Int32) : VV := tm (u2 v k 5 (nI (n - m))) k 0 t 0 0
def rpP (v : VV) (k n m b : Nat) (t : Int32) : VV := ap (rpJ v k n m t) k (n - m) 0 7 (v (k + 3) (n - b)) 0 (v (k + 5) (n - b))
def tkP (v : VV) (k n b : Nat) : VV := u2 (u2 v (k + 1) (n - b) 1) (k + 3) (n - b) 7

set_option maxRecDepth 100000 in
set_option maxHeartbeats 4000000 in
theorem b_X0_replaceTailByJump {E : TE} {G : GG} {v : VV} {k : Nat} {n m : Nat} {t : Int32} (hC : Cx E G cX0_replaceTailByJump RX0 3 wsX0_replaceTailByJump 1 25) (hR : RtV E G cX0_replaceTailByJump (fun v' => v' = rpJ v k n m t)) (hk : isBk k) (hn : v k 5 = nI n) (hm : m ≤ n) : Wv E G v 0 [some (.ref (G.1 k)), some (.int (nI m)), some (.int t)] [] := by
  have i_X0 : ∀ w ∈ wsX00, w ∈ wsX0_replaceTailByJump := by decide +kernel
  have l_27 : lnk E RX0 27 (TX0 5) := hC.fl (by decide +kernel)
  refine r_aload_n hC (q := 1) dX0_replaceTailByJump_0 rfl rfl ?_
  refine r_dup hC (q := 2) rfl dX0_replaceTailByJump_1 rfl ?_
  refine g_X0 hC 5 i_X0 l_27 (by decide) (q := 5) dX0_replaceTailByJump_2 hk rfl rfl ?_
  refine r_top (y := nI n) hn ?_
  refine r_iload_n hC (q := 6) dX0_replaceTailByJump_5 rfl rfl ?_
  refine r_isubN hC (q := 7) dX0_replaceTailByJump_6 rfl rfl (by omega) rfl ?_
  refine p_X0_5 hC i_X0 l_27 (q := 10) dX0_replaceTailByJump_7 hk rfl ?_
  refine r_aload_n hC (q := 11) dX0_replaceTailByJump_10 rfl rfl ?_
  refine r_iconst hC (x := 0) (q := 12) dX0_replaceTailByJump_11 (by decide) rfl ?_
  refine r_iload_n hC (q := 13) dX0_replaceTailByJump_12 rfl rfl ?_
  refine r_iconst hC (x := 0) (q := 14) dX0_replaceTailByJump_13 (by decide) rfl ?_
  refine r_iconst hC (x := 0) (q := 15) dX0_replaceTailByJump_14 (by decide) rfl ?_
  refine r_cVI hC (q := 18) (n := 4) (As := [_, _, _, _]) (fun l => c_X0_terminate l hk) gX0_replaceTailByJump_X0_terminate rfl (by decide +kernel) ⟨by decide, by decide⟩ (ob_b hk) rfl rfl rfl rfl (Nat.le_of_ble_eq_true rfl) dX0_replaceTailByJump_15 rfl ?_
  rintro _ _ ⟨rfl, rfl⟩
  refine r_pop hC (q := 19) rfl dX0_replaceTailByJump_18 rfl ?_
  exact hR _ _ _ dX0_replaceTailByJump_19 rfl
theorem c_X0_replaceTailByJump (l : Launch) {G : GG} {v : VV} {k : Nat} {n m : Nat} {t : Int32} (hk : isBk k) (hn : v k 5 = nI n) (hm : m ≤ n) : MtV l G yX0_replaceTailByJump wsX0_replaceTailByJump 1 25 [.ref (G.1 k), .int (nI m), .int t] v (fun v' => v' = rpJ v k n m t) := mt_void (by decide) rfl (by simp [Value.category]) (Nat.le_of_ble_eq_true rfl) rfl rfl (fun E hC hR => b_X0_replaceTailByJump hC hR hk hn hm)

set_option maxRecDepth 100000 in
set_option maxHeartbeats 4000000 in
theorem b_X0_replaceTailByParameter {E : TE} {G : GG} {v : VV} {k : Nat} {n m b : Nat} {t : Int32} (hC : Cx E G cX0_replaceTailByParameter RX0 6 wsX0_replaceTailByParameter 2 47) (hR : RtV E G cX0_replaceTailByParameter (fun v' => v' = rpP v k n m b t)) (hk : isBk k) (hn : v k 5 = nI n) (h1 : n ≤ 10) (hm : m ≤ n) (hb : b ≤ m) (hb1 : 1 ≤ b) : Wv E G v 0 [some (.ref (G.1 k)), some (.int (nI m)), some (.int (nI b)), some (.int t), none, none] [] := by
  have i_X0 : ∀ w ∈ wsX00, w ∈ wsX0_replaceTailByParameter := by decide +kernel
  have l_18 : lnk E RX0 18 (TX0 2) := hC.fl (by decide +kernel)
  have l_24 : lnk E RX0 24 (TX0 4) := hC.fl (by decide +kernel)
  have l_27 : lnk E RX0 27 (TX0 5) := hC.fl (by decide +kernel)
  refine r_aload_n hC (q := 1) dX0_replaceTailByParameter_0 rfl rfl ?_
  refine g_X0 hC 2 i_X0 l_18 (by decide) (q := 4) dX0_replaceTailByParameter_1 hk rfl rfl ?_
  refine r_aload_n hC (q := 5) dX0_replaceTailByParameter_4 rfl rfl ?_
  refine g_X0 hC 5 i_X0 l_27 (by decide) (q := 8) dX0_replaceTailByParameter_5 hk rfl rfl ?_
  refine r_top (y := nI n) hn ?_
  refine r_iload_n hC (q := 9) dX0_replaceTailByParameter_8 rfl rfl ?_
  refine r_isubN hC (q := 10) dX0_replaceTailByParameter_9 rfl rfl (by omega) rfl ?_
  refine r_iaN hC (q := 11) dX0_replaceTailByParameter_10 (iA_b3 hk) rfl (by omega) rfl ?_
  refine r_istore hC (q := 13) (L' := [_, _, _, _, _, _]) dX0_replaceTailByParameter_11 (Nat.le_of_ble_eq_true rfl) rfl rfl ?_
  refine r_aload_n hC (q := 14) dX0_replaceTailByParameter_13 rfl rfl ?_
  refine g_X0 hC 4 i_X0 l_24 (by decide) (q := 17) dX0_replaceTailByParameter_14 hk rfl rfl ?_
  refine r_aload_n hC (q := 18) dX0_replaceTailByParameter_17 rfl rfl ?_
  refine g_X0 hC 5 i_X0 l_27 (by decide) (q := 21) dX0_replaceTailByParameter_18 hk rfl rfl ?_
  refine r_top (y := nI n) hn ?_
  refine r_iload_n hC (q := 22) dX0_replaceTailByParameter_21 rfl rfl ?_
  refine r_isubN hC (q := 23) dX0_replaceTailByParameter_22 rfl rfl (by omega) rfl ?_
  refine r_iaN hC (q := 24) dX0_replaceTailByParameter_23 (iA_b5 hk) rfl (by omega) rfl ?_
  refine r_istore hC (q := 26) (L' := [_, _, _, _, _, _]) dX0_replaceTailByParameter_24 (Nat.le_of_ble_eq_true rfl) rfl rfl ?_
  refine r_aload_n hC (q := 27) dX0_replaceTailByParameter_26 rfl rfl ?_
  refine r_iload_n hC (q := 28) dX0_replaceTailByParameter_27 rfl rfl ?_
  refine r_iload_n hC (q := 29) dX0_replaceTailByParameter_28 rfl rfl ?_
  refine r_cVV hC (q := 32) (n := 2) (As := [_, _]) (fun l => c_X0_replaceTailByJump l hk hn hm) gX0_replaceTailByParameter_X0_replaceTailByJump rfl (by decide +kernel) ⟨by decide, by decide⟩ (ob_b hk) rfl rfl rfl rfl (Nat.le_of_ble_eq_true rfl) dX0_replaceTailByParameter_29 rfl ?_
  rintro _ rfl
  refine r_aload_n hC (q := 33) dX0_replaceTailByParameter_32 rfl rfl ?_
  refine r_iconst hC (x := 0) (q := 34) dX0_replaceTailByParameter_33 (by decide) rfl ?_
  refine r_bipush hC (x := 7) (q := 36) dX0_replaceTailByParameter_34 (by decide) rfl ?_
  refine r_iload hC (q := 38) dX0_replaceTailByParameter_36 rfl rfl ?_
  refine r_iconst hC (x := 0) (q := 39) dX0_replaceTailByParameter_38 (by decide) rfl ?_
  refine r_iload hC (q := 41) dX0_replaceTailByParameter_39 rfl rfl ?_
  refine r_cVI hC (q := 44) (n := 5) (As := [_, _, _, _, _]) (fun l => c_X0_append l hk (n := n - m) (by simp [rpJ, tm, va_up, upd]) (by omega)) gX0_replaceTailByParameter_X0_append rfl (by decide +kernel) ⟨by decide, by decide⟩ (ob_b hk) rfl rfl rfl rfl (Nat.le_of_ble_eq_true rfl) dX0_replaceTailByParameter_41 rfl ?_
  rintro _ _ ⟨rfl, rfl⟩
  refine r_pop hC (q := 45) rfl dX0_replaceTailByParameter_44 rfl ?_
  exact hR _ _ _ dX0_replaceTailByParameter_45 rfl
theorem c_X0_replaceTailByParameter (l : Launch) {G : GG} {v : VV} {k : Nat} {n m b : Nat} {t : Int32} (hk : isBk k) (hn : v k 5 = nI n) (h1 : n ≤ 10) (hm : m ≤ n) (hb : b ≤ m) (hb1 : 1 ≤ b) : MtV l G yX0_replaceTailByParameter wsX0_replaceTailByParameter 2 47 [.ref (G.1 k), .int (nI m), .int (nI b), .int t] v (fun v' => v' = rpP v k n m b t) := mt_void (by decide) rfl (by simp [Value.category]) (Nat.le_of_ble_eq_true rfl) rfl rfl (fun E hC hR => b_X0_replaceTailByParameter hC hR hk hn h1 hm hb hb1)

set_option maxRecDepth 100000 in
set_option maxHeartbeats 4000000 in
theorem b_X0_takeParameterAt {E : TE} {G : GG} {v : VV} {k : Nat} {n b : Nat} (hC : Cx E G cX0_takeParameterAt RX0 2 wsX0_takeParameterAt 0 0) (hR : RtV E G cX0_takeParameterAt (fun v' => v' = tkP v k n b)) (hk : isBk k) (hn : v k 5 = nI n) (h1 : n ≤ 10) (hb : b ≤ n) (hb1 : 1 ≤ b) : Wv E G v 0 [some (.ref (G.1 k)), some (.int (nI b))] [] := by
  have i_X0 : ∀ w ∈ wsX00, w ∈ wsX0_takeParameterAt := by decide +kernel
  have l_9 : lnk E RX0 9 (TX0 0) := hC.fl (by decide +kernel)
  have l_18 : lnk E RX0 18 (TX0 2) := hC.fl (by decide +kernel)
  have l_27 : lnk E RX0 27 (TX0 5) := hC.fl (by decide +kernel)
  refine r_aload_n hC (q := 1) dX0_takeParameterAt_0 rfl rfl ?_
  refine g_X0 hC 0 i_X0 l_9 (by decide) (q := 4) dX0_takeParameterAt_1 hk rfl rfl ?_
  refine r_aload_n hC (q := 5) dX0_takeParameterAt_4 rfl rfl ?_
  refine g_X0 hC 5 i_X0 l_27 (by decide) (q := 8) dX0_takeParameterAt_5 hk rfl rfl ?_
  refine r_top (y := nI n) hn ?_
  refine r_iload_n hC (q := 9) dX0_takeParameterAt_8 rfl rfl ?_
  refine r_isubN hC (q := 10) dX0_takeParameterAt_9 rfl rfl (by omega) rfl ?_
  refine r_iconst hC (x := 1) (q := 11) dX0_takeParameterAt_10 (by decide) rfl ?_
  refine r_isN hC (q := 12) dX0_takeParameterAt_11 (iA_b1 hk) rfl (by omega) rfl ?_
  refine r_aload_n hC (q := 13) dX0_takeParameterAt_12 rfl rfl ?_
  refine g_X0 hC 2 i_X0 l_18 (by decide) (q := 16) dX0_takeParameterAt_13 hk rfl rfl ?_
  refine r_aload_n hC (q := 17) dX0_takeParameterAt_16 rfl rfl ?_
  refine g_X0 hC 5 i_X0 l_27 (by decide) (q := 20) dX0_takeParameterAt_17 hk rfl rfl ?_
  refine r_top (y := nI n) (by rw [va_up_ne _ _ (by omega)]; exact hn) ?_
  refine r_iload_n hC (q := 21) dX0_takeParameterAt_20 rfl rfl ?_
  refine r_isubN hC (q := 22) dX0_takeParameterAt_21 rfl rfl (by omega) rfl ?_
  refine r_bipush hC (x := 7) (q := 24) dX0_takeParameterAt_22 (by decide) rfl ?_
  refine r_isN hC (q := 25) dX0_takeParameterAt_24 (iA_b3 hk) rfl (by omega) rfl ?_
  exact hR _ _ _ dX0_takeParameterAt_25 rfl
theorem c_X0_takeParameterAt (l : Launch) {G : GG} {v : VV} {k : Nat} {n b : Nat} (hk : isBk k) (hn : v k 5 = nI n) (h1 : n ≤ 10) (hb : b ≤ n) (hb1 : 1 ≤ b) : MtV l G yX0_takeParameterAt wsX0_takeParameterAt 0 0 [.ref (G.1 k), .int (nI b)] v (fun v' => v' = tkP v k n b) := mt_void (by decide) rfl (by simp [Value.category]) (Nat.le_of_ble_eq_true rfl) rfl rfl (fun E hC hR => b_X0_takeParameterAt hC hR hk hn h1 hb hb1)
