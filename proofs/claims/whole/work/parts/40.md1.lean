/-! the reference: one array; a block as it is read there -/
def mnb (g : Nat → Int32) (b : Nat) : Nat := (g (10 + 55 * b)).toNatClampNeg
def mw (g : Nat → Int32) (b : Nat) : Bv := (mnb g b, fun f i => g (10 + 55 * b + 1 + 5 * i + f), fun j => g (10 + 55 * b + 51 + j))
def MW (g : Nat → Int32) (c : Nat) : Prop := g 0 = nI c ∧ c ≤ 12 ∧ ∀ b, b < c → g (10 + 55 * b) = nI (mnb g b) ∧ mnb g b ≤ 10
def inR (x lo1 hi1 : Int32) : Bool := decide (¬ x < lo1 ∧ ¬ hi1 < x)
theorem inR_iff {x a b : Int32} : inR x a b = true ↔ (¬ x < a ∧ ¬ b < x) := decide_eq_true_iff
theorem inR_of {x b : Int32} {c : Nat} (h : b.toInt = (c : Int) - 1) (hc : c < 2 ^ 31) : inR x 0 b = inb x c := by
  unfold inR inb
  have e : (b < x) ↔ (nI c ≤ x) := by
    rw [Int32.lt_iff_toInt_lt, Int32.le_iff_toInt_le, h, nI_toInt hc]
    omega
  simp only [e]
theorem inR_c {x : Int32} {c : Nat} (hc : c ≤ 12) : inR x 0 (nI c - 1) = inb x c := by
  refine inR_of ?_ (by omega)
  have : ∀ c, c < 13 → (nI c - 1).toInt = (c : Int) - 1 := by decide +kernel
  exact this c (by omega)
theorem inR_n {x : Int32} {n : Nat} (hn : n + 1 < 2 ^ 31) : inR x 0 (nI n) = inb x (n + 1) := by
  refine inR_of ?_ hn
  rw [nI_toInt (by omega)]
  omega

set_option maxRecDepth 100000 in
set_option maxHeartbeats 4000000 in
theorem b_X4_in {E : TE} {G : GG} {v : VV} {x y z : Int32} (hC : Cx E G cX4_in RX4 3 wsX4_in 0 0) (hR : RtI E G cX4_in (fun r v' => r = bI (inR x y z) ∧ v = v'))  : Wv E G v 0 [some (.int x), some (.int y), some (.int z)] [] := by
  refine r_iload_n hC (q := 1) dX4_in_0 rfl rfl ?_
  refine r_iload_n hC (q := 2) dX4_in_1 rfl rfl ?_
  refine r_icmp_lt hC (q := 5) (t := 14) dX4_in_2 (by decide) rfl (fun h2 => ?_) (fun h2 => ?_)
  · skip
    refine r_iconst hC (x := 0) (q := 15) dX4_in_14 (by decide) rfl ?_
    exact hR _ _ _ _ dX4_in_15 ⟨by first | exact bI_t inR_iff ⟨h2, h7⟩ | exact bI_f inR_iff (fun e => e.1 h2) | exact bI_f inR_iff (fun e => e.2 h7), rfl⟩
  · skip
    refine r_iload_n hC (q := 6) dX4_in_5 rfl rfl ?_
    refine r_iload_n hC (q := 7) dX4_in_6 rfl rfl ?_
    refine r_icmp_gt hC (q := 10) (t := 14) dX4_in_7 (by decide) rfl (fun h7 => ?_) (fun h7 => ?_)
    · skip
      refine r_iconst hC (x := 0) (q := 15) dX4_in_14 (by decide) rfl ?_
      exact hR _ _ _ _ dX4_in_15 ⟨by first | exact bI_t inR_iff ⟨h2, h7⟩ | exact bI_f inR_iff (fun e => e.1 h2) | exact bI_f inR_iff (fun e => e.2 h7), rfl⟩
    · skip
      refine r_iconst hC (x := 1) (q := 11) dX4_in_10 (by decide) rfl ?_
      refine r_goto hC (t := 15) dX4_in_11 (by decide) ?_
      exact hR _ _ _ _ dX4_in_15 ⟨by first | exact bI_t inR_iff ⟨h2, h7⟩ | exact bI_f inR_iff (fun e => e.1 h2) | exact bI_f inR_iff (fun e => e.2 h7), rfl⟩
theorem c_X4_in (l : Launch) {G : GG} {v : VV} {x y z : Int32}  : MtI l G yX4_in wsX4_in 0 0 [.int x, .int y, .int z] v (fun r v' => r = bI (inR x y z) ∧ v = v') := mt_int (Or.inr ⟨rfl, fun r v' h => by rw [h.1]; exact ite01 _⟩) (by decide) rfl (by simp [Value.category]) (Nat.le_of_ble_eq_true rfl) rfl rfl (fun E hC hR => b_X4_in hC hR )

set_option maxRecDepth 100000 in
set_option maxHeartbeats 4000000 in
theorem b_X4_isBlock {E : TE} {G : GG} {v : VV} {c : Nat} {x : Int32} (hC : Cx E G cX4_isBlock RX4 2 wsX4_isBlock 1 22) (hR : RtI E G cX4_isBlock (fun r v' => r = bI (inb x c) ∧ v = v')) (hM : MW (v 271) c) : Wv E G v 0 [some (.ref (G.1 270)), some (.int x)] [] := by
  have i_X4 : ∀ w ∈ wsX40, w ∈ wsX4_isBlock := by decide +kernel
  have l_7 : lnk E RX4 7 (TX4 0) := hC.fl (by decide +kernel)
  refine r_iload_n hC (q := 1) dX4_isBlock_0 rfl rfl ?_
  refine r_iconst hC (x := 0) (q := 2) dX4_isBlock_1 (by decide) rfl ?_
  refine r_aload_n hC (q := 3) dX4_isBlock_2 rfl rfl ?_
  refine g_X4 hC 0 i_X4 l_7 (by decide) (q := 6) dX4_isBlock_3 rfl rfl ?_
  refine r_iconst hC (x := 0) (q := 7) dX4_isBlock_6 (by decide) rfl ?_
  refine r_iaN hC (q := 8) (i := 0) dX4_isBlock_7 iA_271 rfl (by omega) rfl ?_
  refine r_top (y := nI c) hM.1 ?_
  refine r_iconst hC (x := 1) (q := 9) dX4_isBlock_8 (by decide) rfl ?_
  refine r_isub hC (q := 10) dX4_isBlock_9 rfl ?_
  refine r_cSI hC (q := 13) (n := 3) (As := [_, _, _]) (fun lch => c_X4_in lch ) gX4_isBlock_X4_in rfl (by decide +kernel) ⟨by decide, by decide⟩ rfl rfl rfl (Nat.le_of_ble_eq_true rfl) dX4_isBlock_10 rfl ?_
  rintro _ _ ⟨rfl, rfl⟩
  exact hR _ _ _ _ dX4_isBlock_13 ⟨by rw [inR_c hM.2.1], rfl⟩
theorem c_X4_isBlock (l : Launch) {G : GG} {v : VV} {c : Nat} {x : Int32} (hM : MW (v 271) c) : MtI l G yX4_isBlock wsX4_isBlock 1 22 [.ref (G.1 270), .int x] v (fun r v' => r = bI (inb x c) ∧ v = v') := mt_int (Or.inr ⟨rfl, fun r v' h => by rw [h.1]; exact ite01 _⟩) (by decide) rfl (by simp [Value.category]) (Nat.le_of_ble_eq_true rfl) rfl rfl (fun E hC hR => b_X4_isBlock hC hR hM)

set_option maxRecDepth 100000 in
set_option maxHeartbeats 4000000 in
theorem b_X4_base {E : TE} {G : GG} {v : VV} {b : Nat} (hC : Cx E G cX4_base RX4 1 wsX4_base 0 0) (hR : RtI E G cX4_base (fun r v' => r = nI (10 + 55 * b) ∧ v = v'))  : Wv E G v 0 [some (.int (nI b))] [] := by
  refine r_bipush hC (x := 10) (q := 2) dX4_base_0 (by decide) rfl ?_
  refine r_bipush hC (x := 55) (q := 4) dX4_base_2 (by decide) rfl ?_
  refine r_iload_n hC (q := 5) dX4_base_4 rfl rfl ?_
  refine r_imulN hC (q := 6) (a := 55) dX4_base_5 rfl rfl rfl ?_
  refine r_iaddN hC (q := 7) (a := 10) dX4_base_6 rfl rfl rfl ?_
  exact hR _ _ _ _ dX4_base_7 ⟨rfl, rfl⟩
theorem c_X4_base (l : Launch) {G : GG} {v : VV} {b : Nat}  : MtI l G yX4_base wsX4_base 0 0 [.int (nI b)] v (fun r v' => r = nI (10 + 55 * b) ∧ v = v') := mt_int (Or.inl rfl) (by decide) rfl (by simp [Value.category]) (Nat.le_of_ble_eq_true rfl) rfl rfl (fun E hC hR => b_X4_base hC hR )

set_option maxRecDepth 100000 in
set_option maxHeartbeats 4000000 in
theorem b_X4_at {E : TE} {G : GG} {v : VV} {b i : Nat} (hC : Cx E G cX4_at RX4 2 wsX4_at 1 20) (hR : RtI E G cX4_at (fun r v' => r = nI (10 + 55 * b + 1 + 5 * i) ∧ v = v'))  : Wv E G v 0 [some (.int (nI b)), some (.int (nI i))] [] := by
  refine r_iload_n hC (q := 1) dX4_at_0 rfl rfl ?_
  refine r_cSI hC (q := 4) (n := 1) (As := [_]) (fun lch => c_X4_base lch ) gX4_at_X4_base rfl (by decide +kernel) ⟨by decide, by decide⟩ rfl rfl rfl (Nat.le_of_ble_eq_true rfl) dX4_at_1 rfl ?_
  rintro _ _ ⟨rfl, rfl⟩
  refine r_iconst hC (x := 1) (q := 5) dX4_at_4 (by decide) rfl ?_
  refine r_iaddN hC (q := 6) (b := 1) dX4_at_5 rfl rfl rfl ?_
  refine r_iconst hC (x := 5) (q := 7) dX4_at_6 (by decide) rfl ?_
  refine r_iload_n hC (q := 8) dX4_at_7 rfl rfl ?_
  refine r_imulN hC (q := 9) (a := 5) dX4_at_8 rfl rfl rfl ?_
  refine r_iaddN hC (q := 10) dX4_at_9 rfl rfl rfl ?_
  exact hR _ _ _ _ dX4_at_10 ⟨rfl, rfl⟩
theorem c_X4_at (l : Launch) {G : GG} {v : VV} {b i : Nat}  : MtI l G yX4_at wsX4_at 1 20 [.int (nI b), .int (nI i)] v (fun r v' => r = nI (10 + 55 * b + 1 + 5 * i) ∧ v = v') := mt_int (Or.inl rfl) (by decide) rfl (by simp [Value.category]) (Nat.le_of_ble_eq_true rfl) rfl rfl (fun E hC hR => b_X4_at hC hR )

set_option maxRecDepth 100000 in
set_option maxHeartbeats 4000000 in
theorem b_X4_end {E : TE} {G : GG} {v : VV} {b : Nat} (hC : Cx E G cX4_end RX4 1 wsX4_end 1 20) (hR : RtI E G cX4_end (fun r v' => r = nI (10 + 55 * b + 51) ∧ v = v'))  : Wv E G v 0 [some (.int (nI b))] [] := by
  refine r_iload_n hC (q := 1) dX4_end_0 rfl rfl ?_
  refine r_cSI hC (q := 4) (n := 1) (As := [_]) (fun lch => c_X4_base lch ) gX4_end_X4_base rfl (by decide +kernel) ⟨by decide, by decide⟩ rfl rfl rfl (Nat.le_of_ble_eq_true rfl) dX4_end_1 rfl ?_
  rintro _ _ ⟨rfl, rfl⟩
  refine r_bipush hC (x := 51) (q := 6) dX4_end_4 (by decide) rfl ?_
  refine r_iaddN hC (q := 7) (b := 51) dX4_end_6 rfl rfl rfl ?_
  exact hR _ _ _ _ dX4_end_7 ⟨rfl, rfl⟩
theorem c_X4_end (l : Launch) {G : GG} {v : VV} {b : Nat}  : MtI l G yX4_end wsX4_end 1 20 [.int (nI b)] v (fun r v' => r = nI (10 + 55 * b + 51) ∧ v = v') := mt_int (Or.inl rfl) (by decide) rfl (by simp [Value.category]) (Nat.le_of_ble_eq_true rfl) rfl rfl (fun E hC hR => b_X4_end hC hR )

set_option maxRecDepth 100000 in
set_option maxHeartbeats 4000000 in
theorem b_X4_many {E : TE} {G : GG} {v : VV} {b : Nat} (hC : Cx E G cX4_many RX4 2 wsX4_many 1 20) (hR : RtI E G cX4_many (fun r v' => r = v 271 (10 + 55 * b) ∧ v = v')) (hb : b < 12) : Wv E G v 0 [some (.ref (G.1 270)), some (.int (nI b))] [] := by
  have i_X4 : ∀ w ∈ wsX40, w ∈ wsX4_many := by decide +kernel
  have l_7 : lnk E RX4 7 (TX4 0) := hC.fl (by decide +kernel)
  refine r_aload_n hC (q := 1) dX4_many_0 rfl rfl ?_
  refine g_X4 hC 0 i_X4 l_7 (by decide) (q := 4) dX4_many_1 rfl rfl ?_
  refine r_iload_n hC (q := 5) dX4_many_4 rfl rfl ?_
  refine r_cSI hC (q := 8) (n := 1) (As := [_]) (fun lch => c_X4_base lch ) gX4_many_X4_base rfl (by decide +kernel) ⟨by decide, by decide⟩ rfl rfl rfl (Nat.le_of_ble_eq_true rfl) dX4_many_5 rfl ?_
  rintro _ _ ⟨rfl, rfl⟩
  refine r_iaN hC (q := 9) dX4_many_8 iA_271 rfl (by omega) rfl ?_
  exact hR _ _ _ _ dX4_many_9 ⟨rfl, rfl⟩
theorem c_X4_many (l : Launch) {G : GG} {v : VV} {b : Nat} (hb : b < 12) : MtI l G yX4_many wsX4_many 1 20 [.ref (G.1 270), .int (nI b)] v (fun r v' => r = v 271 (10 + 55 * b) ∧ v = v') := mt_int (Or.inl rfl) (by decide) rfl (by simp [Value.category]) (Nat.le_of_ble_eq_true rfl) rfl rfl (fun E hC hR => b_X4_many hC hR hb)

def mtm (v : VV) (b : Nat) (k x y z : Int32) : VV := u2 (u2 (u2 (u2 v 271 (10 + 55 * b + 51) k) 271 (10 + 55 * b + 51 + 1) x) 271 (10 + 55 * b + 51 + 2) y) 271 (10 + 55 * b + 51 + 3) z
theorem u2_at {v : VV} {k j i : Nat} {x : Int32} (h : i ≠ j) : u2 v k j x k i = v k i := by simp [va_up, upd, h]
theorem vu_at {v : VV} {k j i : Nat} {x : Int32} (h : i ≠ j) : va_up v k (upd (v k) j x) k i = v k i := u2_at h
theorem u2_same {v : VV} {k j : Nat} {x : Int32} : u2 v k j x k j = x := by simp [va_up, upd]
theorem mtm_at {v : VV} {b i : Nat} {k x y z : Int32} (h : i < 10 + 55 * b + 51 ∨ 10 + 55 * b + 54 < i) : mtm v b k x y z 271 i = v 271 i := by
  unfold mtm
  rw [u2_at (by omega), u2_at (by omega), u2_at (by omega), u2_at (by omega)]
theorem mtm_ne {v : VV} {b q : Nat} {k x y z : Int32} (h : q ≠ 271) : mtm v b k x y z q = v q := by
  unfold mtm
  rw [u2_ne h, u2_ne h, u2_ne h, u2_ne h]

set_option maxRecDepth 100000 in
set_option maxHeartbeats 4000000 in
theorem b_X4_terminate {E : TE} {G : GG} {v : VV} {b : Nat} {k x y z : Int32} (hC : Cx E G cX4_terminate RX4 6 wsX4_terminate 2 40) (hR : RtV E G cX4_terminate (fun v' => v' = mtm v b k x y z)) (hb : b < 12) : Wv E G v 0 [some (.ref (G.1 270)), some (.int (nI b)), some (.int k), some (.int x), some (.int y), some (.int z)] [] := by
  have i_X4 : ∀ w ∈ wsX40, w ∈ wsX4_terminate := by decide +kernel
  have l_7 : lnk E RX4 7 (TX4 0) := hC.fl (by decide +kernel)
  refine r_aload_n hC (q := 1) dX4_terminate_0 rfl rfl ?_
  refine g_X4 hC 0 i_X4 l_7 (by decide) (q := 4) dX4_terminate_1 rfl rfl ?_
  refine r_iload_n hC (q := 5) dX4_terminate_4 rfl rfl ?_
  refine r_cSI hC (q := 8) (n := 1) (As := [_]) (fun lch => c_X4_end lch ) gX4_terminate_X4_end rfl (by decide +kernel) ⟨by decide, by decide⟩ rfl rfl rfl (Nat.le_of_ble_eq_true rfl) dX4_terminate_5 rfl ?_
  rintro _ _ ⟨rfl, rfl⟩
  refine r_iload_n hC (q := 9) dX4_terminate_8 rfl rfl ?_
  refine r_isN hC (q := 10) dX4_terminate_9 iA_271 rfl (by omega) rfl ?_
  refine r_aload_n hC (q := 11) dX4_terminate_10 rfl rfl ?_
  refine g_X4 hC 0 i_X4 l_7 (by decide) (q := 14) dX4_terminate_11 rfl rfl ?_
  refine r_iload_n hC (q := 15) dX4_terminate_14 rfl rfl ?_
  refine r_cSI hC (q := 18) (n := 1) (As := [_]) (fun lch => c_X4_end lch ) gX4_terminate_X4_end rfl (by decide +kernel) ⟨by decide, by decide⟩ rfl rfl rfl (Nat.le_of_ble_eq_true rfl) dX4_terminate_15 rfl ?_
  rintro _ _ ⟨rfl, rfl⟩
  refine r_iconst hC (x := 1) (q := 19) dX4_terminate_18 (by decide) rfl ?_
  refine r_iaddN hC (q := 20) (b := 1) dX4_terminate_19 rfl rfl rfl ?_
  refine r_iload_n hC (q := 21) dX4_terminate_20 rfl rfl ?_
  refine r_isN hC (q := 22) dX4_terminate_21 iA_271 rfl (by omega) rfl ?_
  refine r_aload_n hC (q := 23) dX4_terminate_22 rfl rfl ?_
  refine g_X4 hC 0 i_X4 l_7 (by decide) (q := 26) dX4_terminate_23 rfl rfl ?_
  refine r_iload_n hC (q := 27) dX4_terminate_26 rfl rfl ?_
  refine r_cSI hC (q := 30) (n := 1) (As := [_]) (fun lch => c_X4_end lch ) gX4_terminate_X4_end rfl (by decide +kernel) ⟨by decide, by decide⟩ rfl rfl rfl (Nat.le_of_ble_eq_true rfl) dX4_terminate_27 rfl ?_
  rintro _ _ ⟨rfl, rfl⟩
  refine r_iconst hC (x := 2) (q := 31) dX4_terminate_30 (by decide) rfl ?_
  refine r_iaddN hC (q := 32) (b := 2) dX4_terminate_31 rfl rfl rfl ?_
  refine r_iload hC (q := 34) dX4_terminate_32 rfl rfl ?_
  refine r_isN hC (q := 35) dX4_terminate_34 iA_271 rfl (by omega) rfl ?_
  refine r_aload_n hC (q := 36) dX4_terminate_35 rfl rfl ?_
  refine g_X4 hC 0 i_X4 l_7 (by decide) (q := 39) dX4_terminate_36 rfl rfl ?_
  refine r_iload_n hC (q := 40) dX4_terminate_39 rfl rfl ?_
  refine r_cSI hC (q := 43) (n := 1) (As := [_]) (fun lch => c_X4_end lch ) gX4_terminate_X4_end rfl (by decide +kernel) ⟨by decide, by decide⟩ rfl rfl rfl (Nat.le_of_ble_eq_true rfl) dX4_terminate_40 rfl ?_
  rintro _ _ ⟨rfl, rfl⟩
  refine r_iconst hC (x := 3) (q := 44) dX4_terminate_43 (by decide) rfl ?_
  refine r_iaddN hC (q := 45) (b := 3) dX4_terminate_44 rfl rfl rfl ?_
  refine r_iload hC (q := 47) dX4_terminate_45 rfl rfl ?_
  refine r_isN hC (q := 48) dX4_terminate_47 iA_271 rfl (by omega) rfl ?_
  exact hR _ _ _ dX4_terminate_48 rfl
theorem c_X4_terminate (l : Launch) {G : GG} {v : VV} {b : Nat} {k x y z : Int32} (hb : b < 12) : MtV l G yX4_terminate wsX4_terminate 2 40 [.ref (G.1 270), .int (nI b), .int k, .int x, .int y, .int z] v (fun v' => v' = mtm v b k x y z) := mt_void (by decide) rfl (by simp [Value.category]) (Nat.le_of_ble_eq_true rfl) rfl rfl (fun E hC hR => b_X4_terminate hC hR hb)

def nzF (b : Nat) : Nat → Nat → VV → VV
  | 0, _, v => v
  | f + 1, k, v => nzF b f (k + 1) (u2 v 271 (10 + 55 * b + k) 0)
theorem nzF_at {b i : Nat} : ∀ (f k : Nat) (v : VV), (i < 10 + 55 * b + k ∨ 10 + 55 * b + k + f ≤ i) → nzF b f k v 271 i = v 271 i := by
  intro f
  induction f with
  | zero => intro k v _; rfl
  | succ f ih => intro k v h; rw [nzF, ih _ _ (by omega), u2_at (by omega)]
theorem nzF_ne {b q : Nat} (h : q ≠ 271) : ∀ (f k : Nat) (v : VV), nzF b f k v q = v q := by
  intro f
  induction f with
  | zero => intro k v; rfl
  | succ f ih => intro k v; rw [nzF, ih, u2_ne h]
def mnw (v : VV) (c : Nat) : VV := u2 (mtm (nzF c 55 0 v) c 2 0 0 0) 271 0 (nI (c + 1))

set_option maxRecDepth 100000 in
set_option maxHeartbeats 4000000 in
theorem lp_X4_newBlock {E : TE} {G : GG} {c : Nat} {post : Int32 → VV → Prop} (hC : Cx E G cX4_newBlock RX4 3 wsX4_newBlock 3 65) (hR : RtI E G cX4_newBlock post) (hc : c < 12) : ∀ (f k : Nat) (v : VV), k + f = 55 → v 271 0 = nI c → post (nI c) (u2 (mtm (nzF c f k v) c 2 0 0 0) 271 0 (nI (c + 1))) → Wv E G v 9 [some (.ref (G.1 270)), some (.int (nI c)), some (.int (nI k))] [] := by
  intro f
  induction f with
  | zero =>
    intro k v hkf h0 hpost
    have i_X4 : ∀ w ∈ wsX40, w ∈ wsX4_newBlock := by decide +kernel
    have l_7 : lnk E RX4 7 (TX4 0) := hC.fl (by decide +kernel)
    refine r_iload_n hC (q := 10) dX4_newBlock_9 rfl rfl ?_
    refine r_bipush hC (x := 55) (q := 12) dX4_newBlock_10 (by decide) rfl ?_
    refine r_icmp_geN hC (q := 15) (t := 33) (b := 55) dX4_newBlock_12 rfl rfl (by omega) (by omega) (by decide) rfl (fun h12 => ?_) (fun h12 => ?_)
    · skip
      refine r_aload_n hC (q := 34) dX4_newBlock_33 rfl rfl ?_
      refine r_iload_n hC (q := 35) dX4_newBlock_34 rfl rfl ?_
      refine r_iconst hC (x := 2) (q := 36) dX4_newBlock_35 (by decide) rfl ?_
      refine r_iconst hC (x := 0) (q := 37) dX4_newBlock_36 (by decide) rfl ?_
      refine r_iconst hC (x := 0) (q := 38) dX4_newBlock_37 (by decide) rfl ?_
      refine r_iconst hC (x := 0) (q := 39) dX4_newBlock_38 (by decide) rfl ?_
      refine r_cVV hC (q := 42) (n := 5) (As := [_, _, _, _, _]) (fun lch => c_X4_terminate lch hc) gX4_newBlock_X4_terminate rfl (by decide +kernel) ⟨by decide, by decide⟩ ob_270 rfl rfl rfl rfl (Nat.le_of_ble_eq_true rfl) dX4_newBlock_39 rfl ?_
      rintro _ rfl
      refine r_aload_n hC (q := 43) dX4_newBlock_42 rfl rfl ?_
      refine g_X4 hC 0 i_X4 l_7 (by decide) (q := 46) dX4_newBlock_43 rfl rfl ?_
      refine r_iconst hC (x := 0) (q := 47) dX4_newBlock_46 (by decide) rfl ?_
      refine r_dup2 hC (q := 48) rfl rfl dX4_newBlock_47 rfl ?_
      refine r_iaN hC (q := 49) (i := 0) dX4_newBlock_48 iA_271 rfl (by omega) rfl ?_
      refine r_top (y := nI c) (by rw [mtm_at (by omega)]; exact h0) ?_
      refine r_iconst hC (x := 1) (q := 50) dX4_newBlock_49 (by decide) rfl ?_
      refine r_iaddN hC (q := 51) (b := 1) dX4_newBlock_50 rfl rfl rfl ?_
      refine r_isN hC (q := 52) (i := 0) dX4_newBlock_51 iA_271 rfl (by omega) rfl ?_
      refine r_iload_n hC (q := 53) dX4_newBlock_52 rfl rfl ?_
      exact hR _ _ _ _ dX4_newBlock_53 hpost
    · skip
      omega
  | succ f ih =>
    intro k v hkf h0 hpost
    have i_X4 : ∀ w ∈ wsX40, w ∈ wsX4_newBlock := by decide +kernel
    have l_7 : lnk E RX4 7 (TX4 0) := hC.fl (by decide +kernel)
    refine r_iload_n hC (q := 10) dX4_newBlock_9 rfl rfl ?_
    refine r_bipush hC (x := 55) (q := 12) dX4_newBlock_10 (by decide) rfl ?_
    refine r_icmp_geN hC (q := 15) (t := 33) (b := 55) dX4_newBlock_12 rfl rfl (by omega) (by omega) (by decide) rfl (fun h12 => ?_) (fun h12 => ?_)
    · skip
      omega
    · skip
      refine r_aload_n hC (q := 16) dX4_newBlock_15 rfl rfl ?_
      refine g_X4 hC 0 i_X4 l_7 (by decide) (q := 19) dX4_newBlock_16 rfl rfl ?_
      refine r_iload_n hC (q := 20) dX4_newBlock_19 rfl rfl ?_
      refine r_cSI hC (q := 23) (n := 1) (As := [_]) (fun lch => c_X4_base lch ) gX4_newBlock_X4_base rfl (by decide +kernel) ⟨by decide, by decide⟩ rfl rfl rfl (Nat.le_of_ble_eq_true rfl) dX4_newBlock_20 rfl ?_
      rintro _ _ ⟨rfl, rfl⟩
      refine r_iload_n hC (q := 24) dX4_newBlock_23 rfl rfl ?_
      refine r_iaddN hC (q := 25) dX4_newBlock_24 rfl rfl rfl ?_
      refine r_iconst hC (x := 0) (q := 26) dX4_newBlock_25 (by decide) rfl ?_
      refine r_isN hC (q := 27) dX4_newBlock_26 iA_271 rfl (by omega) rfl ?_
      refine r_iincN hC (q := 30) (L' := [_, _, _]) (c := 1) dX4_newBlock_27 rfl rfl rfl rfl rfl ?_
      refine r_goto hC (t := 9) dX4_newBlock_30 (by decide) ?_
      exact ih (k + 1) _ (by omega) (by rw [vu_at (by omega)]; exact h0) hpost

set_option maxRecDepth 100000 in
set_option maxHeartbeats 4000000 in
theorem b_X4_newBlock {E : TE} {G : GG} {v : VV} {c : Nat}  (hC : Cx E G cX4_newBlock RX4 3 wsX4_newBlock 3 65) (hR : RtI E G cX4_newBlock (fun r v' => r = nI c ∧ v' = mnw v c)) (h0 : v 271 0 = nI c) (hc : c < 12) : Wv E G v 0 [some (.ref (G.1 270)), none, none] [] := by
  have i_X4 : ∀ w ∈ wsX40, w ∈ wsX4_newBlock := by decide +kernel
  have l_7 : lnk E RX4 7 (TX4 0) := hC.fl (by decide +kernel)
  refine r_aload_n hC (q := 1) dX4_newBlock_0 rfl rfl ?_
  refine g_X4 hC 0 i_X4 l_7 (by decide) (q := 4) dX4_newBlock_1 rfl rfl ?_
  refine r_iconst hC (x := 0) (q := 5) dX4_newBlock_4 (by decide) rfl ?_
  refine r_iaN hC (q := 6) (i := 0) dX4_newBlock_5 iA_271 rfl (by omega) rfl ?_
  refine r_top (y := nI c) h0 ?_
  refine r_istore_n hC (q := 7) (L' := [_, _, _]) dX4_newBlock_6 (Nat.le_of_ble_eq_true rfl) rfl rfl ?_
  refine r_iconst hC (x := 0) (q := 8) dX4_newBlock_7 (by decide) rfl ?_
  refine r_istore_n hC (q := 9) (L' := [_, _, _]) dX4_newBlock_8 (Nat.le_of_ble_eq_true rfl) rfl rfl ?_
  exact lp_X4_newBlock hC hR hc 55 0 v (by omega) h0 ⟨rfl, rfl⟩
theorem c_X4_newBlock (l : Launch) {G : GG} {v : VV} {c : Nat}  (h0 : v 271 0 = nI c) (hc : c < 12) : MtI l G yX4_newBlock wsX4_newBlock 3 65 [.ref (G.1 270)] v (fun r v' => r = nI c ∧ v' = mnw v c) := mt_int (Or.inl rfl) (by decide) rfl (by simp [Value.category]) (Nat.le_of_ble_eq_true rfl) rfl rfl (fun E hC hR => b_X4_newBlock hC hR h0 hc)

set_option maxRecDepth 100000 in
set_option maxHeartbeats 4000000 in
theorem b_X4_addBlock {E : TE} {G : GG} {v : VV} {c : Nat}  (hC : Cx E G cX4_addBlock RX4 1 wsX4_addBlock 4 87) (hR : RtI E G cX4_addBlock (fun r v' => r = (if c < 12 then nI c else -1004) ∧ v' = (if c < 12 then mnw v c else v))) (h0 : v 271 0 = nI c) (h12 : c ≤ 12) : Wv E G v 0 [some (.ref (G.1 270))] [] := by
  have i_X4 : ∀ w ∈ wsX40, w ∈ wsX4_addBlock := by decide +kernel
  have l_7 : lnk E RX4 7 (TX4 0) := hC.fl (by decide +kernel)
  refine r_aload_n hC (q := 1) dX4_addBlock_0 rfl rfl ?_
  refine g_X4 hC 0 i_X4 l_7 (by decide) (q := 4) dX4_addBlock_1 rfl rfl ?_
  refine r_iconst hC (x := 0) (q := 5) dX4_addBlock_4 (by decide) rfl ?_
  refine r_iaN hC (q := 6) (i := 0) dX4_addBlock_5 iA_271 rfl (by omega) rfl ?_
  refine r_top (y := nI c) h0 ?_
  refine r_bipush hC (x := 12) (q := 8) dX4_addBlock_6 (by decide) rfl ?_
  refine r_icmp_neN hC (q := 11) (t := 17) (b := 12) dX4_addBlock_8 rfl rfl (by omega) (by omega) (by decide) rfl (fun h8 => ?_) (fun h8 => ?_)
  · skip
    refine r_aload_n hC (q := 18) dX4_addBlock_17 rfl rfl ?_
    refine r_cVI hC (q := 21) (n := 0) (As := []) (fun lch => c_X4_newBlock lch h0 (by omega)) gX4_addBlock_X4_newBlock rfl (by decide +kernel) ⟨by decide, by decide⟩ ob_270 rfl rfl rfl rfl (Nat.le_of_ble_eq_true rfl) dX4_addBlock_18 rfl ?_
    rintro _ _ ⟨rfl, rfl⟩
    exact hR _ _ _ _ dX4_addBlock_21 ⟨by rw [if_pos (by omega)], by rw [if_pos (by omega)]⟩
  · skip
    refine r_sipush hC (x := (-1004)) (q := 14) dX4_addBlock_11 (by decide) rfl ?_
    refine r_goto hC (t := 21) dX4_addBlock_14 (by decide) ?_
    exact hR _ _ _ _ dX4_addBlock_21 ⟨by rw [if_neg (by omega)], by rw [if_neg (by omega)]⟩
theorem c_X4_addBlock (l : Launch) {G : GG} {v : VV} {c : Nat}  (h0 : v 271 0 = nI c) (h12 : c ≤ 12) : MtI l G yX4_addBlock wsX4_addBlock 4 87 [.ref (G.1 270)] v (fun r v' => r = (if c < 12 then nI c else -1004) ∧ v' = (if c < 12 then mnw v c else v)) := mt_int (Or.inl rfl) (by decide) rfl (by simp [Value.category]) (Nat.le_of_ble_eq_true rfl) rfl rfl (fun E hC hR => b_X4_addBlock hC hR h0 h12)

theorem isG_R {x : Int32} : inR x 0 6 = isG x := inR_of (c := 7) rfl (by omega)
theorem lnF_R {x : Int32} : inR x 0 30 = lnF x := inR_of (c := 31) rfl (by omega)
theorem inR_999 {a : Int32} : inR a (-999) 999 = (decide (-999 ≤ a) && decide (a ≤ 999)) := by
  unfold inR
  have e1 : (¬ a < -999) ↔ (-999 ≤ a) := Int32.not_lt
  have e2 : (¬ 999 < a) ↔ (a ≤ 999) := Int32.not_lt
  simp only [e1, e2, Bool.decide_and]

set_option maxRecDepth 100000 in
set_option maxHeartbeats 4000000 in
theorem b_X4_isRegister {E : TE} {G : GG} {v : VV} {x : Int32} (hC : Cx E G cX4_isRegister RX4 1 wsX4_isRegister 1 22) (hR : RtI E G cX4_isRegister (fun r v' => r = bI (isG x) ∧ v = v'))  : Wv E G v 0 [some (.int x)] [] := by
  refine r_iload_n hC (q := 1) dX4_isRegister_0 rfl rfl ?_
  refine r_iconst hC (x := 0) (q := 2) dX4_isRegister_1 (by decide) rfl ?_
  refine r_bipush hC (x := 6) (q := 4) dX4_isRegister_2 (by decide) rfl ?_
  refine r_cSI hC (q := 7) (n := 3) (As := [_, _, _]) (fun lch => c_X4_in lch ) gX4_isRegister_X4_in rfl (by decide +kernel) ⟨by decide, by decide⟩ rfl rfl rfl (Nat.le_of_ble_eq_true rfl) dX4_isRegister_4 rfl ?_
  rintro _ _ ⟨rfl, rfl⟩
  exact hR _ _ _ _ dX4_isRegister_7 ⟨by rw [isG_R], rfl⟩
theorem c_X4_isRegister (l : Launch) {G : GG} {v : VV} {x : Int32}  : MtI l G yX4_isRegister wsX4_isRegister 1 22 [.int x] v (fun r v' => r = bI (isG x) ∧ v = v') := mt_int (Or.inr ⟨rfl, fun r v' h => by rw [h.1]; exact ite01 _⟩) (by decide) rfl (by simp [Value.category]) (Nat.le_of_ble_eq_true rfl) rfl rfl (fun E hC hR => b_X4_isRegister hC hR )

set_option maxRecDepth 100000 in
set_option maxHeartbeats 4000000 in
theorem b_X4_fits {E : TE} {G : GG} {v : VV} {o d a b : Int32} (hC : Cx E G cX4_fits RX4 4 wsX4_fits 2 42) (hR : RtI E G cX4_fits (fun r v' => r = bI (opF o d a b) ∧ v = v'))  : Wv E G v 0 [some (.int o), some (.int d), some (.int a), some (.int b)] [] := by
  refine r_iload_n hC (q := 1) dX4_fits_0 rfl rfl ?_
  refine r_tsw6 hC (td := 146) (t0 := 44) (t1 := 74) (t2 := 98) (t3 := 98) (t4 := 98) (t5 := 98) (t6 := 125) dX4_fits_1 (by decide) (by decide) (by decide) (by decide) (by decide) (by decide) (by decide) (by decide) (fun h1 => ?_) (fun h1 => ?_) (fun h1 => ?_) (fun h1 => ?_) (fun h1 => ?_) (fun h1 => ?_) (fun h1 => ?_) (fun h1 => ?_)
  · skip
    refine r_iconst hC (x := 0) (q := 147) dX4_fits_146 (by decide) rfl ?_
    exact hR _ _ _ _ dX4_fits_147 ⟨by obtain ⟨g0, g1, g2, g3, g4, g5, g6⟩ := sw6_ne h1; simp [opF, g0, g1, g2, g3, g4, g5, g6], rfl⟩
  · skip
    refine r_iload_n hC (q := 45) dX4_fits_44 rfl rfl ?_
    refine r_cSI hC (q := 48) (n := 1) (As := [_]) (fun lch => c_X4_isRegister lch ) gX4_fits_X4_isRegister rfl (by decide +kernel) ⟨by decide, by decide⟩ rfl rfl rfl (Nat.le_of_ble_eq_true rfl) dX4_fits_45 rfl ?_
    rintro _ _ ⟨rfl, rfl⟩
    refine r_if_eqB hC (q := 51) (t := 72) dX4_fits_48 (by decide) rfl (fun h48 => ?_) (fun h48 => ?_)
    · skip
      refine r_iconst hC (x := 0) (q := 73) dX4_fits_72 (by decide) rfl ?_
      exact hR _ _ _ _ dX4_fits_73 ⟨by simp [opF, h1, h48, *], rfl⟩
    · skip
      refine r_iload_n hC (q := 52) dX4_fits_51 rfl rfl ?_
      refine r_sipush hC (x := (-999)) (q := 55) dX4_fits_52 (by decide) rfl ?_
      refine r_sipush hC (x := 999) (q := 58) dX4_fits_55 (by decide) rfl ?_
      refine r_cSI hC (q := 61) (n := 3) (As := [_, _, _]) (fun lch => c_X4_in lch ) gX4_fits_X4_in rfl (by decide +kernel) ⟨by decide, by decide⟩ rfl rfl rfl (Nat.le_of_ble_eq_true rfl) dX4_fits_58 rfl ?_
      rintro _ _ ⟨rfl, rfl⟩
      refine r_if_eqB hC (q := 64) (t := 72) dX4_fits_61 (by decide) rfl (fun h61 => ?_) (fun h61 => ?_)
      · rw [inR_999] at h61; simp only [Bool.and_eq_true, decide_eq_true_iff, not_and] at h61
        refine r_iconst hC (x := 0) (q := 73) dX4_fits_72 (by decide) rfl ?_
        exact hR _ _ _ _ dX4_fits_73 ⟨by simp [opF, h1, h48]; intro e1 e2; exact absurd e2 (h61 e1), rfl⟩
      · rw [inR_999, Bool.and_eq_true, decide_eq_true_iff, decide_eq_true_iff] at h61
        refine r_iload_n hC (q := 65) dX4_fits_64 rfl rfl ?_
        refine r_if_ne hC (q := 68) (t := 72) dX4_fits_65 (by decide) rfl (fun h65 => ?_) (fun h65 => ?_)
        · skip
          refine r_iconst hC (x := 0) (q := 73) dX4_fits_72 (by decide) rfl ?_
          exact hR _ _ _ _ dX4_fits_73 ⟨by simp [opF, h1, h48, h61, h65, *], rfl⟩
        · skip
          refine r_iconst hC (x := 1) (q := 69) dX4_fits_68 (by decide) rfl ?_
          refine r_goto hC (t := 73) dX4_fits_69 (by decide) ?_
          exact hR _ _ _ _ dX4_fits_73 ⟨by simp [opF, h1, h48, h61, h65, *], rfl⟩
  · skip
    refine r_iload_n hC (q := 75) dX4_fits_74 rfl rfl ?_
    refine r_cSI hC (q := 78) (n := 1) (As := [_]) (fun lch => c_X4_isRegister lch ) gX4_fits_X4_isRegister rfl (by decide +kernel) ⟨by decide, by decide⟩ rfl rfl rfl (Nat.le_of_ble_eq_true rfl) dX4_fits_75 rfl ?_
    rintro _ _ ⟨rfl, rfl⟩
    refine r_if_eqB hC (q := 81) (t := 96) dX4_fits_78 (by decide) rfl (fun h78 => ?_) (fun h78 => ?_)
    · skip
      refine r_iconst hC (x := 0) (q := 97) dX4_fits_96 (by decide) rfl ?_
      exact hR _ _ _ _ dX4_fits_97 ⟨by simp [opF, h1, h78, *], rfl⟩
    · skip
      refine r_iload_n hC (q := 82) dX4_fits_81 rfl rfl ?_
      refine r_cSI hC (q := 85) (n := 1) (As := [_]) (fun lch => c_X4_isRegister lch ) gX4_fits_X4_isRegister rfl (by decide +kernel) ⟨by decide, by decide⟩ rfl rfl rfl (Nat.le_of_ble_eq_true rfl) dX4_fits_82 rfl ?_
      rintro _ _ ⟨rfl, rfl⟩
      refine r_if_eqB hC (q := 88) (t := 96) dX4_fits_85 (by decide) rfl (fun h85 => ?_) (fun h85 => ?_)
      · skip
        refine r_iconst hC (x := 0) (q := 97) dX4_fits_96 (by decide) rfl ?_
        exact hR _ _ _ _ dX4_fits_97 ⟨by simp [opF, h1, h78, h85, *], rfl⟩
      · skip
        refine r_iload_n hC (q := 89) dX4_fits_88 rfl rfl ?_
        refine r_if_ne hC (q := 92) (t := 96) dX4_fits_89 (by decide) rfl (fun h89 => ?_) (fun h89 => ?_)
        · skip
          refine r_iconst hC (x := 0) (q := 97) dX4_fits_96 (by decide) rfl ?_
          exact hR _ _ _ _ dX4_fits_97 ⟨by simp [opF, h1, h78, h85, h89, *], rfl⟩
        · skip
          refine r_iconst hC (x := 1) (q := 93) dX4_fits_92 (by decide) rfl ?_
          refine r_goto hC (t := 97) dX4_fits_93 (by decide) ?_
          exact hR _ _ _ _ dX4_fits_97 ⟨by simp [opF, h1, h78, h85, h89, *], rfl⟩
  · skip
    refine r_iload_n hC (q := 99) dX4_fits_98 rfl rfl ?_
    refine r_cSI hC (q := 102) (n := 1) (As := [_]) (fun lch => c_X4_isRegister lch ) gX4_fits_X4_isRegister rfl (by decide +kernel) ⟨by decide, by decide⟩ rfl rfl rfl (Nat.le_of_ble_eq_true rfl) dX4_fits_99 rfl ?_
    rintro _ _ ⟨rfl, rfl⟩
    refine r_if_eqB hC (q := 105) (t := 123) dX4_fits_102 (by decide) rfl (fun h102 => ?_) (fun h102 => ?_)
    · skip
      refine r_iconst hC (x := 0) (q := 124) dX4_fits_123 (by decide) rfl ?_
      exact hR _ _ _ _ dX4_fits_124 ⟨by simp [opF, h1, h102, *], rfl⟩
    · skip
      refine r_iload_n hC (q := 106) dX4_fits_105 rfl rfl ?_
      refine r_cSI hC (q := 109) (n := 1) (As := [_]) (fun lch => c_X4_isRegister lch ) gX4_fits_X4_isRegister rfl (by decide +kernel) ⟨by decide, by decide⟩ rfl rfl rfl (Nat.le_of_ble_eq_true rfl) dX4_fits_106 rfl ?_
      rintro _ _ ⟨rfl, rfl⟩
      refine r_if_eqB hC (q := 112) (t := 123) dX4_fits_109 (by decide) rfl (fun h109 => ?_) (fun h109 => ?_)
      · skip
        refine r_iconst hC (x := 0) (q := 124) dX4_fits_123 (by decide) rfl ?_
        exact hR _ _ _ _ dX4_fits_124 ⟨by simp [opF, h1, h102, h109, *], rfl⟩
      · skip
        refine r_iload_n hC (q := 113) dX4_fits_112 rfl rfl ?_
        refine r_cSI hC (q := 116) (n := 1) (As := [_]) (fun lch => c_X4_isRegister lch ) gX4_fits_X4_isRegister rfl (by decide +kernel) ⟨by decide, by decide⟩ rfl rfl rfl (Nat.le_of_ble_eq_true rfl) dX4_fits_113 rfl ?_
        rintro _ _ ⟨rfl, rfl⟩
        refine r_if_eqB hC (q := 119) (t := 123) dX4_fits_116 (by decide) rfl (fun h116 => ?_) (fun h116 => ?_)
        · skip
          refine r_iconst hC (x := 0) (q := 124) dX4_fits_123 (by decide) rfl ?_
          exact hR _ _ _ _ dX4_fits_124 ⟨by simp [opF, h1, h102, h109, h116, *], rfl⟩
        · skip
          refine r_iconst hC (x := 1) (q := 120) dX4_fits_119 (by decide) rfl ?_
          refine r_goto hC (t := 124) dX4_fits_120 (by decide) ?_
          exact hR _ _ _ _ dX4_fits_124 ⟨by simp [opF, h1, h102, h109, h116, *], rfl⟩
  · skip
    refine r_iload_n hC (q := 99) dX4_fits_98 rfl rfl ?_
    refine r_cSI hC (q := 102) (n := 1) (As := [_]) (fun lch => c_X4_isRegister lch ) gX4_fits_X4_isRegister rfl (by decide +kernel) ⟨by decide, by decide⟩ rfl rfl rfl (Nat.le_of_ble_eq_true rfl) dX4_fits_99 rfl ?_
    rintro _ _ ⟨rfl, rfl⟩
    refine r_if_eqB hC (q := 105) (t := 123) dX4_fits_102 (by decide) rfl (fun h102 => ?_) (fun h102 => ?_)
    · skip
      refine r_iconst hC (x := 0) (q := 124) dX4_fits_123 (by decide) rfl ?_
      exact hR _ _ _ _ dX4_fits_124 ⟨by simp [opF, h1, h102, *], rfl⟩
    · skip
      refine r_iload_n hC (q := 106) dX4_fits_105 rfl rfl ?_
      refine r_cSI hC (q := 109) (n := 1) (As := [_]) (fun lch => c_X4_isRegister lch ) gX4_fits_X4_isRegister rfl (by decide +kernel) ⟨by decide, by decide⟩ rfl rfl rfl (Nat.le_of_ble_eq_true rfl) dX4_fits_106 rfl ?_
      rintro _ _ ⟨rfl, rfl⟩
      refine r_if_eqB hC (q := 112) (t := 123) dX4_fits_109 (by decide) rfl (fun h109 => ?_) (fun h109 => ?_)
      · skip
        refine r_iconst hC (x := 0) (q := 124) dX4_fits_123 (by decide) rfl ?_
        exact hR _ _ _ _ dX4_fits_124 ⟨by simp [opF, h1, h102, h109, *], rfl⟩
      · skip
        refine r_iload_n hC (q := 113) dX4_fits_112 rfl rfl ?_
        refine r_cSI hC (q := 116) (n := 1) (As := [_]) (fun lch => c_X4_isRegister lch ) gX4_fits_X4_isRegister rfl (by decide +kernel) ⟨by decide, by decide⟩ rfl rfl rfl (Nat.le_of_ble_eq_true rfl) dX4_fits_113 rfl ?_
        rintro _ _ ⟨rfl, rfl⟩
        refine r_if_eqB hC (q := 119) (t := 123) dX4_fits_116 (by decide) rfl (fun h116 => ?_) (fun h116 => ?_)
        · skip
          refine r_iconst hC (x := 0) (q := 124) dX4_fits_123 (by decide) rfl ?_
          exact hR _ _ _ _ dX4_fits_124 ⟨by simp [opF, h1, h102, h109, h116, *], rfl⟩
        · skip
          refine r_iconst hC (x := 1) (q := 120) dX4_fits_119 (by decide) rfl ?_
          refine r_goto hC (t := 124) dX4_fits_120 (by decide) ?_
          exact hR _ _ _ _ dX4_fits_124 ⟨by simp [opF, h1, h102, h109, h116, *], rfl⟩
  · skip
    refine r_iload_n hC (q := 99) dX4_fits_98 rfl rfl ?_
    refine r_cSI hC (q := 102) (n := 1) (As := [_]) (fun lch => c_X4_isRegister lch ) gX4_fits_X4_isRegister rfl (by decide +kernel) ⟨by decide, by decide⟩ rfl rfl rfl (Nat.le_of_ble_eq_true rfl) dX4_fits_99 rfl ?_
    rintro _ _ ⟨rfl, rfl⟩
    refine r_if_eqB hC (q := 105) (t := 123) dX4_fits_102 (by decide) rfl (fun h102 => ?_) (fun h102 => ?_)
    · skip
      refine r_iconst hC (x := 0) (q := 124) dX4_fits_123 (by decide) rfl ?_
      exact hR _ _ _ _ dX4_fits_124 ⟨by simp [opF, h1, h102, *], rfl⟩
    · skip
      refine r_iload_n hC (q := 106) dX4_fits_105 rfl rfl ?_
      refine r_cSI hC (q := 109) (n := 1) (As := [_]) (fun lch => c_X4_isRegister lch ) gX4_fits_X4_isRegister rfl (by decide +kernel) ⟨by decide, by decide⟩ rfl rfl rfl (Nat.le_of_ble_eq_true rfl) dX4_fits_106 rfl ?_
      rintro _ _ ⟨rfl, rfl⟩
      refine r_if_eqB hC (q := 112) (t := 123) dX4_fits_109 (by decide) rfl (fun h109 => ?_) (fun h109 => ?_)
      · skip
        refine r_iconst hC (x := 0) (q := 124) dX4_fits_123 (by decide) rfl ?_
        exact hR _ _ _ _ dX4_fits_124 ⟨by simp [opF, h1, h102, h109, *], rfl⟩
      · skip
        refine r_iload_n hC (q := 113) dX4_fits_112 rfl rfl ?_
        refine r_cSI hC (q := 116) (n := 1) (As := [_]) (fun lch => c_X4_isRegister lch ) gX4_fits_X4_isRegister rfl (by decide +kernel) ⟨by decide, by decide⟩ rfl rfl rfl (Nat.le_of_ble_eq_true rfl) dX4_fits_113 rfl ?_
        rintro _ _ ⟨rfl, rfl⟩
        refine r_if_eqB hC (q := 119) (t := 123) dX4_fits_116 (by decide) rfl (fun h116 => ?_) (fun h116 => ?_)
        · skip
          refine r_iconst hC (x := 0) (q := 124) dX4_fits_123 (by decide) rfl ?_
          exact hR _ _ _ _ dX4_fits_124 ⟨by simp [opF, h1, h102, h109, h116, *], rfl⟩
        · skip
          refine r_iconst hC (x := 1) (q := 120) dX4_fits_119 (by decide) rfl ?_
          refine r_goto hC (t := 124) dX4_fits_120 (by decide) ?_
          exact hR _ _ _ _ dX4_fits_124 ⟨by simp [opF, h1, h102, h109, h116, *], rfl⟩
  · skip
    refine r_iload_n hC (q := 99) dX4_fits_98 rfl rfl ?_
    refine r_cSI hC (q := 102) (n := 1) (As := [_]) (fun lch => c_X4_isRegister lch ) gX4_fits_X4_isRegister rfl (by decide +kernel) ⟨by decide, by decide⟩ rfl rfl rfl (Nat.le_of_ble_eq_true rfl) dX4_fits_99 rfl ?_
    rintro _ _ ⟨rfl, rfl⟩
    refine r_if_eqB hC (q := 105) (t := 123) dX4_fits_102 (by decide) rfl (fun h102 => ?_) (fun h102 => ?_)
    · skip
      refine r_iconst hC (x := 0) (q := 124) dX4_fits_123 (by decide) rfl ?_
      exact hR _ _ _ _ dX4_fits_124 ⟨by simp [opF, h1, h102, *], rfl⟩
    · skip
      refine r_iload_n hC (q := 106) dX4_fits_105 rfl rfl ?_
      refine r_cSI hC (q := 109) (n := 1) (As := [_]) (fun lch => c_X4_isRegister lch ) gX4_fits_X4_isRegister rfl (by decide +kernel) ⟨by decide, by decide⟩ rfl rfl rfl (Nat.le_of_ble_eq_true rfl) dX4_fits_106 rfl ?_
      rintro _ _ ⟨rfl, rfl⟩
      refine r_if_eqB hC (q := 112) (t := 123) dX4_fits_109 (by decide) rfl (fun h109 => ?_) (fun h109 => ?_)
      · skip
        refine r_iconst hC (x := 0) (q := 124) dX4_fits_123 (by decide) rfl ?_
        exact hR _ _ _ _ dX4_fits_124 ⟨by simp [opF, h1, h102, h109, *], rfl⟩
      · skip
        refine r_iload_n hC (q := 113) dX4_fits_112 rfl rfl ?_
        refine r_cSI hC (q := 116) (n := 1) (As := [_]) (fun lch => c_X4_isRegister lch ) gX4_fits_X4_isRegister rfl (by decide +kernel) ⟨by decide, by decide⟩ rfl rfl rfl (Nat.le_of_ble_eq_true rfl) dX4_fits_113 rfl ?_
        rintro _ _ ⟨rfl, rfl⟩
        refine r_if_eqB hC (q := 119) (t := 123) dX4_fits_116 (by decide) rfl (fun h116 => ?_) (fun h116 => ?_)
        · skip
          refine r_iconst hC (x := 0) (q := 124) dX4_fits_123 (by decide) rfl ?_
          exact hR _ _ _ _ dX4_fits_124 ⟨by simp [opF, h1, h102, h109, h116, *], rfl⟩
        · skip
          refine r_iconst hC (x := 1) (q := 120) dX4_fits_119 (by decide) rfl ?_
          refine r_goto hC (t := 124) dX4_fits_120 (by decide) ?_
          exact hR _ _ _ _ dX4_fits_124 ⟨by simp [opF, h1, h102, h109, h116, *], rfl⟩
  · skip
    refine r_iload_n hC (q := 126) dX4_fits_125 rfl rfl ?_
    refine r_if_ne hC (q := 129) (t := 144) dX4_fits_126 (by decide) rfl (fun h126 => ?_) (fun h126 => ?_)
    · skip
      refine r_iconst hC (x := 0) (q := 145) dX4_fits_144 (by decide) rfl ?_
      exact hR _ _ _ _ dX4_fits_145 ⟨by simp [opF, h1, h126, *], rfl⟩
    · skip
      refine r_iload_n hC (q := 130) dX4_fits_129 rfl rfl ?_
      refine r_cSI hC (q := 133) (n := 1) (As := [_]) (fun lch => c_X4_isRegister lch ) gX4_fits_X4_isRegister rfl (by decide +kernel) ⟨by decide, by decide⟩ rfl rfl rfl (Nat.le_of_ble_eq_true rfl) dX4_fits_130 rfl ?_
      rintro _ _ ⟨rfl, rfl⟩
      refine r_if_eqB hC (q := 136) (t := 144) dX4_fits_133 (by decide) rfl (fun h133 => ?_) (fun h133 => ?_)
      · skip
        refine r_iconst hC (x := 0) (q := 145) dX4_fits_144 (by decide) rfl ?_
        exact hR _ _ _ _ dX4_fits_145 ⟨by simp [opF, h1, h126, h133, *], rfl⟩
      · skip
        refine r_iload_n hC (q := 137) dX4_fits_136 rfl rfl ?_
        refine r_if_ne hC (q := 140) (t := 144) dX4_fits_137 (by decide) rfl (fun h137 => ?_) (fun h137 => ?_)
        · skip
          refine r_iconst hC (x := 0) (q := 145) dX4_fits_144 (by decide) rfl ?_
          exact hR _ _ _ _ dX4_fits_145 ⟨by simp [opF, h1, h126, h133, h137, *], rfl⟩
        · skip
          refine r_iconst hC (x := 1) (q := 141) dX4_fits_140 (by decide) rfl ?_
          refine r_goto hC (t := 145) dX4_fits_141 (by decide) ?_
          exact hR _ _ _ _ dX4_fits_145 ⟨by simp [opF, h1, h126, h133, h137, *], rfl⟩
theorem c_X4_fits (l : Launch) {G : GG} {v : VV} {o d a b : Int32}  : MtI l G yX4_fits wsX4_fits 2 42 [.int o, .int d, .int a, .int b] v (fun r v' => r = bI (opF o d a b) ∧ v = v') := mt_int (Or.inr ⟨rfl, fun r v' h => by rw [h.1]; exact ite01 _⟩) (by decide) rfl (by simp [Value.category]) (Nat.le_of_ble_eq_true rfl) rfl rfl (fun E hC hR => b_X4_fits hC hR )

def map5 (v : VV) (b n : Nat) (o d a e l : Int32) : VV := u2 (u2 (u2 (u2 (u2 (u2 v 271 (10 + 55 * b + 1 + 5 * n) o) 271 (10 + 55 * b + 1 + 5 * n + 1) d) 271 (10 + 55 * b + 1 + 5 * n + 2) a) 271 (10 + 55 * b + 1 + 5 * n + 3) e) 271 (10 + 55 * b + 1 + 5 * n + 4) l) 271 (10 + 55 * b) (nI (n + 1))

set_option maxRecDepth 100000 in
set_option maxHeartbeats 4000000 in
theorem b_X4_append {E : TE} {G : GG} {v : VV} {b n : Nat} {o d a e w : Int32} (hC : Cx E G cX4_append RX4 8 wsX4_append 2 41) (hR : RtV E G cX4_append (fun v' => v' = map5 v b n o d a e w)) (hb : b < 12) (hn : v 271 (10 + 55 * b) = nI n) (h10 : n < 10) : Wv E G v 0 [some (.ref (G.1 270)), some (.int (nI b)), some (.int o), some (.int d), some (.int a), some (.int e), some (.int w), none] [] := by
  have i_X4 : ∀ w ∈ wsX40, w ∈ wsX4_append := by decide +kernel
  have l_7 : lnk E RX4 7 (TX4 0) := hC.fl (by decide +kernel)
  refine r_iload_n hC (q := 1) dX4_append_0 rfl rfl ?_
  refine r_aload_n hC (q := 2) dX4_append_1 rfl rfl ?_
  refine r_iload_n hC (q := 3) dX4_append_2 rfl rfl ?_
  refine r_cVI hC (q := 6) (n := 1) (As := [_]) (fun lch => c_X4_many lch hb) gX4_append_X4_many rfl (by decide +kernel) ⟨by decide, by decide⟩ ob_270 rfl rfl rfl rfl (Nat.le_of_ble_eq_true rfl) dX4_append_3 rfl ?_
  rintro _ _ ⟨rfl, rfl⟩
  refine r_top (y := nI n) hn ?_
  refine r_cSI hC (q := 9) (n := 2) (As := [_, _]) (fun lch => c_X4_at lch ) gX4_append_X4_at rfl (by decide +kernel) ⟨by decide, by decide⟩ rfl rfl rfl (Nat.le_of_ble_eq_true rfl) dX4_append_6 rfl ?_
  rintro _ _ ⟨rfl, rfl⟩
  refine r_istore hC (q := 11) (L' := [_, _, _, _, _, _, _, _]) dX4_append_9 (Nat.le_of_ble_eq_true rfl) rfl rfl ?_
  refine r_aload_n hC (q := 12) dX4_append_11 rfl rfl ?_
  refine g_X4 hC 0 i_X4 l_7 (by decide) (q := 15) dX4_append_12 rfl rfl ?_
  refine r_iload hC (q := 17) dX4_append_15 rfl rfl ?_
  refine r_iload_n hC (q := 18) dX4_append_17 rfl rfl ?_
  refine r_isN hC (q := 19) dX4_append_18 iA_271 rfl (by omega) rfl ?_
  refine r_aload_n hC (q := 20) dX4_append_19 rfl rfl ?_
  refine g_X4 hC 0 i_X4 l_7 (by decide) (q := 23) dX4_append_20 rfl rfl ?_
  refine r_iload hC (q := 25) dX4_append_23 rfl rfl ?_
  refine r_iconst hC (x := 1) (q := 26) dX4_append_25 (by decide) rfl ?_
  refine r_iaddN hC (q := 27) (b := 1) dX4_append_26 rfl rfl rfl ?_
  refine r_iload_n hC (q := 28) dX4_append_27 rfl rfl ?_
  refine r_isN hC (q := 29) dX4_append_28 iA_271 rfl (by omega) rfl ?_
  refine r_aload_n hC (q := 30) dX4_append_29 rfl rfl ?_
  refine g_X4 hC 0 i_X4 l_7 (by decide) (q := 33) dX4_append_30 rfl rfl ?_
  refine r_iload hC (q := 35) dX4_append_33 rfl rfl ?_
  refine r_iconst hC (x := 2) (q := 36) dX4_append_35 (by decide) rfl ?_
  refine r_iaddN hC (q := 37) (b := 2) dX4_append_36 rfl rfl rfl ?_
  refine r_iload hC (q := 39) dX4_append_37 rfl rfl ?_
  refine r_isN hC (q := 40) dX4_append_39 iA_271 rfl (by omega) rfl ?_
  refine r_aload_n hC (q := 41) dX4_append_40 rfl rfl ?_
  refine g_X4 hC 0 i_X4 l_7 (by decide) (q := 44) dX4_append_41 rfl rfl ?_
  refine r_iload hC (q := 46) dX4_append_44 rfl rfl ?_
  refine r_iconst hC (x := 3) (q := 47) dX4_append_46 (by decide) rfl ?_
  refine r_iaddN hC (q := 48) (b := 3) dX4_append_47 rfl rfl rfl ?_
  refine r_iload hC (q := 50) dX4_append_48 rfl rfl ?_
  refine r_isN hC (q := 51) dX4_append_50 iA_271 rfl (by omega) rfl ?_
  refine r_aload_n hC (q := 52) dX4_append_51 rfl rfl ?_
  refine g_X4 hC 0 i_X4 l_7 (by decide) (q := 55) dX4_append_52 rfl rfl ?_
  refine r_iload hC (q := 57) dX4_append_55 rfl rfl ?_
  refine r_iconst hC (x := 4) (q := 58) dX4_append_57 (by decide) rfl ?_
  refine r_iaddN hC (q := 59) (b := 4) dX4_append_58 rfl rfl rfl ?_
  refine r_iload hC (q := 61) dX4_append_59 rfl rfl ?_
  refine r_isN hC (q := 62) dX4_append_61 iA_271 rfl (by omega) rfl ?_
  refine r_aload_n hC (q := 63) dX4_append_62 rfl rfl ?_
  refine g_X4 hC 0 i_X4 l_7 (by decide) (q := 66) dX4_append_63 rfl rfl ?_
  refine r_iload_n hC (q := 67) dX4_append_66 rfl rfl ?_
  refine r_cSI hC (q := 70) (n := 1) (As := [_]) (fun lch => c_X4_base lch ) gX4_append_X4_base rfl (by decide +kernel) ⟨by decide, by decide⟩ rfl rfl rfl (Nat.le_of_ble_eq_true rfl) dX4_append_67 rfl ?_
  rintro _ _ ⟨rfl, rfl⟩
  refine r_dup2 hC (q := 71) rfl rfl dX4_append_70 rfl ?_
  refine r_iaN hC (q := 72) dX4_append_71 iA_271 rfl (by omega) rfl ?_
  refine r_top (y := nI n) (by rw [vu_at (by omega), vu_at (by omega), vu_at (by omega), vu_at (by omega), vu_at (by omega)]; exact hn) ?_
  refine r_iconst hC (x := 1) (q := 73) dX4_append_72 (by decide) rfl ?_
  refine r_iaddN hC (q := 74) (b := 1) dX4_append_73 rfl rfl rfl ?_
  refine r_isN hC (q := 75) dX4_append_74 iA_271 rfl (by omega) rfl ?_
  exact hR _ _ _ dX4_append_75 rfl
theorem c_X4_append (l : Launch) {G : GG} {v : VV} {b n : Nat} {o d a e w : Int32} (hb : b < 12) (hn : v 271 (10 + 55 * b) = nI n) (h10 : n < 10) : MtV l G yX4_append wsX4_append 2 41 [.ref (G.1 270), .int (nI b), .int o, .int d, .int a, .int e, .int w] v (fun v' => v' = map5 v b n o d a e w) := mt_void (by decide) rfl (by simp [Value.category]) (Nat.le_of_ble_eq_true rfl) rfl rfl (fun E hC hR => b_X4_append hC hR hb hn h10)
