set_option maxRecDepth 100000 in
set_option maxHeartbeats 4000000 in
theorem lp_X4_ones {E : TE} {G : GG} {v : VV} {S : Nat} {post : Int32 → VV → Prop} (hC : Cx E G cX4_ones RX4 3 wsX4_ones 0 0) (hR : RtI E G cX4_ones post) (hS : S < 2 ^ 31) : ∀ (f b n : Nat), b + f = 12 → post (nI (popF S f b n)) v → Wv E G v 4 [some (.int (nI S)), some (.int (nI n)), some (.int (nI b))] [] := by
  intro f
  induction f with
  | zero =>
    intro b n hbf hpost
    refine r_iload_n hC (q := 5) dX4_ones_4 rfl rfl ?_
    refine r_bipush hC (x := 12) (q := 7) dX4_ones_5 (by decide) rfl ?_
    refine r_icmp_geN hC (q := 10) (t := 24) (b := 12) dX4_ones_7 rfl rfl (by omega) (by omega) (by decide) rfl (fun h7 => ?_) (fun h7 => ?_)
    · skip
      refine r_iload_n hC (q := 25) dX4_ones_24 rfl rfl ?_
      exact hR _ _ _ _ dX4_ones_25 hpost
    · skip
      omega
  | succ f ih =>
    intro b n hbf hpost
    refine r_iload_n hC (q := 5) dX4_ones_4 rfl rfl ?_
    refine r_bipush hC (x := 12) (q := 7) dX4_ones_5 (by decide) rfl ?_
    refine r_icmp_geN hC (q := 10) (t := 24) (b := 12) dX4_ones_7 rfl rfl (by omega) (by omega) (by decide) rfl (fun h7 => ?_) (fun h7 => ?_)
    · skip
      omega
    · skip
      refine r_iload_n hC (q := 11) dX4_ones_10 rfl rfl ?_
      refine r_iload_n hC (q := 12) dX4_ones_11 rfl rfl ?_
      refine r_iload_n hC (q := 13) dX4_ones_12 rfl rfl ?_
      refine r_ishr hC (q := 14) dX4_ones_13 rfl ?_
      refine r_iconst hC (x := 1) (q := 15) dX4_ones_14 (by decide) rfl ?_
      refine r_iand hC (q := 16) dX4_ones_15 rfl ?_
      refine r_top (y := nI (S / 2 ^ b % 2)) (sh_tb hS (by omega)) ?_
      refine r_iaddN hC (q := 17) dX4_ones_16 rfl rfl rfl ?_
      refine r_istore_n hC (q := 18) (L' := [_, _, _]) dX4_ones_17 (Nat.le_of_ble_eq_true rfl) rfl rfl ?_
      refine r_iincN hC (q := 21) (L' := [_, _, _]) (c := 1) dX4_ones_18 rfl rfl rfl rfl rfl ?_
      refine r_goto hC (t := 4) dX4_ones_21 (by decide) ?_
      exact ih (b + 1) _ (by omega) hpost

set_option maxRecDepth 100000 in
set_option maxHeartbeats 4000000 in
theorem b_X4_ones {E : TE} {G : GG} {v : VV} {S : Nat} (hC : Cx E G cX4_ones RX4 3 wsX4_ones 0 0) (hR : RtI E G cX4_ones (fun r v' => r = nI (pop S) ∧ v = v')) (hS : S < 2 ^ 31) : Wv E G v 0 [some (.int (nI S)), none, none] [] := by
  refine r_iconst hC (x := 0) (q := 1) dX4_ones_0 (by decide) rfl ?_
  refine r_istore_n hC (q := 2) (L' := [_, _, _]) dX4_ones_1 (Nat.le_of_ble_eq_true rfl) rfl rfl ?_
  refine r_iconst hC (x := 0) (q := 3) dX4_ones_2 (by decide) rfl ?_
  refine r_istore_n hC (q := 4) (L' := [_, _, _]) dX4_ones_3 (Nat.le_of_ble_eq_true rfl) rfl rfl ?_
  exact lp_X4_ones hC hR hS 12 0 0 rfl ⟨rfl, rfl⟩
theorem c_X4_ones (l : Launch) {G : GG} {v : VV} {S : Nat} (hS : S < 2 ^ 31) : MtI l G yX4_ones wsX4_ones 0 0 [.int (nI S)] v (fun r v' => r = nI (pop S) ∧ v = v') := mt_int (Or.inl rfl) (by decide) rfl (by simp [Value.category]) (Nat.le_of_ble_eq_true rfl) rfl rfl (fun E hC hR => b_X4_ones hC hR hS)

def lwF (S : Nat) : Nat → Nat → Nat
  | 0, b => b
  | f + 1, b => if Nat.testBit S b = true then b else lwF S f (b + 1)
def low (S : Nat) : Nat := lwF S 12 0
theorem lw_ok (S : Nat) : ∀ (f b : Nat), (∃ i, b ≤ i ∧ i < b + f ∧ Nat.testBit S i = true) → b ≤ lwF S f b ∧ lwF S f b < b + f ∧ Nat.testBit S (lwF S f b) = true ∧ ∀ i, b ≤ i → i < lwF S f b → ¬ Nat.testBit S i = true := by
  intro f
  induction f with
  | zero => intro b h; obtain ⟨i, h1, h2, -⟩ := h; omega
  | succ f ih =>
    intro b h
    unfold lwF
    by_cases hb : Nat.testBit S b = true
    · rw [if_pos hb]
      exact ⟨Nat.le_refl b, by omega, hb, fun i h1 h2 => by omega⟩
    · rw [if_neg hb]
      obtain ⟨i, h1, h2, h3⟩ := h
      have hne : i ≠ b := fun e => hb (e ▸ h3)
      obtain ⟨g1, g2, g3, g4⟩ := ih (b + 1) ⟨i, by omega, by omega, h3⟩
      refine ⟨by omega, by omega, g3, fun j hj1 hj2 => ?_⟩
      by_cases hj : j = b
      · rw [hj]; exact hb
      · exact g4 j (by omega) hj2
theorem bit_ex {S c : Nat} (h0 : 0 < S) (h : S < 2 ^ c) : ∃ i, i < c ∧ Nat.testBit S i = true := by
  obtain ⟨i, hi⟩ := Nat.exists_testBit_of_ne_zero (x := S) (by omega)
  refine ⟨i, ?_, hi⟩
  rcases Nat.lt_or_ge i c with h1 | h1
  · exact h1
  · have h2 : S < 2 ^ i := Nat.lt_of_lt_of_le h (Nat.pow_le_pow_right (by omega) h1)
    rw [Nat.testBit_lt_two_pow h2] at hi
    cases hi
theorem low_ok {S c : Nat} (h0 : 0 < S) (h : S < 2 ^ c) (hc : c ≤ 12) : low S < c ∧ Nat.testBit S (low S) = true ∧ ∀ i, i < low S → ¬ Nat.testBit S i = true := by
  obtain ⟨i, h1, h2⟩ := bit_ex h0 h
  obtain ⟨g1, g2, g3, g4⟩ := lw_ok S 12 0 ⟨i, by omega, by omega, h2⟩
  refine ⟨?_, g3, fun j hj => g4 j (by omega) hj⟩
  rcases Nat.lt_or_ge (low S) c with h3 | h3
  · exact h3
  · exact absurd h2 (g4 i (by omega) (by unfold low at h3; omega))
theorem pow12 {c : Nat} (h : c ≤ 12) : 2 ^ c ≤ 4096 := by
  have := Nat.pow_le_pow_right (show 0 < 2 by omega) h
  exact this

set_option maxRecDepth 100000 in
set_option maxHeartbeats 4000000 in
theorem lp_X4_lowest {E : TE} {G : GG} {v : VV} {S a : Nat} {post : Int32 → VV → Prop} (hC : Cx E G cX4_lowest RX4 2 wsX4_lowest 0 0) (hR : RtI E G cX4_lowest post) (hS : S < 2 ^ 31) (ha : a < 31) (h1 : Nat.testBit S a = true) (h2 : ∀ i, i < a → ¬ Nat.testBit S i = true) (hpost : post (nI a) v) : ∀ (f b : Nat), b + f = a → Wv E G v 2 [some (.int (nI S)), some (.int (nI b))] [] := by
  intro f
  induction f with
  | zero =>
    intro b hbf
    have hba : b = a := by omega
    subst hba
    have e1 := tb_iff.mp h1
    refine r_iload_n hC (q := 3) dX4_lowest_2 rfl rfl ?_
    refine r_iload_n hC (q := 4) dX4_lowest_3 rfl rfl ?_
    refine r_ishr hC (q := 5) dX4_lowest_4 rfl ?_
    refine r_iconst hC (x := 1) (q := 6) dX4_lowest_5 (by decide) rfl ?_
    refine r_iand hC (q := 7) dX4_lowest_6 rfl ?_
    refine r_top (y := nI (S / 2 ^ b % 2)) (sh_tb hS (by omega)) ?_
    refine r_if_ne hC (q := 10) (t := 16) dX4_lowest_7 (by decide) rfl (fun h7 => ?_) (fun h7 => ?_)
    · skip
      refine r_iload_n hC (q := 17) dX4_lowest_16 rfl rfl ?_
      exact hR _ _ _ _ dX4_lowest_17 hpost
    · skip
      rw [e1] at h7; exact absurd h7 (by decide)
  | succ f ih =>
    intro b hbf
    have e1 : S / 2 ^ b % 2 = 0 := by
      have := mt tb_iff.mpr (h2 b (by omega))
      omega
    refine r_iload_n hC (q := 3) dX4_lowest_2 rfl rfl ?_
    refine r_iload_n hC (q := 4) dX4_lowest_3 rfl rfl ?_
    refine r_ishr hC (q := 5) dX4_lowest_4 rfl ?_
    refine r_iconst hC (x := 1) (q := 6) dX4_lowest_5 (by decide) rfl ?_
    refine r_iand hC (q := 7) dX4_lowest_6 rfl ?_
    refine r_top (y := nI (S / 2 ^ b % 2)) (sh_tb hS (by omega)) ?_
    refine r_if_ne hC (q := 10) (t := 16) dX4_lowest_7 (by decide) rfl (fun h7 => ?_) (fun h7 => ?_)
    · skip
      rw [e1] at h7; exact absurd rfl h7
    · skip
      refine r_iincN hC (q := 13) (L' := [_, _]) (c := 1) dX4_lowest_10 rfl rfl rfl rfl rfl ?_
      refine r_goto hC (t := 2) dX4_lowest_13 (by decide) ?_
      exact ih (b + 1) (by omega)

set_option maxRecDepth 100000 in
set_option maxHeartbeats 4000000 in
theorem b_X4_lowest {E : TE} {G : GG} {v : VV} {S c : Nat} (hC : Cx E G cX4_lowest RX4 2 wsX4_lowest 0 0) (hR : RtI E G cX4_lowest (fun r v' => r = nI (low S) ∧ v = v')) (h0 : 0 < S) (hSc : S < 2 ^ c) (hc : c ≤ 12) : Wv E G v 0 [some (.int (nI S)), none] [] := by
  have hL := low_ok h0 hSc hc
  have hp := pow12 hc
  refine r_iconst hC (x := 0) (q := 1) dX4_lowest_0 (by decide) rfl ?_
  refine r_istore_n hC (q := 2) (L' := [_, _]) dX4_lowest_1 (Nat.le_of_ble_eq_true rfl) rfl rfl ?_
  exact lp_X4_lowest hC hR (by omega) (a := low S) (by omega) hL.2.1 hL.2.2 ⟨rfl, rfl⟩ (low S) 0 (Nat.zero_add _)
theorem c_X4_lowest (l : Launch) {G : GG} {v : VV} {S c : Nat} (h0 : 0 < S) (hSc : S < 2 ^ c) (hc : c ≤ 12) : MtI l G yX4_lowest wsX4_lowest 0 0 [.int (nI S)] v (fun r v' => r = nI (low S) ∧ v = v') := mt_int (Or.inl rfl) (by decide) rfl (by simp [Value.category]) (Nat.le_of_ble_eq_true rfl) rfl rfl (fun E hC hR => b_X4_lowest hC hR h0 hSc hc)

def tfF (g : Nat → Int32) (S a : Nat) : Nat → Nat → Int32 → Int32
  | 0, _, x => x
  | f + 1, b, x => tfF g S a f (b + 1) (if Nat.testBit S b = true then (if x ≤ tl (mw g a) (mw g b) then x else tl (mw g a) (mw g b)) else x)
def tfN (x : Int32) : Int32 := if 0 ≤ x then x else -1005
def tfR (g : Nat → Int32) (c S : Nat) : Int32 := tfN (tfF g S (low S) (c - (low S + 1)) (low S + 1) 10)

set_option maxRecDepth 100000 in
set_option maxHeartbeats 4000000 in
theorem lp_X4_tailOf {E : TE} {G : GG} {v : VV} {c S a : Nat} {post : Int32 → VV → Prop} (hC : Cx E G cX4_tailOf RX4 6 wsX4_tailOf 4 91) (hR : RtI E G cX4_tailOf post) (hM : MW (v 271) c) (ha : a < c) (hS : S < 2 ^ 31) : ∀ (f b : Nat) (x : Int32), b + f = c → post (tfN (tfF (v 271) S a f b x)) v → Wv E G v 13 [some (.ref (G.1 270)), some (.int (nI S)), some (.int (nI a)), some (.int x), some (.int (nI b)), none] [] := by
  have h12 := hM.2.1
  intro f
  induction f with
  | zero =>
    intro b x hbf hpost
    have i_X4 : ∀ w ∈ wsX40, w ∈ wsX4_tailOf := by decide +kernel
    have l_7 : lnk E RX4 7 (TX4 0) := hC.fl (by decide +kernel)
    refine r_iload hC (q := 15) dX4_tailOf_13 rfl rfl ?_
    refine r_aload_n hC (q := 16) dX4_tailOf_15 rfl rfl ?_
    refine g_X4 hC 0 i_X4 l_7 (by decide) (q := 19) dX4_tailOf_16 rfl rfl ?_
    refine r_iconst hC (x := 0) (q := 20) dX4_tailOf_19 (by decide) rfl ?_
    refine r_iaN hC (q := 21) (i := 0) dX4_tailOf_20 iA_271 rfl (by omega) rfl ?_
    refine r_top (y := nI c) hM.1 ?_
    refine r_icmp_geN hC (q := 24) (t := 62) dX4_tailOf_21 rfl rfl (by omega) (by omega) (by decide) rfl (fun h21 => ?_) (fun h21 => ?_)
    · skip
      refine r_iload_n hC (q := 63) dX4_tailOf_62 rfl rfl ?_
      refine r_if_ge hC (q := 66) (t := 72) dX4_tailOf_63 (by decide) rfl (fun h63 => ?_) (fun h63 => ?_)
      · skip
        refine r_iload_n hC (q := 73) dX4_tailOf_72 rfl rfl ?_
        exact hR _ _ _ _ dX4_tailOf_73 (by rw [tfF, tfN, if_pos h63] at hpost; exact hpost)
      · skip
        refine r_sipush hC (x := (-1005)) (q := 69) dX4_tailOf_66 (by decide) rfl ?_
        refine r_goto hC (t := 73) dX4_tailOf_69 (by decide) ?_
        exact hR _ _ _ _ dX4_tailOf_73 (by rw [tfF, tfN, if_neg h63] at hpost; exact hpost)
    · skip
      omega
  | succ f ih =>
    intro b x hbf hpost
    have i_X4 : ∀ w ∈ wsX40, w ∈ wsX4_tailOf := by decide +kernel
    have l_7 : lnk E RX4 7 (TX4 0) := hC.fl (by decide +kernel)
    refine r_iload hC (q := 15) dX4_tailOf_13 rfl rfl ?_
    refine r_aload_n hC (q := 16) dX4_tailOf_15 rfl rfl ?_
    refine g_X4 hC 0 i_X4 l_7 (by decide) (q := 19) dX4_tailOf_16 rfl rfl ?_
    refine r_iconst hC (x := 0) (q := 20) dX4_tailOf_19 (by decide) rfl ?_
    refine r_iaN hC (q := 21) (i := 0) dX4_tailOf_20 iA_271 rfl (by omega) rfl ?_
    refine r_top (y := nI c) hM.1 ?_
    refine r_icmp_geN hC (q := 24) (t := 62) dX4_tailOf_21 rfl rfl (by omega) (by omega) (by decide) rfl (fun h21 => ?_) (fun h21 => ?_)
    · skip
      omega
    · skip
      refine r_iload_n hC (q := 25) dX4_tailOf_24 rfl rfl ?_
      refine r_iload hC (q := 27) dX4_tailOf_25 rfl rfl ?_
      refine r_ishr hC (q := 28) dX4_tailOf_27 rfl ?_
      refine r_iconst hC (x := 1) (q := 29) dX4_tailOf_28 (by decide) rfl ?_
      refine r_iand hC (q := 30) dX4_tailOf_29 rfl ?_
      refine r_top (y := nI (S / 2 ^ b % 2)) (sh_tb hS (by omega)) ?_
      refine r_iconst hC (x := 1) (q := 31) dX4_tailOf_30 (by decide) rfl ?_
      refine r_icmp_neN hC (q := 34) (t := 56) (b := 1) dX4_tailOf_31 rfl rfl (by omega) (by omega) (by decide) rfl (fun h31 => ?_) (fun h31 => ?_)
      · skip
        refine r_iincN hC (q := 59) (L' := [_, _, _, _, _, _]) (c := 1) dX4_tailOf_56 rfl rfl rfl rfl rfl ?_
        refine r_goto hC (t := 13) dX4_tailOf_59 (by decide) ?_
        rw [tfF, if_neg (fun e => h31 (tb_iff.mp e))] at hpost
        exact r_weak (ih (b + 1) _ (by omega) hpost) ⟨Or.inr rfl, Or.inr rfl, Or.inr rfl, Or.inr rfl, Or.inr rfl, Or.inl rfl, trivial⟩
      · skip
        refine r_aload_n hC (q := 35) dX4_tailOf_34 rfl rfl ?_
        refine r_iload_n hC (q := 36) dX4_tailOf_35 rfl rfl ?_
        refine r_iload hC (q := 38) dX4_tailOf_36 rfl rfl ?_
        refine r_cVI hC (q := 41) (n := 2) (As := [_, _]) (fun lch => c_X4_tailOfTwo lch hM ha (by omega)) gX4_tailOf_X4_tailOfTwo rfl (by decide +kernel) ⟨by decide, by decide⟩ ob_270 rfl rfl rfl rfl (Nat.le_of_ble_eq_true rfl) dX4_tailOf_38 rfl ?_
        rintro _ _ ⟨rfl, rfl⟩
        refine r_istore hC (q := 43) (L' := [_, _, _, _, _, _]) dX4_tailOf_41 (Nat.le_of_ble_eq_true rfl) rfl rfl ?_
        refine r_iload hC (q := 45) dX4_tailOf_43 rfl rfl ?_
        refine r_iload_n hC (q := 46) dX4_tailOf_45 rfl rfl ?_
        refine r_icmp_ge hC (q := 49) (t := 54) dX4_tailOf_46 (by decide) rfl (fun h46 => ?_) (fun h46 => ?_)
        · skip
          refine r_iload_n hC (q := 55) dX4_tailOf_54 rfl rfl ?_
          refine r_istore_n hC (q := 56) (L' := [_, _, _, _, _, _]) dX4_tailOf_55 (Nat.le_of_ble_eq_true rfl) rfl rfl ?_
          refine r_iincN hC (q := 59) (L' := [_, _, _, _, _, _]) (c := 1) dX4_tailOf_56 rfl rfl rfl rfl rfl ?_
          refine r_goto hC (t := 13) dX4_tailOf_59 (by decide) ?_
          rw [tfF, if_pos (tb_iff.mpr h31), if_pos h46] at hpost
          exact r_weak (ih (b + 1) _ (by omega) hpost) ⟨Or.inr rfl, Or.inr rfl, Or.inr rfl, Or.inr rfl, Or.inr rfl, Or.inl rfl, trivial⟩
        · skip
          refine r_iload hC (q := 51) dX4_tailOf_49 rfl rfl ?_
          refine r_goto hC (t := 55) dX4_tailOf_51 (by decide) ?_
          refine r_istore_n hC (q := 56) (L' := [_, _, _, _, _, _]) dX4_tailOf_55 (Nat.le_of_ble_eq_true rfl) rfl rfl ?_
          refine r_iincN hC (q := 59) (L' := [_, _, _, _, _, _]) (c := 1) dX4_tailOf_56 rfl rfl rfl rfl rfl ?_
          refine r_goto hC (t := 13) dX4_tailOf_59 (by decide) ?_
          rw [tfF, if_pos (tb_iff.mpr h31), if_neg h46] at hpost
          exact r_weak (ih (b + 1) _ (by omega) hpost) ⟨Or.inr rfl, Or.inr rfl, Or.inr rfl, Or.inr rfl, Or.inr rfl, Or.inl rfl, trivial⟩

set_option maxRecDepth 100000 in
set_option maxHeartbeats 4000000 in
theorem b_X4_tailOf {E : TE} {G : GG} {v : VV} {c : Nat} {S : Nat} (hC : Cx E G cX4_tailOf RX4 6 wsX4_tailOf 4 91) (hR : RtI E G cX4_tailOf (fun r v' => r = tfR (v 271) c S ∧ v = v')) (hM : MW (v 271) c) (h0 : 0 < S) (hSc : S < 2 ^ c) : Wv E G v 0 [some (.ref (G.1 270)), some (.int (nI S)), none, none, none, none] [] := by
  have h12 := hM.2.1
  have hp := pow12 h12
  have hL := low_ok h0 hSc h12
  refine r_iload_n hC (q := 1) dX4_tailOf_0 rfl rfl ?_
  refine r_cSI hC (q := 4) (n := 1) (As := [_]) (fun lch => c_X4_lowest lch (c := c) h0 hSc h12) gX4_tailOf_X4_lowest rfl (by decide +kernel) ⟨by decide, by decide⟩ rfl rfl rfl (Nat.le_of_ble_eq_true rfl) dX4_tailOf_1 rfl ?_
  rintro _ _ ⟨rfl, rfl⟩
  refine r_istore_n hC (q := 5) (L' := [_, _, _, _, _, _]) dX4_tailOf_4 (Nat.le_of_ble_eq_true rfl) rfl rfl ?_
  refine r_bipush hC (x := 10) (q := 7) dX4_tailOf_5 (by decide) rfl ?_
  refine r_istore_n hC (q := 8) (L' := [_, _, _, _, _, _]) dX4_tailOf_7 (Nat.le_of_ble_eq_true rfl) rfl rfl ?_
  refine r_iload_n hC (q := 9) dX4_tailOf_8 rfl rfl ?_
  refine r_iconst hC (x := 1) (q := 10) dX4_tailOf_9 (by decide) rfl ?_
  refine r_iaddN hC (q := 11) (b := 1) dX4_tailOf_10 rfl rfl rfl ?_
  refine r_istore hC (q := 13) (L' := [_, _, _, _, _, _]) dX4_tailOf_11 (Nat.le_of_ble_eq_true rfl) rfl rfl ?_
  exact lp_X4_tailOf hC hR hM hL.1 (by omega) (c - (low S + 1)) (low S + 1) 10 (by omega) ⟨rfl, rfl⟩
theorem c_X4_tailOf (l : Launch) {G : GG} {v : VV} {c : Nat} {S : Nat} (hM : MW (v 271) c) (h0 : 0 < S) (hSc : S < 2 ^ c) : MtI l G yX4_tailOf wsX4_tailOf 4 91 [.ref (G.1 270), .int (nI S)] v (fun r v' => r = tfR (v 271) c S ∧ v = v') := mt_int (Or.inl rfl) (by decide) rfl (by simp [Value.category]) (Nat.le_of_ble_eq_true rfl) rfl rfl (fun E hC hR => b_X4_tailOf hC hR hM h0 hSc)

theorem pop_le0 : ∀ S, S < 1024 → pop S ≤ 12 ∧ pop (1024 + S) ≤ 12 ∧ pop (2048 + S) ≤ 12 ∧ pop (3072 + S) ≤ 12 := by decide +kernel
theorem popF_le (S : Nat) : ∀ (f b n : Nat), popF S f b n ≤ n + f := by
  intro f
  induction f with
  | zero => intro b n; exact Nat.le_refl n
  | succ f ih =>
    intro b n
    have h1 := ih (b + 1) (n + S / 2 ^ b % 2)
    have h2 : S / 2 ^ b % 2 < 2 := Nat.mod_lt _ (by omega)
    unfold popF
    omega
theorem pop_le (S : Nat) : pop S ≤ 12 := by
  have := popF_le S 12 0 0
  unfold pop
  omega
theorem pop_0 {S : Nat} (h : 1 ≤ pop S) : 0 < S := by
  rcases Nat.eq_zero_or_pos S with h1 | h1
  · rw [h1] at h; exact absurd h (by decide)
  · exact h1
def svg (g : Nat → Int32) (c S : Nat) : Int32 := sv (nI (pop S)) (tfR g c S) (tcm g (low S)) (g 1)
def wsR (g : Nat → Int32) (c : Nat) (x : Int32) : Int32 := if inb x (2 ^ c) = true then (if pop (tn x) < 2 then -1003 else (if 0 ≤ tfR g c (tn x) then 0 else -1005)) else -1001
theorem wsR0 {g : Nat → Int32} {c : Nat} {x : Int32} (h : wsR g c x = 0) : inb x (2 ^ c) = true ∧ 2 ≤ pop (tn x) ∧ 0 ≤ tfR g c (tn x) := by
  unfold wsR at h
  by_cases h1 : inb x (2 ^ c) = true
  · rw [if_pos h1] at h
    by_cases h2 : pop (tn x) < 2
    · rw [if_pos h2] at h; exact absurd h (by decide)
    · rw [if_neg h2] at h
      by_cases h3 : 0 ≤ tfR g c (tn x)
      · exact ⟨h1, by omega, h3⟩
      · rw [if_neg h3] at h; exact absurd h (by decide)
  · rw [if_neg h1] at h; exact absurd h (by decide)

set_option maxRecDepth 100000 in
set_option maxHeartbeats 4000000 in
theorem b_X4_wrongSet {E : TE} {G : GG} {v : VV} {c : Nat} {x : Int32} (hC : Cx E G cX4_wrongSet RX4 2 wsX4_wrongSet 5 116) (hR : RtI E G cX4_wrongSet (fun r v' => r = wsR (v 271) c x ∧ v = v')) (hM : MW (v 271) c) : Wv E G v 0 [some (.ref (G.1 270)), some (.int x)] [] := by
  have h12 := hM.2.1
  have hp := pow12 h12
  have hpl := pop_le (tn x)
  have i_X4 : ∀ w ∈ wsX40, w ∈ wsX4_wrongSet := by decide +kernel
  have l_7 : lnk E RX4 7 (TX4 0) := hC.fl (by decide +kernel)
  refine r_iload_n hC (q := 1) dX4_wrongSet_0 rfl rfl ?_
  refine r_if_lt hC (q := 4) (t := 16) dX4_wrongSet_1 (by decide) rfl (fun h1 => ?_) (fun h1 => ?_)
  · skip
    refine r_sipush hC (x := (-1001)) (q := 19) dX4_wrongSet_16 (by decide) rfl ?_
    exact hR _ _ _ _ dX4_wrongSet_19 ⟨by rw [wsR, if_neg (inb_n1 h1)], rfl⟩
  · skip
    refine r_iload_n hC (q := 5) dX4_wrongSet_4 rfl rfl ?_
    refine r_iconst hC (x := 1) (q := 6) dX4_wrongSet_5 (by decide) rfl ?_
    refine r_aload_n hC (q := 7) dX4_wrongSet_6 rfl rfl ?_
    refine g_X4 hC 0 i_X4 l_7 (by decide) (q := 10) dX4_wrongSet_7 rfl rfl ?_
    refine r_iconst hC (x := 0) (q := 11) dX4_wrongSet_10 (by decide) rfl ?_
    refine r_iaN hC (q := 12) (i := 0) dX4_wrongSet_11 iA_271 rfl (by omega) rfl ?_
    refine r_top (y := nI c) hM.1 ?_
    refine r_ishl hC (q := 13) dX4_wrongSet_12 rfl ?_
    refine r_top (y := nI (2 ^ c)) (sh_1 (by omega)) ?_
    refine r_icmp_lt hC (q := 16) (t := 20) dX4_wrongSet_13 (by decide) rfl (fun h13 => ?_) (fun h13 => ?_)
    · have hi : inb x (2 ^ c) = true := inb_lt h1 h13; obtain ⟨ex, bx⟩ := inb_tn (by omega) hi
      refine r_iload_n hC (q := 21) dX4_wrongSet_20 rfl rfl ?_
      refine r_top (y := nI (tn x)) ex ?_
      refine r_cSI hC (q := 24) (n := 1) (As := [_]) (fun lch => c_X4_ones lch (by omega)) gX4_wrongSet_X4_ones rfl (by decide +kernel) ⟨by decide, by decide⟩ rfl rfl rfl (Nat.le_of_ble_eq_true rfl) dX4_wrongSet_21 rfl ?_
      rintro _ _ ⟨rfl, rfl⟩
      refine r_iconst hC (x := 2) (q := 25) dX4_wrongSet_24 (by decide) rfl ?_
      refine r_icmp_geN hC (q := 28) (t := 34) (b := 2) dX4_wrongSet_25 rfl rfl (by omega) (by omega) (by decide) rfl (fun h25 => ?_) (fun h25 => ?_)
      · have hs0 := pop_0 (S := tn x) (by omega)
        refine r_aload_n hC (q := 35) dX4_wrongSet_34 rfl rfl ?_
        refine r_iload_n hC (q := 36) dX4_wrongSet_35 rfl rfl ?_
        refine r_top (y := nI (tn x)) ex ?_
        refine r_cVI hC (q := 39) (n := 1) (As := [_]) (fun lch => c_X4_tailOf lch hM hs0 bx) gX4_wrongSet_X4_tailOf rfl (by decide +kernel) ⟨by decide, by decide⟩ ob_270 rfl rfl rfl rfl (Nat.le_of_ble_eq_true rfl) dX4_wrongSet_36 rfl ?_
        rintro _ _ ⟨rfl, rfl⟩
        refine r_if_ge hC (q := 42) (t := 48) dX4_wrongSet_39 (by decide) rfl (fun h39 => ?_) (fun h39 => ?_)
        · skip
          refine r_iconst hC (x := 0) (q := 49) dX4_wrongSet_48 (by decide) rfl ?_
          exact hR _ _ _ _ dX4_wrongSet_49 ⟨by rw [wsR, if_pos hi, if_neg (by omega), if_pos h39], rfl⟩
        · skip
          refine r_sipush hC (x := (-1005)) (q := 45) dX4_wrongSet_42 (by decide) rfl ?_
          refine r_goto hC (t := 49) dX4_wrongSet_45 (by decide) ?_
          exact hR _ _ _ _ dX4_wrongSet_49 ⟨by rw [wsR, if_pos hi, if_neg (by omega), if_neg h39], rfl⟩
      · skip
        refine r_sipush hC (x := (-1003)) (q := 31) dX4_wrongSet_28 (by decide) rfl ?_
        refine r_goto hC (t := 49) dX4_wrongSet_31 (by decide) ?_
        exact hR _ _ _ _ dX4_wrongSet_49 ⟨by rw [wsR, if_pos hi, if_pos h25], rfl⟩
    · skip
      refine r_sipush hC (x := (-1001)) (q := 19) dX4_wrongSet_16 (by decide) rfl ?_
      exact hR _ _ _ _ dX4_wrongSet_19 ⟨by rw [wsR, if_neg (inb_n2 h13)], rfl⟩
theorem c_X4_wrongSet (l : Launch) {G : GG} {v : VV} {c : Nat} {x : Int32} (hM : MW (v 271) c) : MtI l G yX4_wrongSet wsX4_wrongSet 5 116 [.ref (G.1 270), .int x] v (fun r v' => r = wsR (v 271) c x ∧ v = v') := mt_int (Or.inl rfl) (by decide) rfl (by simp [Value.category]) (Nat.le_of_ble_eq_true rfl) rfl rfl (fun E hC hR => b_X4_wrongSet hC hR hM)

set_option maxRecDepth 100000 in
set_option maxHeartbeats 4000000 in
theorem b_X4_savingOf {E : TE} {G : GG} {v : VV} {c : Nat} {S : Nat} (hC : Cx E G cX4_savingOf RX4 3 wsX4_savingOf 5 116) (hR : RtI E G cX4_savingOf (fun r v' => r = svg (v 271) c S ∧ v = v')) (hM : MW (v 271) c) (h0 : 0 < S) (hSc : S < 2 ^ c) : Wv E G v 0 [some (.ref (G.1 270)), some (.int (nI S)), none] [] := by
  have h12 := hM.2.1
  have hp := pow12 h12
  have hL := low_ok h0 hSc h12
  have i_X4 : ∀ w ∈ wsX40, w ∈ wsX4_savingOf := by decide +kernel
  have l_7 : lnk E RX4 7 (TX4 0) := hC.fl (by decide +kernel)
  refine r_iload_n hC (q := 1) dX4_savingOf_0 rfl rfl ?_
  refine r_cSI hC (q := 4) (n := 1) (As := [_]) (fun lch => c_X4_ones lch (by omega)) gX4_savingOf_X4_ones rfl (by decide +kernel) ⟨by decide, by decide⟩ rfl rfl rfl (Nat.le_of_ble_eq_true rfl) dX4_savingOf_1 rfl ?_
  rintro _ _ ⟨rfl, rfl⟩
  refine r_istore_n hC (q := 5) (L' := [_, _, _]) dX4_savingOf_4 (Nat.le_of_ble_eq_true rfl) rfl rfl ?_
  refine r_iload_n hC (q := 6) dX4_savingOf_5 rfl rfl ?_
  refine r_iconst hC (x := 1) (q := 7) dX4_savingOf_6 (by decide) rfl ?_
  refine r_isub hC (q := 8) dX4_savingOf_7 rfl ?_
  refine r_aload_n hC (q := 9) dX4_savingOf_8 rfl rfl ?_
  refine r_iload_n hC (q := 10) dX4_savingOf_9 rfl rfl ?_
  refine r_cVI hC (q := 13) (n := 1) (As := [_]) (fun lch => c_X4_tailOf lch hM h0 hSc) gX4_savingOf_X4_tailOf rfl (by decide +kernel) ⟨by decide, by decide⟩ ob_270 rfl rfl rfl rfl (Nat.le_of_ble_eq_true rfl) dX4_savingOf_10 rfl ?_
  rintro _ _ ⟨rfl, rfl⟩
  refine r_aload_n hC (q := 14) dX4_savingOf_13 rfl rfl ?_
  refine r_iload_n hC (q := 15) dX4_savingOf_14 rfl rfl ?_
  refine r_cSI hC (q := 18) (n := 1) (As := [_]) (fun lch => c_X4_lowest lch (c := c) h0 hSc h12) gX4_savingOf_X4_lowest rfl (by decide +kernel) ⟨by decide, by decide⟩ rfl rfl rfl (Nat.le_of_ble_eq_true rfl) dX4_savingOf_15 rfl ?_
  rintro _ _ ⟨rfl, rfl⟩
  refine r_cVI hC (q := 21) (n := 1) (As := [_]) (fun lch => c_X4_costOf lch (by omega)) gX4_savingOf_X4_costOf rfl (by decide +kernel) ⟨by decide, by decide⟩ ob_270 rfl rfl rfl rfl (Nat.le_of_ble_eq_true rfl) dX4_savingOf_18 rfl ?_
  rintro _ _ ⟨rfl, rfl⟩
  refine r_iadd hC (q := 22) dX4_savingOf_21 rfl ?_
  refine r_imul hC (q := 23) dX4_savingOf_22 rfl ?_
  refine r_iload_n hC (q := 24) dX4_savingOf_23 rfl rfl ?_
  refine r_aload_n hC (q := 25) dX4_savingOf_24 rfl rfl ?_
  refine g_X4 hC 0 i_X4 l_7 (by decide) (q := 28) dX4_savingOf_25 rfl rfl ?_
  refine r_iconst hC (x := 1) (q := 29) dX4_savingOf_28 (by decide) rfl ?_
  refine r_iaN hC (q := 30) (i := 1) dX4_savingOf_29 iA_271 rfl (by omega) rfl ?_
  refine r_imul hC (q := 31) dX4_savingOf_30 rfl ?_
  refine r_isub hC (q := 32) dX4_savingOf_31 rfl ?_
  exact hR _ _ _ _ dX4_savingOf_32 ⟨rfl, rfl⟩
theorem c_X4_savingOf (l : Launch) {G : GG} {v : VV} {c : Nat} {S : Nat} (hM : MW (v 271) c) (h0 : 0 < S) (hSc : S < 2 ^ c) : MtI l G yX4_savingOf wsX4_savingOf 5 116 [.ref (G.1 270), .int (nI S)] v (fun r v' => r = svg (v 271) c S ∧ v = v') := mt_int (Or.inl rfl) (by decide) rfl (by simp [Value.category]) (Nat.le_of_ble_eq_true rfl) rfl rfl (fun E hC hR => b_X4_savingOf hC hR hM h0 hSc)

def tsR (g : Nat → Int32) (c : Nat) (x : Int32) : Int32 := if wsR g c x = 0 then svg g c (tn x) else wsR g c x

set_option maxRecDepth 100000 in
set_option maxHeartbeats 4000000 in
theorem b_X4_tailSaving {E : TE} {G : GG} {v : VV} {c : Nat} {x : Int32} (hC : Cx E G cX4_tailSaving RX4 3 wsX4_tailSaving 6 138) (hR : RtI E G cX4_tailSaving (fun r v' => r = tsR (v 271) c x ∧ v = v')) (hM : MW (v 271) c) : Wv E G v 0 [some (.ref (G.1 270)), some (.int x), none] [] := by
  have h12 := hM.2.1
  have hp := pow12 h12
  refine r_aload_n hC (q := 1) dX4_tailSaving_0 rfl rfl ?_
  refine r_iload_n hC (q := 2) dX4_tailSaving_1 rfl rfl ?_
  refine r_cVI hC (q := 5) (n := 1) (As := [_]) (fun lch => c_X4_wrongSet lch hM) gX4_tailSaving_X4_wrongSet rfl (by decide +kernel) ⟨by decide, by decide⟩ ob_270 rfl rfl rfl rfl (Nat.le_of_ble_eq_true rfl) dX4_tailSaving_2 rfl ?_
  rintro _ _ ⟨rfl, rfl⟩
  refine r_istore_n hC (q := 6) (L' := [_, _, _]) dX4_tailSaving_5 (Nat.le_of_ble_eq_true rfl) rfl rfl ?_
  refine r_iload_n hC (q := 7) dX4_tailSaving_6 rfl rfl ?_
  refine r_if_eq hC (q := 10) (t := 14) dX4_tailSaving_7 (by decide) rfl (fun h7 => ?_) (fun h7 => ?_)
  · obtain ⟨hi, hp2, ht0⟩ := wsR0 h7; obtain ⟨ex, bx⟩ := inb_tn (by omega) hi; have hs0 := pop_0 (S := tn x) (by omega)
    refine r_aload_n hC (q := 15) dX4_tailSaving_14 rfl rfl ?_
    refine r_iload_n hC (q := 16) dX4_tailSaving_15 rfl rfl ?_
    refine r_top (y := nI (tn x)) ex ?_
    refine r_cVI hC (q := 19) (n := 1) (As := [_]) (fun lch => c_X4_savingOf lch hM hs0 bx) gX4_tailSaving_X4_savingOf rfl (by decide +kernel) ⟨by decide, by decide⟩ ob_270 rfl rfl rfl rfl (Nat.le_of_ble_eq_true rfl) dX4_tailSaving_16 rfl ?_
    rintro _ _ ⟨rfl, rfl⟩
    exact hR _ _ _ _ dX4_tailSaving_19 ⟨by rw [tsR, if_pos h7], rfl⟩
  · skip
    refine r_iload_n hC (q := 11) dX4_tailSaving_10 rfl rfl ?_
    refine r_goto hC (t := 19) dX4_tailSaving_11 (by decide) ?_
    exact hR _ _ _ _ dX4_tailSaving_19 ⟨by rw [tsR, if_neg h7], rfl⟩
theorem c_X4_tailSaving (l : Launch) {G : GG} {v : VV} {c : Nat} {x : Int32} (hM : MW (v 271) c) : MtI l G yX4_tailSaving wsX4_tailSaving 6 138 [.ref (G.1 270), .int x] v (fun r v' => r = tsR (v 271) c x ∧ v = v') := mt_int (Or.inl rfl) (by decide) rfl (by simp [Value.category]) (Nat.le_of_ble_eq_true rfl) rfl rfl (fun E hC hR => b_X4_tailSaving hC hR hM)

def fbF (g : Nat → Int32) (c : Nat) : Nat → Nat → Int32 → Int32 → Int32
  | 0, _, x, _ => x
  | f + 1, S, x, y => if 1 < pop S ∧ 0 ≤ tfR g c S ∧ y < svg g c S then fbF g c f (S + 1) (nI S) (svg g c S) else fbF g c f (S + 1) x y
def fbR (g : Nat → Int32) (c : Nat) : Int32 := fbF g c (2 ^ c - 3) 3 (-1008) 0

set_option maxRecDepth 100000 in
set_option maxHeartbeats 4000000 in
theorem lp_X4_findBest {E : TE} {G : GG} {v : VV} {c : Nat} {post : Int32 → VV → Prop} (hC : Cx E G cX4_findBest RX4 4 wsX4_findBest 6 138) (hR : RtI E G cX4_findBest post) (hM : MW (v 271) c) : ∀ (f S : Nat) (x y : Int32), f = 2 ^ c - S → 3 ≤ S → S ≤ 4096 → post (fbF (v 271) c f S x y) v → Wv E G v 8 [some (.ref (G.1 270)), some (.int x), some (.int y), some (.int (nI S))] [] := by
  have h12 := hM.2.1
  have hp := pow12 h12
  intro f
  induction f with
  | zero =>
    intro S x y hf h3 h4 hpost
    have i_X4 : ∀ w ∈ wsX40, w ∈ wsX4_findBest := by decide +kernel
    have l_7 : lnk E RX4 7 (TX4 0) := hC.fl (by decide +kernel)
    refine r_iload_n hC (q := 9) dX4_findBest_8 rfl rfl ?_
    refine r_iconst hC (x := 1) (q := 10) dX4_findBest_9 (by decide) rfl ?_
    refine r_aload_n hC (q := 11) dX4_findBest_10 rfl rfl ?_
    refine g_X4 hC 0 i_X4 l_7 (by decide) (q := 14) dX4_findBest_11 rfl rfl ?_
    refine r_iconst hC (x := 0) (q := 15) dX4_findBest_14 (by decide) rfl ?_
    refine r_iaN hC (q := 16) (i := 0) dX4_findBest_15 iA_271 rfl (by omega) rfl ?_
    refine r_top (y := nI c) hM.1 ?_
    refine r_ishl hC (q := 17) dX4_findBest_16 rfl ?_
    refine r_top (y := nI (2 ^ c)) (sh_1 (by omega)) ?_
    refine r_icmp_geN hC (q := 20) (t := 59) dX4_findBest_17 rfl rfl (by omega) (by omega) (by decide) rfl (fun h17 => ?_) (fun h17 => ?_)
    · skip
      refine r_iload_n hC (q := 60) dX4_findBest_59 rfl rfl ?_
      exact hR _ _ _ _ dX4_findBest_60 hpost
    · skip
      omega
  | succ f ih =>
    intro S x y hf h3 h4 hpost
    have hpl := pop_le S
    have i_X4 : ∀ w ∈ wsX40, w ∈ wsX4_findBest := by decide +kernel
    have l_7 : lnk E RX4 7 (TX4 0) := hC.fl (by decide +kernel)
    refine r_iload_n hC (q := 9) dX4_findBest_8 rfl rfl ?_
    refine r_iconst hC (x := 1) (q := 10) dX4_findBest_9 (by decide) rfl ?_
    refine r_aload_n hC (q := 11) dX4_findBest_10 rfl rfl ?_
    refine g_X4 hC 0 i_X4 l_7 (by decide) (q := 14) dX4_findBest_11 rfl rfl ?_
    refine r_iconst hC (x := 0) (q := 15) dX4_findBest_14 (by decide) rfl ?_
    refine r_iaN hC (q := 16) (i := 0) dX4_findBest_15 iA_271 rfl (by omega) rfl ?_
    refine r_top (y := nI c) hM.1 ?_
    refine r_ishl hC (q := 17) dX4_findBest_16 rfl ?_
    refine r_top (y := nI (2 ^ c)) (sh_1 (by omega)) ?_
    refine r_icmp_geN hC (q := 20) (t := 59) dX4_findBest_17 rfl rfl (by omega) (by omega) (by decide) rfl (fun h17 => ?_) (fun h17 => ?_)
    · skip
      omega
    · skip
      refine r_iload_n hC (q := 21) dX4_findBest_20 rfl rfl ?_
      refine r_cSI hC (q := 24) (n := 1) (As := [_]) (fun lch => c_X4_ones lch (by omega)) gX4_findBest_X4_ones rfl (by decide +kernel) ⟨by decide, by decide⟩ rfl rfl rfl (Nat.le_of_ble_eq_true rfl) dX4_findBest_21 rfl ?_
      rintro _ _ ⟨rfl, rfl⟩
      refine r_iconst hC (x := 1) (q := 25) dX4_findBest_24 (by decide) rfl ?_
      refine r_icmp_leN hC (q := 28) (t := 53) (b := 1) dX4_findBest_25 rfl rfl (by omega) (by omega) (by decide) rfl (fun h25 => ?_) (fun h25 => ?_)
      · skip
        refine r_iincN hC (q := 56) (L' := [_, _, _, _]) (c := 1) dX4_findBest_53 rfl rfl rfl rfl rfl ?_
        refine r_goto hC (t := 8) dX4_findBest_56 (by decide) ?_
        rw [fbF, if_neg (fun e => by omega)] at hpost
        exact ih (S + 1) _ _ (by omega) (by omega) (by omega) hpost
      · skip
        refine r_aload_n hC (q := 29) dX4_findBest_28 rfl rfl ?_
        refine r_iload_n hC (q := 30) dX4_findBest_29 rfl rfl ?_
        refine r_cVI hC (q := 33) (n := 1) (As := [_]) (fun lch => c_X4_tailOf lch hM (by omega) (by omega)) gX4_findBest_X4_tailOf rfl (by decide +kernel) ⟨by decide, by decide⟩ ob_270 rfl rfl rfl rfl (Nat.le_of_ble_eq_true rfl) dX4_findBest_30 rfl ?_
        rintro _ _ ⟨rfl, rfl⟩
        refine r_if_lt hC (q := 36) (t := 53) dX4_findBest_33 (by decide) rfl (fun h33 => ?_) (fun h33 => ?_)
        · skip
          refine r_iincN hC (q := 56) (L' := [_, _, _, _]) (c := 1) dX4_findBest_53 rfl rfl rfl rfl rfl ?_
          refine r_goto hC (t := 8) dX4_findBest_56 (by decide) ?_
          rw [fbF, if_neg (fun e => absurd h33 (Int32.not_lt.mpr e.2.1))] at hpost
          exact ih (S + 1) _ _ (by omega) (by omega) (by omega) hpost
        · skip
          refine r_aload_n hC (q := 37) dX4_findBest_36 rfl rfl ?_
          refine r_iload_n hC (q := 38) dX4_findBest_37 rfl rfl ?_
          refine r_cVI hC (q := 41) (n := 1) (As := [_]) (fun lch => c_X4_savingOf lch hM (by omega) (by omega)) gX4_findBest_X4_savingOf rfl (by decide +kernel) ⟨by decide, by decide⟩ ob_270 rfl rfl rfl rfl (Nat.le_of_ble_eq_true rfl) dX4_findBest_38 rfl ?_
          rintro _ _ ⟨rfl, rfl⟩
          refine r_iload_n hC (q := 42) dX4_findBest_41 rfl rfl ?_
          refine r_icmp_le hC (q := 45) (t := 53) dX4_findBest_42 (by decide) rfl (fun h42 => ?_) (fun h42 => ?_)
          · skip
            refine r_iincN hC (q := 56) (L' := [_, _, _, _]) (c := 1) dX4_findBest_53 rfl rfl rfl rfl rfl ?_
            refine r_goto hC (t := 8) dX4_findBest_56 (by decide) ?_
            rw [fbF, if_neg (fun e => absurd e.2.2 (Int32.not_lt.mpr h42))] at hpost
            exact ih (S + 1) _ _ (by omega) (by omega) (by omega) hpost
          · skip
            refine r_aload_n hC (q := 46) dX4_findBest_45 rfl rfl ?_
            refine r_iload_n hC (q := 47) dX4_findBest_46 rfl rfl ?_
            refine r_cVI hC (q := 50) (n := 1) (As := [_]) (fun lch => c_X4_savingOf lch hM (by omega) (by omega)) gX4_findBest_X4_savingOf rfl (by decide +kernel) ⟨by decide, by decide⟩ ob_270 rfl rfl rfl rfl (Nat.le_of_ble_eq_true rfl) dX4_findBest_47 rfl ?_
            rintro _ _ ⟨rfl, rfl⟩
            refine r_istore_n hC (q := 51) (L' := [_, _, _, _]) dX4_findBest_50 (Nat.le_of_ble_eq_true rfl) rfl rfl ?_
            refine r_iload_n hC (q := 52) dX4_findBest_51 rfl rfl ?_
            refine r_istore_n hC (q := 53) (L' := [_, _, _, _]) dX4_findBest_52 (Nat.le_of_ble_eq_true rfl) rfl rfl ?_
            refine r_iincN hC (q := 56) (L' := [_, _, _, _]) (c := 1) dX4_findBest_53 rfl rfl rfl rfl rfl ?_
            refine r_goto hC (t := 8) dX4_findBest_56 (by decide) ?_
            rw [fbF, if_pos ⟨h25, Int32.not_lt.mp h33, Int32.not_le.mp h42⟩] at hpost
            exact ih (S + 1) _ _ (by omega) (by omega) (by omega) hpost

set_option maxRecDepth 100000 in
set_option maxHeartbeats 4000000 in
theorem b_X4_findBest {E : TE} {G : GG} {v : VV} {c : Nat}  (hC : Cx E G cX4_findBest RX4 4 wsX4_findBest 6 138) (hR : RtI E G cX4_findBest (fun r v' => r = fbR (v 271) c ∧ v = v')) (hM : MW (v 271) c) : Wv E G v 0 [some (.ref (G.1 270)), none, none, none] [] := by
  refine r_sipush hC (x := (-1008)) (q := 3) dX4_findBest_0 (by decide) rfl ?_
  refine r_istore_n hC (q := 4) (L' := [_, _, _, _]) dX4_findBest_3 (Nat.le_of_ble_eq_true rfl) rfl rfl ?_
  refine r_iconst hC (x := 0) (q := 5) dX4_findBest_4 (by decide) rfl ?_
  refine r_istore_n hC (q := 6) (L' := [_, _, _, _]) dX4_findBest_5 (Nat.le_of_ble_eq_true rfl) rfl rfl ?_
  refine r_iconst hC (x := 3) (q := 7) dX4_findBest_6 (by decide) rfl ?_
  refine r_istore_n hC (q := 8) (L' := [_, _, _, _]) dX4_findBest_7 (Nat.le_of_ble_eq_true rfl) rfl rfl ?_
  exact lp_X4_findBest hC hR hM _ 3 _ _ rfl (by omega) (by omega) ⟨rfl, rfl⟩
theorem c_X4_findBest (l : Launch) {G : GG} {v : VV} {c : Nat}  (hM : MW (v 271) c) : MtI l G yX4_findBest wsX4_findBest 6 138 [.ref (G.1 270)] v (fun r v' => r = fbR (v 271) c ∧ v = v') := mt_int (Or.inl rfl) (by decide) rfl (by simp [Value.category]) (Nat.le_of_ble_eq_true rfl) rfl rfl (fun E hC hR => b_X4_findBest hC hR hM)

set_option maxRecDepth 100000 in
set_option maxHeartbeats 4000000 in
theorem b_X4_bestTail {E : TE} {G : GG} {v : VV} {c : Nat}  (hC : Cx E G cX4_bestTail RX4 1 wsX4_bestTail 7 161) (hR : RtI E G cX4_bestTail (fun r v' => r = fbR (v 271) c ∧ v = v')) (hM : MW (v 271) c) : Wv E G v 0 [some (.ref (G.1 270))] [] := by
  refine r_aload_n hC (q := 1) dX4_bestTail_0 rfl rfl ?_
  refine r_cVI hC (q := 4) (n := 0) (As := []) (fun lch => c_X4_findBest lch hM) gX4_bestTail_X4_findBest rfl (by decide +kernel) ⟨by decide, by decide⟩ ob_270 rfl rfl rfl rfl (Nat.le_of_ble_eq_true rfl) dX4_bestTail_1 rfl ?_
  rintro _ _ ⟨rfl, rfl⟩
  exact hR _ _ _ _ dX4_bestTail_4 ⟨rfl, rfl⟩
theorem c_X4_bestTail (l : Launch) {G : GG} {v : VV} {c : Nat}  (hM : MW (v 271) c) : MtI l G yX4_bestTail wsX4_bestTail 7 161 [.ref (G.1 270)] v (fun r v' => r = fbR (v 271) c ∧ v = v') := mt_int (Or.inl rfl) (by decide) rfl (by simp [Value.category]) (Nat.le_of_ble_eq_true rfl) rfl rfl (fun E hC hR => b_X4_bestTail hC hR hM)
