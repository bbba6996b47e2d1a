/-! the number of ones of a set of blocks -/
def popF (S : Nat) : Nat → Nat → Nat → Nat
  | 0, _, n => n
  | f + 1, b, n => popF S f (b + 1) (n + S / 2 ^ b % 2)
def pop (S : Nat) : Nat := popF S 12 0 0
abbrev ush (x y : Int32) : Int32 := (x.toUInt32 >>> (y.toUInt32 &&& Int32.toUInt32 31)).toInt32
def bc1 (x : Int32) : Int32 := x - (ush x 1 &&& 1431655765)
def bc2 (x : Int32) : Int32 := (x &&& 858993459) + (ush x 2 &&& 858993459)
def bc3 (x : Int32) : Int32 := (x + ush x 4) &&& 252645135
def bc4 (x : Int32) : Int32 := x + ush x 8
def bc5 (x : Int32) : Int32 := x + ush x 16
def bc6 (x : Int32) : Int32 := bc5 (bc4 (bc3 (bc2 (bc1 x)))) &&& 63
theorem pop_ok0 : ∀ S, S < 1024 → bc6 (nI S) = nI (pop S) := by decide +kernel
theorem pop_ok1 : ∀ S, S < 1024 → bc6 (nI (1024 + S)) = nI (pop (1024 + S)) := by decide +kernel
theorem pop_ok2 : ∀ S, S < 1024 → bc6 (nI (2048 + S)) = nI (pop (2048 + S)) := by decide +kernel
theorem pop_ok3 : ∀ S, S < 1024 → bc6 (nI (3072 + S)) = nI (pop (3072 + S)) := by decide +kernel
theorem pop_ok {S : Nat} (h : S < 4096) : bc6 (nI S) = nI (pop S) := by
  have h1 : S < 1024 ∨ (∃ T, T < 1024 ∧ S = 1024 + T) ∨ (∃ T, T < 1024 ∧ S = 2048 + T) ∨ (∃ T, T < 1024 ∧ S = 3072 + T) := by
    by_cases a : S < 1024
    · exact Or.inl a
    · by_cases b : S < 2048
      · exact Or.inr (Or.inl ⟨S - 1024, by omega, by omega⟩)
      · by_cases c : S < 3072
        · exact Or.inr (Or.inr (Or.inl ⟨S - 2048, by omega, by omega⟩))
        · exact Or.inr (Or.inr (Or.inr ⟨S - 3072, by omega, by omega⟩))
  rcases h1 with h1 | ⟨T, h1, rfl⟩ | ⟨T, h1, rfl⟩ | ⟨T, h1, rfl⟩
  · exact pop_ok0 S h1
  · exact pop_ok1 T h1
  · exact pop_ok2 T h1
  · exact pop_ok3 T h1

set_option maxRecDepth 100000 in
set_option maxHeartbeats 4000000 in
theorem b_J6_bitCount_0f7a4 {E : TE} {G : GG} {v : VV} {S : Nat} (hC : Cx E G cJ6_bitCount_0f7a4 RJ6 1 wsJ6_bitCount_0f7a4 0 0) (hR : RtI E G cJ6_bitCount_0f7a4 (fun r v' => r = nI (pop S) ∧ v = v')) (hS : S < 4096) : Wv E G v 0 [some (.int (nI S))] [] := by
  refine r_iload_n hC (q := 1) dJ6_bitCount_0f7a4_0 rfl rfl ?_
  refine r_iload_n hC (q := 2) dJ6_bitCount_0f7a4_1 rfl rfl ?_
  refine r_iconst hC (x := 1) (q := 3) dJ6_bitCount_0f7a4_2 (by decide) rfl ?_
  refine r_iushr hC (q := 4) dJ6_bitCount_0f7a4_3 rfl ?_
  refine r_ldcw hC (x := 1431655765) (q := 7) (by decide +kernel) dJ6_bitCount_0f7a4_4 rfl ?_
  refine r_iand hC (q := 8) dJ6_bitCount_0f7a4_7 rfl ?_
  refine r_isub hC (q := 9) dJ6_bitCount_0f7a4_8 rfl ?_
  refine r_top (y := bc1 (nI S)) rfl ?_
  refine r_istore_n hC (q := 10) (L' := [_]) dJ6_bitCount_0f7a4_9 (Nat.le_of_ble_eq_true rfl) rfl rfl ?_
  refine r_iload_n hC (q := 11) dJ6_bitCount_0f7a4_10 rfl rfl ?_
  refine r_ldcw hC (x := 858993459) (q := 14) (by decide +kernel) dJ6_bitCount_0f7a4_11 rfl ?_
  refine r_iand hC (q := 15) dJ6_bitCount_0f7a4_14 rfl ?_
  refine r_iload_n hC (q := 16) dJ6_bitCount_0f7a4_15 rfl rfl ?_
  refine r_iconst hC (x := 2) (q := 17) dJ6_bitCount_0f7a4_16 (by decide) rfl ?_
  refine r_iushr hC (q := 18) dJ6_bitCount_0f7a4_17 rfl ?_
  refine r_ldcw hC (x := 858993459) (q := 21) (by decide +kernel) dJ6_bitCount_0f7a4_18 rfl ?_
  refine r_iand hC (q := 22) dJ6_bitCount_0f7a4_21 rfl ?_
  refine r_iadd hC (q := 23) dJ6_bitCount_0f7a4_22 rfl ?_
  refine r_top (y := bc2 (bc1 (nI S))) rfl ?_
  refine r_istore_n hC (q := 24) (L' := [_]) dJ6_bitCount_0f7a4_23 (Nat.le_of_ble_eq_true rfl) rfl rfl ?_
  refine r_iload_n hC (q := 25) dJ6_bitCount_0f7a4_24 rfl rfl ?_
  refine r_iload_n hC (q := 26) dJ6_bitCount_0f7a4_25 rfl rfl ?_
  refine r_iconst hC (x := 4) (q := 27) dJ6_bitCount_0f7a4_26 (by decide) rfl ?_
  refine r_iushr hC (q := 28) dJ6_bitCount_0f7a4_27 rfl ?_
  refine r_iadd hC (q := 29) dJ6_bitCount_0f7a4_28 rfl ?_
  refine r_ldcw hC (x := 252645135) (q := 32) (by decide +kernel) dJ6_bitCount_0f7a4_29 rfl ?_
  refine r_iand hC (q := 33) dJ6_bitCount_0f7a4_32 rfl ?_
  refine r_top (y := bc3 (bc2 (bc1 (nI S)))) rfl ?_
  refine r_istore_n hC (q := 34) (L' := [_]) dJ6_bitCount_0f7a4_33 (Nat.le_of_ble_eq_true rfl) rfl rfl ?_
  refine r_iload_n hC (q := 35) dJ6_bitCount_0f7a4_34 rfl rfl ?_
  refine r_iload_n hC (q := 36) dJ6_bitCount_0f7a4_35 rfl rfl ?_
  refine r_bipush hC (x := 8) (q := 38) dJ6_bitCount_0f7a4_36 (by decide) rfl ?_
  refine r_iushr hC (q := 39) dJ6_bitCount_0f7a4_38 rfl ?_
  refine r_iadd hC (q := 40) dJ6_bitCount_0f7a4_39 rfl ?_
  refine r_top (y := bc4 (bc3 (bc2 (bc1 (nI S))))) rfl ?_
  refine r_istore_n hC (q := 41) (L' := [_]) dJ6_bitCount_0f7a4_40 (Nat.le_of_ble_eq_true rfl) rfl rfl ?_
  refine r_iload_n hC (q := 42) dJ6_bitCount_0f7a4_41 rfl rfl ?_
  refine r_iload_n hC (q := 43) dJ6_bitCount_0f7a4_42 rfl rfl ?_
  refine r_bipush hC (x := 16) (q := 45) dJ6_bitCount_0f7a4_43 (by decide) rfl ?_
  refine r_iushr hC (q := 46) dJ6_bitCount_0f7a4_45 rfl ?_
  refine r_iadd hC (q := 47) dJ6_bitCount_0f7a4_46 rfl ?_
  refine r_top (y := bc5 (bc4 (bc3 (bc2 (bc1 (nI S)))))) rfl ?_
  refine r_istore_n hC (q := 48) (L' := [_]) dJ6_bitCount_0f7a4_47 (Nat.le_of_ble_eq_true rfl) rfl rfl ?_
  refine r_iload_n hC (q := 49) dJ6_bitCount_0f7a4_48 rfl rfl ?_
  refine r_bipush hC (x := 63) (q := 51) dJ6_bitCount_0f7a4_49 (by decide) rfl ?_
  refine r_iand hC (q := 52) dJ6_bitCount_0f7a4_51 rfl ?_
  exact hR _ _ _ _ dJ6_bitCount_0f7a4_52 ⟨pop_ok hS, rfl⟩
theorem c_J6_bitCount_0f7a4 (l : Launch) {G : GG} {v : VV} {S : Nat} (hS : S < 4096) : MtI l G yJ6_bitCount_0f7a4 wsJ6_bitCount_0f7a4 0 0 [.int (nI S)] v (fun r v' => r = nI (pop S) ∧ v = v') := mt_int (Or.inl rfl) (by decide) rfl (by simp [Value.category]) (Nat.le_of_ble_eq_true rfl) rfl rfl (fun E hC hR => b_J6_bitCount_0f7a4 hC hR hS)

def amF (S : Nat) : Nat → Nat → Nat → Nat
  | 0, _, a => a
  | f + 1, b, a => amF S f (b + 1) (if Nat.testBit S b = true then b else a)
theorem am_lt (S : Nat) : ∀ (f b a : Nat), a < 12 → b + f ≤ 12 → amF S f b a < 12 := by
  intro f
  induction f with
  | zero => intro b a h _; exact h
  | succ f ih =>
    intro b a h1 h2
    refine ih (b + 1) _ ?_ (by omega)
    by_cases h : Nat.testBit S b = true
    · rw [if_pos h]; omega
    · rw [if_neg h]; exact h1

set_option maxRecDepth 100000 in
set_option maxHeartbeats 4000000 in
theorem lp_X2_savingOfSet {E : TE} {G : GG} {v : VV} {p c S : Nat} {x : Int32} {post : Int32 → VV → Prop} (hC : Cx E G cX2_savingOfSet RX2 5 wsX2_savingOfSet 1 23) (hR : RtI E G cX2_savingOfSet post) (hp : isPr p) (hc : v p 1 = nI c) (h12 : c ≤ 12) (hS : S < 4096) : ∀ (f b a : Nat), b + f = c → a < 12 → post (sv (nI (pop S)) x (tc v p (amF S f b a)) (v p 2)) v → Wv E G v 5 [some (.ref (G.1 p)), some (.int (nI S)), some (.int x), some (.int (nI a)), some (.int (nI b))] [] := by
  intro f
  induction f with
  | zero =>
    intro b a hbf ha hpost
    have i_X2 : ∀ w ∈ wsX20, w ∈ wsX2_savingOfSet := by decide +kernel
    have l_18 : lnk E RX2 18 (TX2 1) := hC.fl (by decide +kernel)
    refine r_iload hC (q := 7) dX2_savingOfSet_5 rfl rfl ?_
    refine r_aload_n hC (q := 8) dX2_savingOfSet_7 rfl rfl ?_
    refine g_X2 hC 1 i_X2 l_18 (by decide) (q := 11) dX2_savingOfSet_8 hp rfl rfl ?_
    refine r_top (y := nI c) hc ?_
    refine r_icmp_geN hC (q := 14) (t := 32) dX2_savingOfSet_11 rfl rfl (by omega) (by omega) (by decide) rfl (fun h11 => ?_) (fun h11 => ?_)
    · skip
      refine r_aload_n hC (q := 33) dX2_savingOfSet_32 rfl rfl ?_
      refine r_iload_n hC (q := 34) dX2_savingOfSet_33 rfl rfl ?_
      refine r_cXI hC (q := 37) (n := 1) (As := [_]) (fun l => c_J6_bitCount_0f7a4 l hS) gX2_savingOfSet_J6_bitCount_0f7a4 rfl (by decide +kernel) ⟨by decide, by decide⟩ rfl rfl rfl (Nat.le_of_ble_eq_true rfl) dX2_savingOfSet_34 rfl ?_
      rintro _ _ ⟨rfl, rfl⟩
      refine r_iload_n hC (q := 38) dX2_savingOfSet_37 rfl rfl ?_
      refine r_aload_n hC (q := 39) dX2_savingOfSet_38 rfl rfl ?_
      refine r_iload_n hC (q := 40) dX2_savingOfSet_39 rfl rfl ?_
      refine r_cVI hC (q := 43) (n := 1) (As := [_]) (fun l => c_X2_terminatorCost l hp ha) gX2_savingOfSet_X2_terminatorCost rfl (by decide +kernel) ⟨by decide, by decide⟩ (ob_p hp) rfl rfl rfl rfl (Nat.le_of_ble_eq_true rfl) dX2_savingOfSet_40 rfl ?_
      rintro _ _ ⟨rfl, rfl⟩
      refine r_cVI hC (q := 46) (n := 3) (As := [_, _, _]) (fun l => c_X2_savingOf l hp) gX2_savingOfSet_X2_savingOf rfl (by decide +kernel) ⟨by decide, by decide⟩ (ob_p hp) rfl rfl rfl rfl (Nat.le_of_ble_eq_true rfl) dX2_savingOfSet_43 rfl ?_
      rintro _ _ ⟨rfl, rfl⟩
      exact hR _ _ _ _ dX2_savingOfSet_46 hpost
    · skip
      omega
  | succ f ih =>
    intro b a hbf ha hpost
    have i_X2 : ∀ w ∈ wsX20, w ∈ wsX2_savingOfSet := by decide +kernel
    have l_18 : lnk E RX2 18 (TX2 1) := hC.fl (by decide +kernel)
    refine r_iload hC (q := 7) dX2_savingOfSet_5 rfl rfl ?_
    refine r_aload_n hC (q := 8) dX2_savingOfSet_7 rfl rfl ?_
    refine g_X2 hC 1 i_X2 l_18 (by decide) (q := 11) dX2_savingOfSet_8 hp rfl rfl ?_
    refine r_top (y := nI c) hc ?_
    refine r_icmp_geN hC (q := 14) (t := 32) dX2_savingOfSet_11 rfl rfl (by omega) (by omega) (by decide) rfl (fun h11 => ?_) (fun h11 => ?_)
    · skip
      omega
    · skip
      refine r_iload_n hC (q := 15) dX2_savingOfSet_14 rfl rfl ?_
      refine r_iload hC (q := 17) dX2_savingOfSet_15 rfl rfl ?_
      refine r_cSI hC (q := 20) (n := 2) (As := [_, _]) (fun l => c_X2_contains l (by omega) (by omega)) gX2_savingOfSet_X2_contains rfl (by decide +kernel) ⟨by decide, by decide⟩ rfl rfl rfl (Nat.le_of_ble_eq_true rfl) dX2_savingOfSet_17 rfl ?_
      rintro _ _ ⟨rfl, rfl⟩
      refine r_if_eqB hC (q := 23) (t := 26) dX2_savingOfSet_20 (by decide) rfl (fun h20 => ?_) (fun h20 => ?_)
      · skip
        refine r_iincN hC (q := 29) (L' := [_, _, _, _, _]) (c := 1) dX2_savingOfSet_26 rfl rfl rfl rfl rfl ?_
        refine r_goto hC (t := 5) dX2_savingOfSet_29 (by decide) ?_
        exact ih (b + 1) _ (by omega) (by omega) (by first | (rw [amF, if_pos h20] at hpost; exact hpost) | (rw [amF, if_neg h20] at hpost; exact hpost))
      · skip
        refine r_iload hC (q := 25) dX2_savingOfSet_23 rfl rfl ?_
        refine r_istore_n hC (q := 26) (L' := [_, _, _, _, _]) dX2_savingOfSet_25 (Nat.le_of_ble_eq_true rfl) rfl rfl ?_
        refine r_iincN hC (q := 29) (L' := [_, _, _, _, _]) (c := 1) dX2_savingOfSet_26 rfl rfl rfl rfl rfl ?_
        refine r_goto hC (t := 5) dX2_savingOfSet_29 (by decide) ?_
        exact ih (b + 1) _ (by omega) (by omega) (by first | (rw [amF, if_pos h20] at hpost; exact hpost) | (rw [amF, if_neg h20] at hpost; exact hpost))

set_option maxRecDepth 100000 in
set_option maxHeartbeats 4000000 in
theorem b_X2_savingOfSet {E : TE} {G : GG} {v : VV} {p : Nat} {c S : Nat} {x : Int32} (hC : Cx E G cX2_savingOfSet RX2 5 wsX2_savingOfSet 1 23) (hR : RtI E G cX2_savingOfSet (fun r v' => r = sv (nI (pop S)) x (tc v p (amF S c 0 0)) (v p 2) ∧ v = v')) (hp : isPr p) (hc : v p 1 = nI c) (h12 : c ≤ 12) (hS : S < 4096) : Wv E G v 0 [some (.ref (G.1 p)), some (.int (nI S)), some (.int x), none, none] [] := by
  refine r_iconst hC (x := 0) (q := 1) dX2_savingOfSet_0 (by decide) rfl ?_
  refine r_istore_n hC (q := 2) (L' := [_, _, _, _, _]) dX2_savingOfSet_1 (Nat.le_of_ble_eq_true rfl) rfl rfl ?_
  refine r_iconst hC (x := 0) (q := 3) dX2_savingOfSet_2 (by decide) rfl ?_
  refine r_istore hC (q := 5) (L' := [_, _, _, _, _]) dX2_savingOfSet_3 (Nat.le_of_ble_eq_true rfl) rfl rfl ?_
  exact lp_X2_savingOfSet hC hR hp hc h12 hS c 0 0 (by omega) (by omega) ⟨rfl, rfl⟩
theorem c_X2_savingOfSet (l : Launch) {G : GG} {v : VV} {p : Nat} {c S : Nat} {x : Int32} (hp : isPr p) (hc : v p 1 = nI c) (h12 : c ≤ 12) (hS : S < 4096) : MtI l G yX2_savingOfSet wsX2_savingOfSet 1 23 [.ref (G.1 p), .int (nI S), .int x] v (fun r v' => r = sv (nI (pop S)) x (tc v p (amF S c 0 0)) (v p 2) ∧ v = v') := mt_int (Or.inl rfl) (by decide) rfl (by simp [Value.category]) (Nat.le_of_ble_eq_true rfl) rfl rfl (fun E hC hR => b_X2_savingOfSet hC hR hp hc h12 hS)

def mn (x y : Int32) : Int32 := if y < x then y else x
def tsF (v : VV) (p S : Nat) : Nat → Nat → Option Nat → Int32 → Int32
  | 0, _, _, len => len
  | f + 1, b, fo, len => if Nat.testBit S b = true then (match fo with
      | none => tsF v p S f (b + 1) (some b) (v (kB p b) 5)
      | some a => tsF v p S f (b + 1) (some a) (mn len (tl (pv v p a) (pv v p b)))) else tsF v p S f (b + 1) fo len
def fI (fo : Option Nat) : Int32 := match fo with
  | none => -1008
  | some a => nI a
theorem nI_ne1008 {a : Nat} (h : a < 12) : ¬ nI a = -1008 := by
  have : ∀ a, a < 12 → ¬ nI a = -1008 := by decide +kernel
  exact this a h

set_option maxRecDepth 100000 in
set_option maxHeartbeats 4000000 in
theorem lp_X2_tailOfSet {E : TE} {G : GG} {v : VV} {p c S : Nat} {post : Int32 → VV → Prop} (hC : Cx E G cX2_tailOfSet RX2 5 wsX2_tailOfSet 2 47) (hR : RtI E G cX2_tailOfSet post) (hp : isPr p) (hc : v p 1 = nI c) (h12 : c ≤ 12) (hB : ∀ b, b < c → v (kB p b) 5 = nI (nb v p b) ∧ nb v p b ≤ 10) (hS : S < 4096) : ∀ (f b : Nat) (fo : Option Nat) (x : Int32), b + f = c → (∀ a, fo = some a → a < b) → post (tsF v p S f b fo x) v → Wv E G v 11 [some (.ref (G.1 p)), some (.int (nI S)), some (.int (fI fo)), some (.int x), some (.int (nI b))] [] := by
  intro f
  induction f with
  | zero =>
    intro b fo x hbf ha hpost
    have i_X2 : ∀ w ∈ wsX20, w ∈ wsX2_tailOfSet := by decide +kernel
    have l_18 : lnk E RX2 18 (TX2 1) := hC.fl (by decide +kernel)
    refine r_iload hC (q := 13) dX2_tailOfSet_11 rfl rfl ?_
    refine r_aload_n hC (q := 14) dX2_tailOfSet_13 rfl rfl ?_
    refine g_X2 hC 1 i_X2 l_18 (by decide) (q := 17) dX2_tailOfSet_14 hp rfl rfl ?_
    refine r_top (y := nI c) hc ?_
    refine r_icmp_geN hC (q := 20) (t := 80) dX2_tailOfSet_17 rfl rfl (by omega) (by omega) (by decide) rfl (fun h17 => ?_) (fun h17 => ?_)
    · skip
      refine r_iload_n hC (q := 81) dX2_tailOfSet_80 rfl rfl ?_
      exact hR _ _ _ _ dX2_tailOfSet_81 hpost
    · skip
      omega
  | succ f ih =>
    intro b fo x hbf ha hpost
    cases fo with
    | none =>
      have i_X0 : ∀ w ∈ wsX00, w ∈ wsX2_tailOfSet := by decide +kernel
      have i_X2 : ∀ w ∈ wsX20, w ∈ wsX2_tailOfSet := by decide +kernel
      have l_11 : lnk E RX2 11 (TX2 0) := hC.fl (by decide +kernel)
      have l_18 : lnk E RX2 18 (TX2 1) := hC.fl (by decide +kernel)
      have l_45 : lnk E RX2 45 (TX0 5) := hC.nf 10 rfl
      refine r_iload hC (q := 13) dX2_tailOfSet_11 rfl rfl ?_
      refine r_aload_n hC (q := 14) dX2_tailOfSet_13 rfl rfl ?_
      refine g_X2 hC 1 i_X2 l_18 (by decide) (q := 17) dX2_tailOfSet_14 hp rfl rfl ?_
      refine r_top (y := nI c) hc ?_
      refine r_icmp_geN hC (q := 20) (t := 80) dX2_tailOfSet_17 rfl rfl (by omega) (by omega) (by decide) rfl (fun h17 => ?_) (fun h17 => ?_)
      · skip
        omega
      · skip
        refine r_iload_n hC (q := 21) dX2_tailOfSet_20 rfl rfl ?_
        refine r_iload hC (q := 23) dX2_tailOfSet_21 rfl rfl ?_
        refine r_cSI hC (q := 26) (n := 2) (As := [_, _]) (fun l => c_X2_contains l (by omega) (by omega)) gX2_tailOfSet_X2_contains rfl (by decide +kernel) ⟨by decide, by decide⟩ rfl rfl rfl (Nat.le_of_ble_eq_true rfl) dX2_tailOfSet_23 rfl ?_
        rintro _ _ ⟨rfl, rfl⟩
        refine r_if_eqB hC (q := 29) (t := 74) dX2_tailOfSet_26 (by decide) rfl (fun h26 => ?_) (fun h26 => ?_)
        · skip
          refine r_iincN hC (q := 77) (L' := [_, _, _, _, _]) (c := 1) dX2_tailOfSet_74 rfl rfl rfl rfl rfl ?_
          refine r_goto hC (t := 11) dX2_tailOfSet_77 (by decide) ?_
          first | exact ih (b + 1) none _ (by omega) (by intro a h; cases h) (by rw [tsF, if_neg h26] at hpost; exact hpost) | exact ih (b + 1) (some b) _ (by omega) (by intro a h; cases h; omega) (by rw [tsF, if_pos h26] at hpost; exact hpost)
        · skip
          refine r_iload_n hC (q := 30) dX2_tailOfSet_29 rfl rfl ?_
          refine r_sipush hC (x := (-1008)) (q := 33) dX2_tailOfSet_30 (by decide) rfl ?_
          refine r_icmp_ne hC (q := 36) (t := 53) dX2_tailOfSet_33 (by decide) rfl (fun h33 => ?_) (fun h33 => ?_)
          · skip
            exact absurd rfl h33
          · skip
            refine r_iload hC (q := 38) dX2_tailOfSet_36 rfl rfl ?_
            refine r_istore_n hC (q := 39) (L' := [_, _, _, _, _]) dX2_tailOfSet_38 (Nat.le_of_ble_eq_true rfl) rfl rfl ?_
            refine r_aload_n hC (q := 40) dX2_tailOfSet_39 rfl rfl ?_
            refine g_X2 hC 0 i_X2 l_11 (by decide) (q := 43) dX2_tailOfSet_40 hp rfl rfl ?_
            refine r_iload hC (q := 45) dX2_tailOfSet_43 rfl rfl ?_
            refine r_aBN hC (q := 46) dX2_tailOfSet_45 hp rfl (by omega) rfl ?_
            refine g_X0 hC 5 i_X0 l_45 (by decide) (q := 49) dX2_tailOfSet_46 (isBk_of hp (by omega)) rfl rfl ?_
            refine r_istore_n hC (q := 50) (L' := [_, _, _, _, _]) dX2_tailOfSet_49 (Nat.le_of_ble_eq_true rfl) rfl rfl ?_
            refine r_goto hC (t := 74) dX2_tailOfSet_50 (by decide) ?_
            refine r_iincN hC (q := 77) (L' := [_, _, _, _, _]) (c := 1) dX2_tailOfSet_74 rfl rfl rfl rfl rfl ?_
            refine r_goto hC (t := 11) dX2_tailOfSet_77 (by decide) ?_
            first | exact ih (b + 1) none _ (by omega) (by intro a h; cases h) (by rw [tsF, if_neg h26] at hpost; exact hpost) | exact ih (b + 1) (some b) _ (by omega) (by intro a h; cases h; omega) (by rw [tsF, if_pos h26] at hpost; exact hpost)
    | some a =>
      have hab := ha a rfl
      have i_X2 : ∀ w ∈ wsX20, w ∈ wsX2_tailOfSet := by decide +kernel
      have l_11 : lnk E RX2 11 (TX2 0) := hC.fl (by decide +kernel)
      have l_18 : lnk E RX2 18 (TX2 1) := hC.fl (by decide +kernel)
      refine r_iload hC (q := 13) dX2_tailOfSet_11 rfl rfl ?_
      refine r_aload_n hC (q := 14) dX2_tailOfSet_13 rfl rfl ?_
      refine g_X2 hC 1 i_X2 l_18 (by decide) (q := 17) dX2_tailOfSet_14 hp rfl rfl ?_
      refine r_top (y := nI c) hc ?_
      refine r_icmp_geN hC (q := 20) (t := 80) dX2_tailOfSet_17 rfl rfl (by omega) (by omega) (by decide) rfl (fun h17 => ?_) (fun h17 => ?_)
      · skip
        omega
      · skip
        refine r_iload_n hC (q := 21) dX2_tailOfSet_20 rfl rfl ?_
        refine r_iload hC (q := 23) dX2_tailOfSet_21 rfl rfl ?_
        refine r_cSI hC (q := 26) (n := 2) (As := [_, _]) (fun l => c_X2_contains l (by omega) (by omega)) gX2_tailOfSet_X2_contains rfl (by decide +kernel) ⟨by decide, by decide⟩ rfl rfl rfl (Nat.le_of_ble_eq_true rfl) dX2_tailOfSet_23 rfl ?_
        rintro _ _ ⟨rfl, rfl⟩
        refine r_if_eqB hC (q := 29) (t := 74) dX2_tailOfSet_26 (by decide) rfl (fun h26 => ?_) (fun h26 => ?_)
        · skip
          refine r_iincN hC (q := 77) (L' := [_, _, _, _, _]) (c := 1) dX2_tailOfSet_74 rfl rfl rfl rfl rfl ?_
          refine r_goto hC (t := 11) dX2_tailOfSet_77 (by decide) ?_
          first | exact ih (b + 1) (some a) _ (by omega) (by intro a h; cases h; omega) (by rw [tsF, if_neg h26] at hpost; exact hpost) | exact ih (b + 1) (some a) _ (by omega) (by intro a h; cases h; omega) (by rw [tsF, if_pos h26] at hpost; exact hpost)
        · skip
          refine r_iload_n hC (q := 30) dX2_tailOfSet_29 rfl rfl ?_
          refine r_sipush hC (x := (-1008)) (q := 33) dX2_tailOfSet_30 (by decide) rfl ?_
          refine r_icmp_ne hC (q := 36) (t := 53) dX2_tailOfSet_33 (by decide) rfl (fun h33 => ?_) (fun h33 => ?_)
          · skip
            refine r_iload_n hC (q := 54) dX2_tailOfSet_53 rfl rfl ?_
            refine r_aload_n hC (q := 55) dX2_tailOfSet_54 rfl rfl ?_
            refine g_X2 hC 0 i_X2 l_11 (by decide) (q := 58) dX2_tailOfSet_55 hp rfl rfl ?_
            refine r_iload_n hC (q := 59) dX2_tailOfSet_58 rfl rfl ?_
            refine r_aBN hC (q := 60) dX2_tailOfSet_59 hp rfl (by omega) rfl ?_
            refine r_aload_n hC (q := 61) dX2_tailOfSet_60 rfl rfl ?_
            refine g_X2 hC 0 i_X2 l_11 (by decide) (q := 64) dX2_tailOfSet_61 hp rfl rfl ?_
            refine r_iload hC (q := 66) dX2_tailOfSet_64 rfl rfl ?_
            refine r_aBN hC (q := 67) dX2_tailOfSet_66 hp rfl (by omega) rfl ?_
            refine r_cNI hC (q := 70) (n := 1) (As := [_]) (fun l => c_X0_tailSharedWith l (n := nb v p a) (n2 := nb v p b) (isBk_of hp (by omega)) (isBk_of hp (by omega)) (hB a (by omega)).1 (hB b (by omega)).1 (hB a (by omega)).2 (hB b (by omega)).2) ggX2_tailOfSet_X0_tailSharedWith rfl 13 rfl (by decide +kernel) (by decide +kernel) (by decide +kernel) (by decide +kernel) ⟨by decide, by decide⟩ (ob_b (isBk_of hp (by omega))) rfl rfl rfl rfl (Nat.le_of_ble_eq_true rfl) dX2_tailOfSet_67 rfl ?_
            rintro _ _ ⟨rfl, rfl⟩
            refine r_min hC (q := 73) (by decide +kernel) (by decide +kernel) (by decide +kernel) (by decide +kernel) rfl (by decide) (Nat.le_of_ble_eq_true rfl) dX2_tailOfSet_70 rfl ?_
            refine r_istore_n hC (q := 74) (L' := [_, _, _, _, _]) dX2_tailOfSet_73 (Nat.le_of_ble_eq_true rfl) rfl rfl ?_
            refine r_iincN hC (q := 77) (L' := [_, _, _, _, _]) (c := 1) dX2_tailOfSet_74 rfl rfl rfl rfl rfl ?_
            refine r_goto hC (t := 11) dX2_tailOfSet_77 (by decide) ?_
            first | exact ih (b + 1) (some a) _ (by omega) (by intro a h; cases h; omega) (by rw [tsF, if_neg h26] at hpost; exact hpost) | exact ih (b + 1) (some a) _ (by omega) (by intro a h; cases h; omega) (by rw [tsF, if_pos h26] at hpost; exact hpost)
          · skip
            exact absurd h33 (nI_ne1008 (by omega))

set_option maxRecDepth 100000 in
set_option maxHeartbeats 4000000 in
theorem b_X2_tailOfSet {E : TE} {G : GG} {v : VV} {p : Nat} {c S : Nat} (hC : Cx E G cX2_tailOfSet RX2 5 wsX2_tailOfSet 2 47) (hR : RtI E G cX2_tailOfSet (fun r v' => r = tsF v p S c 0 none (-1005) ∧ v = v')) (hp : isPr p) (hW : PW v p c) (hS : S < 4096) : Wv E G v 0 [some (.ref (G.1 p)), some (.int (nI S)), none, none, none] [] := by
  refine r_sipush hC (x := (-1008)) (q := 3) dX2_tailOfSet_0 (by decide) rfl ?_
  refine r_istore_n hC (q := 4) (L' := [_, _, _, _, _]) dX2_tailOfSet_3 (Nat.le_of_ble_eq_true rfl) rfl rfl ?_
  refine r_sipush hC (x := (-1005)) (q := 7) dX2_tailOfSet_4 (by decide) rfl ?_
  refine r_istore_n hC (q := 8) (L' := [_, _, _, _, _]) dX2_tailOfSet_7 (Nat.le_of_ble_eq_true rfl) rfl rfl ?_
  refine r_iconst hC (x := 0) (q := 9) dX2_tailOfSet_8 (by decide) rfl ?_
  refine r_istore hC (q := 11) (L' := [_, _, _, _, _]) dX2_tailOfSet_9 (Nat.le_of_ble_eq_true rfl) rfl rfl ?_
  exact lp_X2_tailOfSet hC hR hp hW.1 hW.2.1 hW.2.2 hS c 0 none _ (by omega) (by intro a h; cases h) ⟨rfl, rfl⟩
theorem c_X2_tailOfSet (l : Launch) {G : GG} {v : VV} {p : Nat} {c S : Nat} (hp : isPr p) (hW : PW v p c) (hS : S < 4096) : MtI l G yX2_tailOfSet wsX2_tailOfSet 2 47 [.ref (G.1 p), .int (nI S)] v (fun r v' => r = tsF v p S c 0 none (-1005) ∧ v = v') := mt_int (Or.inl rfl) (by decide) rfl (by simp [Value.category]) (Nat.le_of_ble_eq_true rfl) rfl rfl (fun E hC hR => b_X2_tailOfSet hC hR hp hW hS)
