def tE (v : VV) (c : Nat) (x : Int32) : Int32 := if inb x (2 ^ c) = true then (if pop (tn x) < 2 then -1003 else tfV (pv v 1) c (tn x)) else -1001
theorem PW.n {v : VV} {p c : Nat} (h : PW v p c) : ∀ b, b < c → (pv v p b).1 ≤ 10 := fun b hb => (h.2.2 b hb).2
theorem tE_ok {v : VV} {c : Nat} {x : Int32} (hW : PW v 1 c) (h : 0 ≤ tE v c x) : inb x (2 ^ c) = true ∧ 2 ≤ pop (tn x) ∧ ∃ m, m ≤ 10 ∧ tE v c x = nI m ∧ tfV (pv v 1) c (tn x) = nI m ∧ ∀ b, b < c → Nat.testBit (tn x) b = true → m ≤ nb v 1 b := by
  have h12 := hW.2.1
  have hp := pow12 h12
  unfold tE at h ⊢
  by_cases h1 : inb x (2 ^ c) = true
  · rw [if_pos h1] at h ⊢
    by_cases h2 : pop (tn x) < 2
    · rw [if_pos h2] at h; exact absurd h (by decide)
    · rw [if_neg h2] at h ⊢
      have hx := (inb_tn (by omega) h1).2
      rcases tfV_ok (B := pv v 1) hW.n (by omega) hx h12 with h3 | ⟨m, h3, h4, h5⟩
      · rw [h3] at h; exact absurd h n1005
      · exact ⟨h1, by omega, m, h3, h4, h4, fun b hb hbS => (h5 b hb hbS).1⟩
  · rw [if_neg h1] at h; exact absurd h (by decide)

set_option maxRecDepth 100000 in
set_option maxHeartbeats 4000000 in
theorem b_X3_tailOrError {E : TE} {G : GG} {v : VV} {c : Nat} {x : Int32} (hC : Cx E G cX3_tailOrError RX3 2 wsX3_tailOrError 3 71) (hR : RtI E G cX3_tailOrError (fun r v' => r = tE v c x ∧ v = v')) (hW : PW v 1 c) : Wv E G v 0 [some (.ref (G.1 0)), some (.int x)] [] := by
  have h12 := hW.2.1
  have hp := pow12 h12
  have hpl := pop_le (tn x)
  have i_X2 : ∀ w ∈ wsX20, w ∈ wsX3_tailOrError := by decide +kernel
  have i_X3 : ∀ w ∈ wsX30, w ∈ wsX3_tailOrError := by decide +kernel
  have l_10 : lnk E RX3 10 (TX3 0) := hC.fl (by decide +kernel)
  have l_60 : lnk E RX3 60 (TX2 1) := hC.nf 19 rfl
  refine r_iload_n hC (q := 1) dX3_tailOrError_0 rfl rfl ?_
  refine r_aload_n hC (q := 2) dX3_tailOrError_1 rfl rfl ?_
  refine g_X3 hC 0 i_X3 l_10 (by decide) (q := 5) dX3_tailOrError_2 rfl rfl ?_
  refine g_X2 hC 1 i_X2 l_60 (by decide) (q := 8) dX3_tailOrError_5 isPr_1 rfl rfl ?_
  refine r_top (y := nI c) hW.1 ?_
  refine r_ishr hC (q := 9) dX3_tailOrError_8 rfl ?_
  refine r_if_eq hC (q := 12) (t := 16) dX3_tailOrError_9 (by decide) rfl (fun h9 => ?_) (fun h9 => ?_)
  · have hi := (shr0 h12).mp h9; obtain ⟨ex, bx⟩ := inb_tn (by omega) hi
    refine r_iload_n hC (q := 17) dX3_tailOrError_16 rfl rfl ?_
    refine r_top (y := nI (tn x)) ex ?_
    refine r_cXI hC (q := 20) (n := 1) (As := [_]) (fun lch => c_J6_bitCount_0f7a4 lch (by omega)) gX3_tailOrError_J6_bitCount_0f7a4 rfl (by decide +kernel) ⟨by decide, by decide⟩ rfl rfl rfl (Nat.le_of_ble_eq_true rfl) dX3_tailOrError_17 rfl ?_
    rintro _ _ ⟨rfl, rfl⟩
    refine r_iconst hC (x := 2) (q := 21) dX3_tailOrError_20 (by decide) rfl ?_
    refine r_icmp_geN hC (q := 24) (t := 28) (b := 2) dX3_tailOrError_21 rfl rfl (by omega) (by omega) (by decide) rfl (fun h21 => ?_) (fun h21 => ?_)
    · skip
      refine r_aload_n hC (q := 29) dX3_tailOrError_28 rfl rfl ?_
      refine g_X3 hC 0 i_X3 l_10 (by decide) (q := 32) dX3_tailOrError_29 rfl rfl ?_
      refine r_iload_n hC (q := 33) dX3_tailOrError_32 rfl rfl ?_
      refine r_top (y := nI (tn x)) ex ?_
      refine r_cNI hC (q := 36) (n := 1) (As := [_]) (fun lch => c_X2_tailOfSet lch isPr_1 hW (by omega)) ggX3_tailOrError_X2_tailOfSet rfl 12 rfl (by decide +kernel) (by decide +kernel) (by decide +kernel) (by decide +kernel) ⟨by decide, by decide⟩ (ob_p isPr_1) rfl rfl rfl rfl (Nat.le_of_ble_eq_true rfl) dX3_tailOrError_33 rfl ?_
      rintro _ _ ⟨rfl, rfl⟩
      exact hR _ _ _ _ dX3_tailOrError_36 ⟨by rw [tE, if_pos hi, if_neg (by omega), tsF_V hW h21 bx], rfl⟩
    · skip
      refine r_sipush hC (x := (-1003)) (q := 27) dX3_tailOrError_24 (by decide) rfl ?_
      exact hR _ _ _ _ dX3_tailOrError_27 ⟨by rw [tE, if_pos hi, if_pos h21], rfl⟩
  · have hi := mt (shr0 h12).mpr h9
    refine r_sipush hC (x := (-1001)) (q := 15) dX3_tailOrError_12 (by decide) rfl ?_
    exact hR _ _ _ _ dX3_tailOrError_15 ⟨by rw [tE, if_neg hi], rfl⟩
theorem c_X3_tailOrError (l : Launch) {G : GG} {v : VV} {c : Nat} {x : Int32} (hW : PW v 1 c) : MtI l G yX3_tailOrError wsX3_tailOrError 3 71 [.ref (G.1 0), .int x] v (fun r v' => r = tE v c x ∧ v = v') := mt_int (Or.inl rfl) (by decide) rfl (by simp [Value.category]) (Nat.le_of_ble_eq_true rfl) rfl rfl (fun E hC hR => b_X3_tailOrError hC hR hW)

def svC (v : VV) (c S : Nat) (x : Int32) : Int32 := sv (nI (pop S)) x (tc v 1 (amF S c 0 0)) (v 1 2)

set_option maxRecDepth 100000 in
set_option maxHeartbeats 4000000 in
theorem b_X3_tailSaving {E : TE} {G : GG} {v : VV} {c : Nat} {x : Int32} (hC : Cx E G cX3_tailSaving RX3 3 wsX3_tailSaving 4 92) (hR : RtI E G cX3_tailSaving (fun r v' => r = (if 0 ≤ tE v c x then svC v c (tn x) (tE v c x) else tE v c x) ∧ v = v')) (hW : PW v 1 c) : Wv E G v 0 [some (.ref (G.1 0)), some (.int x), none] [] := by
  have h12 := hW.2.1
  have hp := pow12 h12
  have i_X3 : ∀ w ∈ wsX30, w ∈ wsX3_tailSaving := by decide +kernel
  have l_10 : lnk E RX3 10 (TX3 0) := hC.fl (by decide +kernel)
  refine r_aload_n hC (q := 1) dX3_tailSaving_0 rfl rfl ?_
  refine r_iload_n hC (q := 2) dX3_tailSaving_1 rfl rfl ?_
  refine r_cVI hC (q := 5) (n := 1) (As := [_]) (fun lch => c_X3_tailOrError lch hW) gX3_tailSaving_X3_tailOrError rfl (by decide +kernel) ⟨by decide, by decide⟩ ob_0 rfl rfl rfl rfl (Nat.le_of_ble_eq_true rfl) dX3_tailSaving_2 rfl ?_
  rintro _ _ ⟨rfl, rfl⟩
  refine r_istore_n hC (q := 6) (L' := [_, _, _]) dX3_tailSaving_5 (Nat.le_of_ble_eq_true rfl) rfl rfl ?_
  refine r_iload_n hC (q := 7) dX3_tailSaving_6 rfl rfl ?_
  refine r_if_ge hC (q := 10) (t := 14) dX3_tailSaving_7 (by decide) rfl (fun h7 => ?_) (fun h7 => ?_)
  · obtain ⟨hi, hp2, m, hm, em, etl, hmb⟩ := tE_ok hW h7; obtain ⟨ex, bx⟩ := inb_tn (by omega) hi
    refine r_aload_n hC (q := 15) dX3_tailSaving_14 rfl rfl ?_
    refine g_X3 hC 0 i_X3 l_10 (by decide) (q := 18) dX3_tailSaving_15 rfl rfl ?_
    refine r_iload_n hC (q := 19) dX3_tailSaving_18 rfl rfl ?_
    refine r_top (y := nI (tn x)) ex ?_
    refine r_iload_n hC (q := 20) dX3_tailSaving_19 rfl rfl ?_
    refine r_cNI hC (q := 23) (n := 2) (As := [_, _]) (fun lch => c_X2_savingOfSet lch isPr_1 hW.1 h12 (by omega)) ggX3_tailSaving_X2_savingOfSet rfl 14 rfl (by decide +kernel) (by decide +kernel) (by decide +kernel) (by decide +kernel) ⟨by decide, by decide⟩ (ob_p isPr_1) rfl rfl rfl rfl (Nat.le_of_ble_eq_true rfl) dX3_tailSaving_20 rfl ?_
    rintro _ _ ⟨rfl, rfl⟩
    exact hR _ _ _ _ dX3_tailSaving_23 ⟨by rw [if_pos h7]; rfl, rfl⟩
  · skip
    refine r_iload_n hC (q := 11) dX3_tailSaving_10 rfl rfl ?_
    refine r_goto hC (t := 23) dX3_tailSaving_11 (by decide) ?_
    exact hR _ _ _ _ dX3_tailSaving_23 ⟨by rw [if_neg h7], rfl⟩
theorem c_X3_tailSaving (l : Launch) {G : GG} {v : VV} {c : Nat} {x : Int32} (hW : PW v 1 c) : MtI l G yX3_tailSaving wsX3_tailSaving 4 92 [.ref (G.1 0), .int x] v (fun r v' => r = (if 0 ≤ tE v c x then svC v c (tn x) (tE v c x) else tE v c x) ∧ v = v') := mt_int (Or.inl rfl) (by decide) rfl (by simp [Value.category]) (Nat.le_of_ble_eq_true rfl) rfl rfl (fun E hC hR => b_X3_tailSaving hC hR hW)

def mtR (v : VV) (c : Nat) (x : Int32) : Int32 := if 0 ≤ tE v c x then (if 0 < svC v c (tn x) (tE v c x) then (if c < 12 then nI c else -1004) else -1006) else tE v c x
def mtV (v : VV) (c : Nat) (x : Int32) : VV := if 0 ≤ tE v c x ∧ 0 < svC v c (tn x) (tE v c x) ∧ c < 12 then mgF 1 c (tn x) (tn (tE v c x)) c 0 false (nwB v 1 c) else v

set_option maxRecDepth 100000 in
set_option maxHeartbeats 4000000 in
theorem b_X3_mergeTail {E : TE} {G : GG} {v : VV} {c : Nat} {x : Int32} (hC : Cx E G cX3_mergeTail RX3 3 wsX3_mergeTail 4 92) (hR : RtI E G cX3_mergeTail (fun r v' => r = mtR v c x ∧ v' = mtV v c x)) (hW : PW v 1 c) : Wv E G v 0 [some (.ref (G.1 0)), some (.int x), none] [] := by
  have h12 := hW.2.1
  have hp := pow12 h12
  by_cases hc12 : c < 12
  · skip
    have i_X3 : ∀ w ∈ wsX30, w ∈ wsX3_mergeTail := by decide +kernel
    have l_10 : lnk E RX3 10 (TX3 0) := hC.fl (by decide +kernel)
    refine r_aload_n hC (q := 1) dX3_mergeTail_0 rfl rfl ?_
    refine r_iload_n hC (q := 2) dX3_mergeTail_1 rfl rfl ?_
    refine r_cVI hC (q := 5) (n := 1) (As := [_]) (fun lch => c_X3_tailOrError lch hW) gX3_mergeTail_X3_tailOrError rfl (by decide +kernel) ⟨by decide, by decide⟩ ob_0 rfl rfl rfl rfl (Nat.le_of_ble_eq_true rfl) dX3_mergeTail_2 rfl ?_
    rintro _ _ ⟨rfl, rfl⟩
    refine r_istore_n hC (q := 6) (L' := [_, _, _]) dX3_mergeTail_5 (Nat.le_of_ble_eq_true rfl) rfl rfl ?_
    refine r_iload_n hC (q := 7) dX3_mergeTail_6 rfl rfl ?_
    refine r_if_ge hC (q := 10) (t := 12) dX3_mergeTail_7 (by decide) rfl (fun h7 => ?_) (fun h7 => ?_)
    · obtain ⟨hi, hp2, m, hm, em, etl, hmb⟩ := tE_ok hW h7; obtain ⟨ex, bx⟩ := inb_tn (by omega) hi
      refine r_aload_n hC (q := 13) dX3_mergeTail_12 rfl rfl ?_
      refine g_X3 hC 0 i_X3 l_10 (by decide) (q := 16) dX3_mergeTail_13 rfl rfl ?_
      refine r_iload_n hC (q := 17) dX3_mergeTail_16 rfl rfl ?_
      refine r_top (y := nI (tn x)) ex ?_
      refine r_iload_n hC (q := 18) dX3_mergeTail_17 rfl rfl ?_
      refine r_cNI hC (q := 21) (n := 2) (As := [_, _]) (fun lch => c_X2_savingOfSet lch isPr_1 hW.1 h12 (by omega)) ggX3_mergeTail_X2_savingOfSet rfl 14 rfl (by decide +kernel) (by decide +kernel) (by decide +kernel) (by decide +kernel) ⟨by decide, by decide⟩ (ob_p isPr_1) rfl rfl rfl rfl (Nat.le_of_ble_eq_true rfl) dX3_mergeTail_18 rfl ?_
      rintro _ _ ⟨rfl, rfl⟩
      refine r_if_gt hC (q := 24) (t := 28) dX3_mergeTail_21 (by decide) rfl (fun h21 => ?_) (fun h21 => ?_)
      · have h21 : 0 < svC v c (tn x) (tE v c x) := h21
        refine r_aload_n hC (q := 29) dX3_mergeTail_28 rfl rfl ?_
        refine g_X3 hC 0 i_X3 l_10 (by decide) (q := 32) dX3_mergeTail_29 rfl rfl ?_
        refine r_iload_n hC (q := 33) dX3_mergeTail_32 rfl rfl ?_
        refine r_top (y := nI (tn x)) ex ?_
        refine r_iload_n hC (q := 34) dX3_mergeTail_33 rfl rfl ?_
        refine r_top (y := nI m) em ?_
        refine r_cNI hC (q := 37) (n := 2) (As := [_, _]) (fun lch => c_X2_mergeSet lch isPr_1 hW hc12 (by omega) hm hmb) ggX3_mergeTail_X2_mergeSet rfl 16 rfl (by decide +kernel) (by decide +kernel) (by decide +kernel) (by decide +kernel) ⟨by decide, by decide⟩ (ob_p isPr_1) rfl rfl rfl rfl (Nat.le_of_ble_eq_true rfl) dX3_mergeTail_34 rfl ?_
        rintro _ _ ⟨rfl, rfl⟩
        exact hR _ _ _ _ dX3_mergeTail_37 ⟨by rw [mtR, if_pos h7, if_pos h21, if_pos hc12], by rw [mtV, if_pos ⟨h7, h21, hc12⟩, em, tn_nI (by omega)]⟩
      · have h21 : ¬ 0 < svC v c (tn x) (tE v c x) := h21
        refine r_sipush hC (x := (-1006)) (q := 27) dX3_mergeTail_24 (by decide) rfl ?_
        exact hR _ _ _ _ dX3_mergeTail_27 ⟨by rw [mtR, if_pos h7, if_neg h21], by rw [mtV, if_neg (fun e => h21 e.2.1)]⟩
    · skip
      refine r_iload_n hC (q := 11) dX3_mergeTail_10 rfl rfl ?_
      exact hR _ _ _ _ dX3_mergeTail_11 ⟨by rw [mtR, if_neg h7], by rw [mtV, if_neg (fun e => h7 e.1)]⟩
  · have hc12e : c = 12 := by omega
    have i_X3 : ∀ w ∈ wsX30, w ∈ wsX3_mergeTail := by decide +kernel
    have l_10 : lnk E RX3 10 (TX3 0) := hC.fl (by decide +kernel)
    refine r_aload_n hC (q := 1) dX3_mergeTail_0 rfl rfl ?_
    refine r_iload_n hC (q := 2) dX3_mergeTail_1 rfl rfl ?_
    refine r_cVI hC (q := 5) (n := 1) (As := [_]) (fun lch => c_X3_tailOrError lch hW) gX3_mergeTail_X3_tailOrError rfl (by decide +kernel) ⟨by decide, by decide⟩ ob_0 rfl rfl rfl rfl (Nat.le_of_ble_eq_true rfl) dX3_mergeTail_2 rfl ?_
    rintro _ _ ⟨rfl, rfl⟩
    refine r_istore_n hC (q := 6) (L' := [_, _, _]) dX3_mergeTail_5 (Nat.le_of_ble_eq_true rfl) rfl rfl ?_
    refine r_iload_n hC (q := 7) dX3_mergeTail_6 rfl rfl ?_
    refine r_if_ge hC (q := 10) (t := 12) dX3_mergeTail_7 (by decide) rfl (fun h7 => ?_) (fun h7 => ?_)
    · obtain ⟨hi, hp2, m, hm, em, etl, hmb⟩ := tE_ok hW h7; obtain ⟨ex, bx⟩ := inb_tn (by omega) hi
      refine r_aload_n hC (q := 13) dX3_mergeTail_12 rfl rfl ?_
      refine g_X3 hC 0 i_X3 l_10 (by decide) (q := 16) dX3_mergeTail_13 rfl rfl ?_
      refine r_iload_n hC (q := 17) dX3_mergeTail_16 rfl rfl ?_
      refine r_top (y := nI (tn x)) ex ?_
      refine r_iload_n hC (q := 18) dX3_mergeTail_17 rfl rfl ?_
      refine r_cNI hC (q := 21) (n := 2) (As := [_, _]) (fun lch => c_X2_savingOfSet lch isPr_1 hW.1 h12 (by omega)) ggX3_mergeTail_X2_savingOfSet rfl 14 rfl (by decide +kernel) (by decide +kernel) (by decide +kernel) (by decide +kernel) ⟨by decide, by decide⟩ (ob_p isPr_1) rfl rfl rfl rfl (Nat.le_of_ble_eq_true rfl) dX3_mergeTail_18 rfl ?_
      rintro _ _ ⟨rfl, rfl⟩
      refine r_if_gt hC (q := 24) (t := 28) dX3_mergeTail_21 (by decide) rfl (fun h21 => ?_) (fun h21 => ?_)
      · have h21 : 0 < svC v c (tn x) (tE v c x) := h21
        refine r_aload_n hC (q := 29) dX3_mergeTail_28 rfl rfl ?_
        refine g_X3 hC 0 i_X3 l_10 (by decide) (q := 32) dX3_mergeTail_29 rfl rfl ?_
        refine r_iload_n hC (q := 33) dX3_mergeTail_32 rfl rfl ?_
        refine r_top (y := nI (tn x)) ex ?_
        refine r_iload_n hC (q := 34) dX3_mergeTail_33 rfl rfl ?_
        refine r_cNI hC (q := 37) (n := 2) (As := [_, _]) (fun lch => c_X2_mergeSetF lch isPr_1 (by rw [hW.1, hc12e])) ggX3_mergeTail_X2_mergeSet rfl 16 rfl (by decide +kernel) (by decide +kernel) (by decide +kernel) (by decide +kernel) ⟨by decide, by decide⟩ (ob_p isPr_1) rfl rfl rfl rfl (Nat.le_of_ble_eq_true rfl) dX3_mergeTail_34 rfl ?_
        rintro _ _ ⟨rfl, rfl⟩
        exact hR _ _ _ _ dX3_mergeTail_37 ⟨by rw [mtR, if_pos h7, if_pos h21, if_neg hc12], by rw [mtV, if_neg (fun e => hc12 e.2.2)]⟩
      · have h21 : ¬ 0 < svC v c (tn x) (tE v c x) := h21
        refine r_sipush hC (x := (-1006)) (q := 27) dX3_mergeTail_24 (by decide) rfl ?_
        exact hR _ _ _ _ dX3_mergeTail_27 ⟨by rw [mtR, if_pos h7, if_neg h21], by rw [mtV, if_neg (fun e => h21 e.2.1)]⟩
    · skip
      refine r_iload_n hC (q := 11) dX3_mergeTail_10 rfl rfl ?_
      exact hR _ _ _ _ dX3_mergeTail_11 ⟨by rw [mtR, if_neg h7], by rw [mtV, if_neg (fun e => h7 e.1)]⟩
theorem c_X3_mergeTail (l : Launch) {G : GG} {v : VV} {c : Nat} {x : Int32} (hW : PW v 1 c) : MtI l G yX3_mergeTail wsX3_mergeTail 4 92 [.ref (G.1 0), .int x] v (fun r v' => r = mtR v c x ∧ v' = mtV v c x) := mt_int (Or.inl rfl) (by decide) rfl (by simp [Value.category]) (Nat.le_of_ble_eq_true rfl) rfl rfl (fun E hC hR => b_X3_mergeTail hC hR hW)

theorem ptF_ok (x y : Bv) : ∀ (f t : Nat) (df : Bool), t ≤ (ptF x y f t df).1 ∧ (ptF x y f t df).1 ≤ t + f ∧ ((ptF x y f t df).2 = true → df = true ∨ t < (ptF x y f t df).1) := by
  intro f
  induction f with
  | zero => intro t df; exact ⟨Nat.le_refl t, Nat.le_refl t, fun h => Or.inl h⟩
  | succ f ih =>
    intro t df
    unfold ptF
    split
    · have h := ih (t + 1) (df || !(eqAb x y (t + 1)))
      exact ⟨by omega, by omega, fun _ => Or.inr (by omega)⟩
    · exact ⟨Nat.le_refl t, by show t ≤ _; omega, fun h => Or.inl h⟩
theorem pt_ok (x y : Bv) : pt x y = -1005 ∨ ∃ m, 1 ≤ m ∧ m ≤ x.1 ∧ m ≤ y.1 ∧ pt x y = nI m := by
  unfold pt
  by_cases h : x.2.2 0 = 2 ∧ eqTb x y = true
  · rw [if_pos h]
    by_cases h2 : (ptF x y (min x.1 y.1) 0 false).2 = true
    · rw [if_pos h2]
      have h3 := ptF_ok x y (min x.1 y.1) 0 false
      have h4 := h3.2.2 h2
      have h5 := Nat.min_le_left x.1 y.1
      have h6 := Nat.min_le_right x.1 y.1
      refine Or.inr ⟨_, ?_, by omega, by omega, rfl⟩
      rcases h4 with h4 | h4
      · cases h4
      · omega
    · rw [if_neg h2]; exact Or.inl rfl
  · rw [if_neg h]; exact Or.inl rfl
theorem q_two_ge {F : Bv → Bv → Int32} {c : Nat} {B : Nat → Bv} {x y : Int32} (h : 0 ≤ q_two F c B x y) : q_pair c x y = 0 := by
  by_cases h1 : q_pair c x y = 0
  · exact h1
  · rw [← q_two1 (F := F) (B := B) h1] at h
    unfold q_pair at h h1
    by_cases h2 : (inb x c && inb y c) = true
    · rw [if_pos h2] at h h1
      by_cases h3 : x = y
      · rw [if_pos h3] at h; exact absurd h (by decide)
      · rw [if_neg h3] at h1; exact absurd rfl h1
    · rw [if_neg h2] at h; exact absurd h (by decide)
theorem ptc_ok {v : VV} {c : Nat} {x y : Int32} (hW : PW v 1 c) (h : 0 ≤ q_two pt c (pv v 1) x y) : x = nI (tn x) ∧ tn x < c ∧ y = nI (tn y) ∧ tn y < c ∧ tn x ≠ tn y ∧ ∃ m, 1 ≤ m ∧ m ≤ nb v 1 (tn x) ∧ m ≤ nb v 1 (tn y) ∧ m ≤ 10 ∧ q_two pt c (pv v 1) x y = nI m := by
  have h12 := hW.2.1
  have h1 := q_two_ge h
  obtain ⟨hx1, hy1, hxy⟩ := q_pair0 h1
  obtain ⟨ex, bx⟩ := inb_tn (by omega) hx1
  obtain ⟨ey, by1⟩ := inb_tn (by omega) hy1
  refine ⟨ex, bx, ey, by1, fun e => hxy (by rw [ex, ey, e]), ?_⟩
  rw [q_two0 (F := pt) (B := pv v 1) h1] at h ⊢
  rcases pt_ok (pv v 1 (tn x)) (pv v 1 (tn y)) with h2 | ⟨m, h2, h3, h4, h5⟩
  · rw [h2] at h; exact absurd h n1005
  · have := (hW.2.2 _ bx).2
    exact ⟨m, h2, h3, h4, by show m ≤ 10; have : m ≤ nb v 1 (tn x) := h3; omega, h5⟩
def psR (v : VV) (c : Nat) (x y : Int32) : Int32 := if 0 ≤ q_two pt c (pv v 1) x y then q_two pt c (pv v 1) x y + tc v 1 (tn x) - 2 * v 1 2 - 2 else q_two pt c (pv v 1) x y
def mwR (v : VV) (c : Nat) (x y : Int32) : Int32 := if 0 ≤ q_two pt c (pv v 1) x y then (if c < 12 then nI c else -1004) else q_two pt c (pv v 1) x y
def mpV (v : VV) (c a b m : Nat) : VV := mpE (nwB v 1 c) 1 a b c m (nb v 1 a) (nb v 1 b) (bkF (bw (nwB v 1 c) (kB 1 a) (nb v 1 a)) (bw (nwB v 1 c) (kB 1 b) (nb v 1 b)) (m - 1) 1)
def mwV (v : VV) (c : Nat) (x y : Int32) : VV := if 0 ≤ q_two pt c (pv v 1) x y ∧ c < 12 then mpV v c (tn x) (tn y) (tn (q_two pt c (pv v 1) x y)) else v

set_option maxRecDepth 100000 in
set_option maxHeartbeats 4000000 in
theorem b_X3_parameterSaving {E : TE} {G : GG} {v : VV} {c : Nat} {x y : Int32} (hC : Cx E G cX3_parameterSaving RX3 4 wsX3_parameterSaving 4 94) (hR : RtI E G cX3_parameterSaving (fun r v' => r = psR v c x y ∧ v = v')) (hW : PW v 1 c) : Wv E G v 0 [some (.ref (G.1 0)), some (.int x), some (.int y), none] [] := by
  have h12 := hW.2.1
  have i_X3 : ∀ w ∈ wsX30, w ∈ wsX3_parameterSaving := by decide +kernel
  have l_10 : lnk E RX3 10 (TX3 0) := hC.fl (by decide +kernel)
  refine r_aload_n hC (q := 1) dX3_parameterSaving_0 rfl rfl ?_
  refine r_iload_n hC (q := 2) dX3_parameterSaving_1 rfl rfl ?_
  refine r_iload_n hC (q := 3) dX3_parameterSaving_2 rfl rfl ?_
  refine r_cVI hC (q := 6) (n := 2) (As := [_, _]) (fun lch => c_X3_parameterTail lch hW) gX3_parameterSaving_X3_parameterTail rfl (by decide +kernel) ⟨by decide, by decide⟩ ob_0 rfl rfl rfl rfl (Nat.le_of_ble_eq_true rfl) dX3_parameterSaving_3 rfl ?_
  rintro _ _ ⟨rfl, rfl⟩
  refine r_istore_n hC (q := 7) (L' := [_, _, _, _]) dX3_parameterSaving_6 (Nat.le_of_ble_eq_true rfl) rfl rfl ?_
  refine r_iload_n hC (q := 8) dX3_parameterSaving_7 rfl rfl ?_
  refine r_if_ge hC (q := 11) (t := 15) dX3_parameterSaving_8 (by decide) rfl (fun h8 => ?_) (fun h8 => ?_)
  · obtain ⟨ex, bx, ey, by1, hne, m, hm1, hmx, hmy, hm10, em⟩ := ptc_ok hW h8
    refine r_aload_n hC (q := 16) dX3_parameterSaving_15 rfl rfl ?_
    refine g_X3 hC 0 i_X3 l_10 (by decide) (q := 19) dX3_parameterSaving_16 rfl rfl ?_
    refine r_iload_n hC (q := 20) dX3_parameterSaving_19 rfl rfl ?_
    refine r_top (y := nI (tn x)) ex ?_
    refine r_iload_n hC (q := 21) dX3_parameterSaving_20 rfl rfl ?_
    refine r_cNI hC (q := 24) (n := 2) (As := [_, _]) (fun lch => c_X2_savingWithParameter lch isPr_1 (by omega)) ggX3_parameterSaving_X2_savingWithParameter rfl 20 rfl (by decide +kernel) (by decide +kernel) (by decide +kernel) (by decide +kernel) ⟨by decide, by decide⟩ (ob_p isPr_1) rfl rfl rfl rfl (Nat.le_of_ble_eq_true rfl) dX3_parameterSaving_21 rfl ?_
    rintro _ _ ⟨rfl, rfl⟩
    exact hR _ _ _ _ dX3_parameterSaving_24 ⟨by rw [psR, if_pos h8], rfl⟩
  · skip
    refine r_iload_n hC (q := 12) dX3_parameterSaving_11 rfl rfl ?_
    refine r_goto hC (t := 24) dX3_parameterSaving_12 (by decide) ?_
    exact hR _ _ _ _ dX3_parameterSaving_24 ⟨by rw [psR, if_neg h8], rfl⟩
theorem c_X3_parameterSaving (l : Launch) {G : GG} {v : VV} {c : Nat} {x y : Int32} (hW : PW v 1 c) : MtI l G yX3_parameterSaving wsX3_parameterSaving 4 94 [.ref (G.1 0), .int x, .int y] v (fun r v' => r = psR v c x y ∧ v = v') := mt_int (Or.inl rfl) (by decide) rfl (by simp [Value.category]) (Nat.le_of_ble_eq_true rfl) rfl rfl (fun E hC hR => b_X3_parameterSaving hC hR hW)

set_option maxRecDepth 100000 in
set_option maxHeartbeats 4000000 in
theorem b_X3_mergeWithParameter {E : TE} {G : GG} {v : VV} {c : Nat} {x y : Int32} (hC : Cx E G cX3_mergeWithParameter RX3 4 wsX3_mergeWithParameter 4 97) (hR : RtI E G cX3_mergeWithParameter (fun r v' => r = mwR v c x y ∧ v' = mwV v c x y)) (hW : PW v 1 c) : Wv E G v 0 [some (.ref (G.1 0)), some (.int x), some (.int y), none] [] := by
  have h12 := hW.2.1
  by_cases hc12 : c < 12
  · skip
    have i_X3 : ∀ w ∈ wsX30, w ∈ wsX3_mergeWithParameter := by decide +kernel
    have l_10 : lnk E RX3 10 (TX3 0) := hC.fl (by decide +kernel)
    refine r_aload_n hC (q := 1) dX3_mergeWithParameter_0 rfl rfl ?_
    refine r_iload_n hC (q := 2) dX3_mergeWithParameter_1 rfl rfl ?_
    refine r_iload_n hC (q := 3) dX3_mergeWithParameter_2 rfl rfl ?_
    refine r_cVI hC (q := 6) (n := 2) (As := [_, _]) (fun lch => c_X3_parameterTail lch hW) gX3_mergeWithParameter_X3_parameterTail rfl (by decide +kernel) ⟨by decide, by decide⟩ ob_0 rfl rfl rfl rfl (Nat.le_of_ble_eq_true rfl) dX3_mergeWithParameter_3 rfl ?_
    rintro _ _ ⟨rfl, rfl⟩
    refine r_istore_n hC (q := 7) (L' := [_, _, _, _]) dX3_mergeWithParameter_6 (Nat.le_of_ble_eq_true rfl) rfl rfl ?_
    refine r_iload_n hC (q := 8) dX3_mergeWithParameter_7 rfl rfl ?_
    refine r_if_ge hC (q := 11) (t := 15) dX3_mergeWithParameter_8 (by decide) rfl (fun h8 => ?_) (fun h8 => ?_)
    · obtain ⟨ex, bx, ey, by1, hne, m, hm1, hmx, hmy, hm10, em⟩ := ptc_ok hW h8
      refine r_aload_n hC (q := 16) dX3_mergeWithParameter_15 rfl rfl ?_
      refine g_X3 hC 0 i_X3 l_10 (by decide) (q := 19) dX3_mergeWithParameter_16 rfl rfl ?_
      refine r_iload_n hC (q := 20) dX3_mergeWithParameter_19 rfl rfl ?_
      refine r_top (y := nI (tn x)) ex ?_
      refine r_iload_n hC (q := 21) dX3_mergeWithParameter_20 rfl rfl ?_
      refine r_top (y := nI (tn y)) ey ?_
      refine r_iload_n hC (q := 22) dX3_mergeWithParameter_21 rfl rfl ?_
      refine r_top (y := nI m) em ?_
      refine r_cNI hC (q := 25) (n := 3) (As := [_, _, _]) (fun lch => c_X2_mergePair lch isPr_1 hW hc12 bx by1 hne hm1 hmx hmy) ggX3_mergeWithParameter_X2_mergePair rfl 21 rfl (by decide +kernel) (by decide +kernel) (by decide +kernel) (by decide +kernel) ⟨by decide, by decide⟩ (ob_p isPr_1) rfl rfl rfl rfl (Nat.le_of_ble_eq_true rfl) dX3_mergeWithParameter_22 rfl ?_
      rintro _ _ ⟨rfl, rfl⟩
      exact hR _ _ _ _ dX3_mergeWithParameter_25 ⟨by rw [mwR, if_pos h8, if_pos hc12], by rw [mwV, if_pos ⟨h8, hc12⟩, em, tn_nI (by omega)]; rfl⟩
    · skip
      refine r_iload_n hC (q := 12) dX3_mergeWithParameter_11 rfl rfl ?_
      refine r_goto hC (t := 25) dX3_mergeWithParameter_12 (by decide) ?_
      exact hR _ _ _ _ dX3_mergeWithParameter_25 ⟨by rw [mwR, if_neg h8], by rw [mwV, if_neg (fun e => h8 e.1)]⟩
  · have hc12e : c = 12 := by omega
    have i_X3 : ∀ w ∈ wsX30, w ∈ wsX3_mergeWithParameter := by decide +kernel
    have l_10 : lnk E RX3 10 (TX3 0) := hC.fl (by decide +kernel)
    refine r_aload_n hC (q := 1) dX3_mergeWithParameter_0 rfl rfl ?_
    refine r_iload_n hC (q := 2) dX3_mergeWithParameter_1 rfl rfl ?_
    refine r_iload_n hC (q := 3) dX3_mergeWithParameter_2 rfl rfl ?_
    refine r_cVI hC (q := 6) (n := 2) (As := [_, _]) (fun lch => c_X3_parameterTail lch hW) gX3_mergeWithParameter_X3_parameterTail rfl (by decide +kernel) ⟨by decide, by decide⟩ ob_0 rfl rfl rfl rfl (Nat.le_of_ble_eq_true rfl) dX3_mergeWithParameter_3 rfl ?_
    rintro _ _ ⟨rfl, rfl⟩
    refine r_istore_n hC (q := 7) (L' := [_, _, _, _]) dX3_mergeWithParameter_6 (Nat.le_of_ble_eq_true rfl) rfl rfl ?_
    refine r_iload_n hC (q := 8) dX3_mergeWithParameter_7 rfl rfl ?_
    refine r_if_ge hC (q := 11) (t := 15) dX3_mergeWithParameter_8 (by decide) rfl (fun h8 => ?_) (fun h8 => ?_)
    · obtain ⟨ex, bx, ey, by1, hne, m, hm1, hmx, hmy, hm10, em⟩ := ptc_ok hW h8
      refine r_aload_n hC (q := 16) dX3_mergeWithParameter_15 rfl rfl ?_
      refine g_X3 hC 0 i_X3 l_10 (by decide) (q := 19) dX3_mergeWithParameter_16 rfl rfl ?_
      refine r_iload_n hC (q := 20) dX3_mergeWithParameter_19 rfl rfl ?_
      refine r_iload_n hC (q := 21) dX3_mergeWithParameter_20 rfl rfl ?_
      refine r_iload_n hC (q := 22) dX3_mergeWithParameter_21 rfl rfl ?_
      refine r_cNI hC (q := 25) (n := 3) (As := [_, _, _]) (fun lch => c_X2_mergePairF lch isPr_1 (by rw [hW.1, hc12e])) ggX3_mergeWithParameter_X2_mergePair rfl 21 rfl (by decide +kernel) (by decide +kernel) (by decide +kernel) (by decide +kernel) ⟨by decide, by decide⟩ (ob_p isPr_1) rfl rfl rfl rfl (Nat.le_of_ble_eq_true rfl) dX3_mergeWithParameter_22 rfl ?_
      rintro _ _ ⟨rfl, rfl⟩
      exact hR _ _ _ _ dX3_mergeWithParameter_25 ⟨by rw [mwR, if_pos h8, if_neg hc12], by rw [mwV, if_neg (fun e => hc12 e.2)]⟩
    · skip
      refine r_iload_n hC (q := 12) dX3_mergeWithParameter_11 rfl rfl ?_
      refine r_goto hC (t := 25) dX3_mergeWithParameter_12 (by decide) ?_
      exact hR _ _ _ _ dX3_mergeWithParameter_25 ⟨by rw [mwR, if_neg h8], by rw [mwV, if_neg (fun e => h8 e.1)]⟩
theorem c_X3_mergeWithParameter (l : Launch) {G : GG} {v : VV} {c : Nat} {x y : Int32} (hW : PW v 1 c) : MtI l G yX3_mergeWithParameter wsX3_mergeWithParameter 4 97 [.ref (G.1 0), .int x, .int y] v (fun r v' => r = mwR v c x y ∧ v' = mwV v c x y) := mt_int (Or.inl rfl) (by decide) rfl (by simp [Value.category]) (Nat.le_of_ble_eq_true rfl) rfl rfl (fun E hC hR => b_X3_mergeWithParameter hC hR hW)
