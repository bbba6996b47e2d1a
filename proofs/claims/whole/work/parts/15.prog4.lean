theorem isPr_sep {p p2 : Nat} (h : isPr p) (h2 : isPr p2) (hn : p ≠ p2) : p + 87 < p2 ∨ p2 + 87 < p := by
  unfold isPr at h h2
  omega
theorem PW.far {v w : VV} {p c : Nat} (h : PW v p c) (hw : ∀ q, p ≤ q → q ≤ p + 87 → w q = v q) : PW w p c := by
  have h12 := h.2.1
  refine ⟨by rw [hw p (by omega) (by omega)]; exact h.1, h.2.1, fun b hb => ?_⟩
  have h1 : w (kB p b) = v (kB p b) := hw _ (by unfold kB; omega) (by unfold kB; omega)
  rw [nb_eq h1, h1]
  exact h.2.2 b hb
theorem apL_far {k k2 q : Nat} (h : k + 6 < q ∨ q < k) : ∀ (f n i : Nat) (v : VV), apL k k2 f n i v q = v q := by
  intro f
  induction f with
  | zero => intro n i v; rfl
  | succ f ih => intro n i v; rw [apL, ih, ap_far h]
theorem apT_far {v : VV} {k k2 n n2 m q : Nat} (h : k + 6 < q ∨ q < k) : apT v k k2 n n2 m q = v q := by
  unfold apT apE
  rw [tm_far h, apL_far h]
theorem apL_cnt {k k2 : Nat} : ∀ (f n i : Nat) (v : VV), v k 5 = nI n → apL k k2 f n i v k 5 = nI (n + f) := by
  intro f
  induction f with
  | zero => intro n i v h; exact h
  | succ f ih =>
    intro n i v h
    rw [apL, ih (n + 1) _ _ ap_cnt]
    congr 1
    omega
theorem tm_cnt {v : VV} {k : Nat} {a b c d : Int32} : tm v k a b c d k 5 = v k 5 := by simp [tm, va_up, upd]
theorem apT_cnt {v : VV} {k k2 n n2 m : Nat} (h : v k 5 = nI n) : apT v k k2 n n2 m k 5 = nI (n + m) := by
  unfold apT apE
  rw [tm_cnt, apL_cnt _ _ _ _ h]
theorem unF_far {k k2 n n2 q : Nat} (h : q ≠ k + 5) : ∀ (f b : Nat) (v : VV), unF k k2 n n2 f b v q = v q := by
  intro f
  induction f with
  | zero => intro b v; rfl
  | succ f ih => intro b v; rw [unF, ih, u2_ne h]
theorem rpJ_far {v : VV} {k n m q : Nat} {t : Int32} (h : k + 6 < q ∨ q < k) : rpJ v k n m t q = v q := by
  unfold rpJ
  rw [tm_far h, u2_ne (by omega)]
theorem rpP_far {v : VV} {k n m b q : Nat} {t : Int32} (h : k + 6 < q ∨ q < k) : rpP v k n m b t q = v q := by
  unfold rpP
  rw [ap_far h, rpJ_far h]
theorem tkP_far {v : VV} {k n b q : Nat} (h : q ≠ k + 1) (h2 : q ≠ k + 3) : tkP v k n b q = v q := by
  unfold tkP
  rw [u2_ne h2, u2_ne h]
theorem clr_far {v : VV} {k q : Nat} (h : k + 6 < q ∨ q < k) : clr v k q = v q := by
  unfold clr
  rw [tm_far h, u2_ne (by omega)]
/-- a new block behind the c that are there -/
def nwB (v : VV) (p c : Nat) : VV := u2 (clr v (kB p c)) p 1 (nI (c + 1))
theorem nwB_far {v : VV} {p c q : Nat} (h : kB p c + 6 < q ∨ q < kB p c) (h2 : q ≠ p) : nwB v p c q = v q := by
  unfold nwB
  rw [u2_ne h2, clr_far h]
theorem nwB_cnt {v : VV} {p c : Nat} : nwB v p c (kB p c) 5 = 0 := by
  unfold nwB clr
  rw [u2_ne (by unfold kB; omega), tm_cnt]
  simp [va_up, upd]
theorem kB_far {p a b : Nat} (h : a ≠ b) : kB p b + 6 < kB p a ∨ kB p a < kB p b := by unfold kB; omega
theorem kB_far2 {p a b q : Nat} (h : a ≠ b) (h1 : kB p a ≤ q) (h2 : q ≤ kB p a + 6) : kB p b + 6 < q ∨ q < kB p b := by unfold kB at *; omega

def cpF (p p2 : Nat) : Nat → Nat → VV → VV
  | 0, _, v => v
  | f + 1, b, v => cpF p p2 f (b + 1) (apT (u2 v (kB p b) 5 0) (kB p b) (kB p2 b) 0 (nb v p2 b) (nb v p2 b))
def cpE (p p2 : Nat) (w : VV) : VV := va_up (u2 w p 2 (w p2 2)) (p + 86) (va_cpy (u2 w p 2 (w p2 2) (p2 + 86)) (u2 w p 2 (w p2 2) (p + 86)) 0 0 8)

set_option maxRecDepth 100000 in
set_option maxHeartbeats 4000000 in
theorem lp_X2_copyFrom {E : TE} {G : GG} {p p2 c : Nat} {post : VV → Prop} (hC : Cx E G cX2_copyFrom RX2 3 wsX2_copyFrom 3 70) (hR : RtV E G cX2_copyFrom post) (hp : isPr p) (hp2 : isPr p2) (hne : p ≠ p2) (h12 : c ≤ 12) : ∀ (f b : Nat) (v : VV), b + f = c → v p 1 = nI c → PW v p2 c → post (cpE p p2 (cpF p p2 f b v)) → Wv E G v 10 [some (.ref (G.1 p)), some (.ref (G.1 p2)), some (.int (nI b))] [] := by
  have hs := isPr_sep hp hp2 hne
  intro f
  induction f with
  | zero =>
    intro b v hbf hc hW hpost
    have i_X2 : ∀ w ∈ wsX20, w ∈ wsX2_copyFrom := by decide +kernel
    have l_18 : lnk E RX2 18 (TX2 1) := hC.fl (by decide +kernel)
    have l_22 : lnk E RX2 22 (TX2 2) := hC.fl (by decide +kernel)
    have l_25 : lnk E RX2 25 (TX2 3) := hC.fl (by decide +kernel)
    refine r_iload_n hC (q := 11) dX2_copyFrom_10 rfl rfl ?_
    refine r_aload_n hC (q := 12) dX2_copyFrom_11 rfl rfl ?_
    refine g_X2 hC 1 i_X2 l_18 (by decide) (q := 15) dX2_copyFrom_12 hp rfl rfl ?_
    refine r_top (y := nI c) hc ?_
    refine r_icmp_geN hC (q := 18) (t := 39) dX2_copyFrom_15 rfl rfl (by omega) (by omega) (by decide) rfl (fun h15 => ?_) (fun h15 => ?_)
    · skip
      refine r_aload_n hC (q := 40) dX2_copyFrom_39 rfl rfl ?_
      refine r_aload_n hC (q := 41) dX2_copyFrom_40 rfl rfl ?_
      refine g_X2 hC 2 i_X2 l_22 (by decide) (q := 44) dX2_copyFrom_41 hp2 rfl rfl ?_
      refine p_X2_2 hC i_X2 l_22 (q := 47) dX2_copyFrom_44 hp rfl ?_
      refine r_aload_n hC (q := 48) dX2_copyFrom_47 rfl rfl ?_
      refine g_X2 hC 3 i_X2 l_25 (by decide) (q := 51) dX2_copyFrom_48 hp2 rfl rfl ?_
      refine r_iconst hC (x := 0) (q := 52) dX2_copyFrom_51 (by decide) rfl ?_
      refine r_aload_n hC (q := 53) dX2_copyFrom_52 rfl rfl ?_
      refine g_X2 hC 3 i_X2 l_25 (by decide) (q := 56) dX2_copyFrom_53 hp rfl rfl ?_
      refine r_iconst hC (x := 0) (q := 57) dX2_copyFrom_56 (by decide) rfl ?_
      refine r_bipush hC (x := 8) (q := 59) dX2_copyFrom_57 (by decide) rfl ?_
      refine r_copy hC (q := 62) (by decide +kernel) (by decide +kernel) (by decide +kernel) (by decide +kernel) rfl (by decide) (Nat.le_of_ble_eq_true (by decide +kernel)) (iA_p86 hp2) (iA_p86 hp) (by decide) (by decide) (by decide) (by decide) (by decide) dX2_copyFrom_59 rfl ?_
      exact hR _ _ _ dX2_copyFrom_62 hpost
    · skip
      omega
  | succ f ih =>
    intro b v hbf hc hW hpost
    have i_X2 : ∀ w ∈ wsX20, w ∈ wsX2_copyFrom := by decide +kernel
    have l_11 : lnk E RX2 11 (TX2 0) := hC.fl (by decide +kernel)
    have l_18 : lnk E RX2 18 (TX2 1) := hC.fl (by decide +kernel)
    refine r_iload_n hC (q := 11) dX2_copyFrom_10 rfl rfl ?_
    refine r_aload_n hC (q := 12) dX2_copyFrom_11 rfl rfl ?_
    refine g_X2 hC 1 i_X2 l_18 (by decide) (q := 15) dX2_copyFrom_12 hp rfl rfl ?_
    refine r_top (y := nI c) hc ?_
    refine r_icmp_geN hC (q := 18) (t := 39) dX2_copyFrom_15 rfl rfl (by omega) (by omega) (by decide) rfl (fun h15 => ?_) (fun h15 => ?_)
    · skip
      omega
    · skip
      refine r_aload_n hC (q := 19) dX2_copyFrom_18 rfl rfl ?_
      refine g_X2 hC 0 i_X2 l_11 (by decide) (q := 22) dX2_copyFrom_19 hp rfl rfl ?_
      refine r_iload_n hC (q := 23) dX2_copyFrom_22 rfl rfl ?_
      refine r_aBN hC (q := 24) dX2_copyFrom_23 hp rfl (by omega) rfl ?_
      refine r_aload_n hC (q := 25) dX2_copyFrom_24 rfl rfl ?_
      refine g_X2 hC 0 i_X2 l_11 (by decide) (q := 28) dX2_copyFrom_25 hp2 rfl rfl ?_
      refine r_iload_n hC (q := 29) dX2_copyFrom_28 rfl rfl ?_
      refine r_aBN hC (q := 30) dX2_copyFrom_29 hp2 rfl (by omega) rfl ?_
      refine r_cNV hC (q := 33) (n := 1) (As := [_]) (fun lch => c_X0_copyFrom lch (n2 := nb v p2 b) (isBk_of hp (by omega)) (isBk_of hp2 (by omega)) (by omega) (hW.2.2 b (by omega)).1 (hW.2.2 b (by omega)).2) ggX2_copyFrom_X0_copyFrom rfl 27 rfl (by decide +kernel) (by decide +kernel) (by decide +kernel) (by decide +kernel) ⟨by decide, by decide⟩ (ob_b (isBk_of hp (by omega))) rfl rfl rfl rfl (Nat.le_of_ble_eq_true rfl) dX2_copyFrom_30 rfl ?_
      rintro _ rfl
      refine r_iincN hC (q := 36) (L' := [_, _, _]) (c := 1) dX2_copyFrom_33 rfl rfl rfl rfl rfl ?_
      refine r_goto hC (t := 10) dX2_copyFrom_36 (by decide) ?_
      exact ih (b + 1) _ (by omega) (by rw [apT_far (by omega), u2_ne (by omega)]; exact hc) (hW.far (fun q h1 h2 => by rw [apT_far (by omega), u2_ne (by omega)])) hpost

set_option maxRecDepth 100000 in
set_option maxHeartbeats 4000000 in
theorem b_X2_copyFrom {E : TE} {G : GG} {v : VV} {p : Nat} {p2 c : Nat} (hC : Cx E G cX2_copyFrom RX2 3 wsX2_copyFrom 3 70) (hR : RtV E G cX2_copyFrom (fun v' => v' = cpE p p2 (cpF p p2 c 0 (u2 v p 1 (v p2 1))))) (hp : isPr p) (hp2 : isPr p2) (hne : p ≠ p2) (hW : PW v p2 c) : Wv E G v 0 [some (.ref (G.1 p)), some (.ref (G.1 p2)), none] [] := by
  have i_X2 : ∀ w ∈ wsX20, w ∈ wsX2_copyFrom := by decide +kernel
  have l_18 : lnk E RX2 18 (TX2 1) := hC.fl (by decide +kernel)
  refine r_aload_n hC (q := 1) dX2_copyFrom_0 rfl rfl ?_
  refine r_aload_n hC (q := 2) dX2_copyFrom_1 rfl rfl ?_
  refine g_X2 hC 1 i_X2 l_18 (by decide) (q := 5) dX2_copyFrom_2 hp2 rfl rfl ?_
  refine p_X2_1 hC i_X2 l_18 (q := 8) dX2_copyFrom_5 hp rfl ?_
  refine r_iconst hC (x := 0) (q := 9) dX2_copyFrom_8 (by decide) rfl ?_
  refine r_istore_n hC (q := 10) (L' := [_, _, _]) dX2_copyFrom_9 (Nat.le_of_ble_eq_true rfl) rfl rfl ?_
  exact lp_X2_copyFrom hC hR hp hp2 hne hW.2.1 c 0 _ (by omega) (by simp [va_up, upd]; exact hW.1) (hW.far (fun q h1 h2 => u2_ne (by have := isPr_sep hp hp2 hne; omega))) rfl
theorem c_X2_copyFrom (l : Launch) {G : GG} {v : VV} {p : Nat} {p2 c : Nat} (hp : isPr p) (hp2 : isPr p2) (hne : p ≠ p2) (hW : PW v p2 c) : MtV l G yX2_copyFrom wsX2_copyFrom 3 70 [.ref (G.1 p), .ref (G.1 p2)] v (fun v' => v' = cpE p p2 (cpF p p2 c 0 (u2 v p 1 (v p2 1)))) := mt_void (by decide) rfl (by simp [Value.category]) (Nat.le_of_ble_eq_true rfl) rfl rfl (fun E hC hR => b_X2_copyFrom hC hR hp hp2 hne hW)

def mgS (v : VV) (p c m b : Nat) (fl : Bool) : VV := rpJ (if fl = true then unF (kB p c) (kB p b) m (nb v p b) m 1 v else apT v (kB p c) (kB p b) 0 (nb v p b) m) (kB p b) (nb v p b) m (nI c)
def mgF (p c S m : Nat) : Nat → Nat → Bool → VV → VV
  | 0, _, _, v => v
  | f + 1, b, fl, v => if Nat.testBit S b = true then mgF p c S m f (b + 1) true (mgS v p c m b fl) else mgF p c S m f (b + 1) fl v
theorem mgS_far {v : VV} {p c m b q : Nat} {fl : Bool} (h1 : kB p b + 6 < q ∨ q < kB p b) (h2 : kB p c + 6 < q ∨ q < kB p c) : mgS v p c m b fl q = v q := by
  unfold mgS
  rw [rpJ_far h1]
  cases fl
  · rw [if_neg (by decide), apT_far h2]
  · rw [if_pos rfl, unF_far (by omega)]
theorem mgS_cnt {v : VV} {p c m b : Nat} {fl : Bool} (hbc : b ≠ c) (h : v (kB p c) 5 = nI (if fl = true then m else 0)) : mgS v p c m b fl (kB p c) 5 = nI m := by
  unfold mgS
  rw [rpJ_far (by have := kB_far (p := p) hbc; unfold kB at *; omega)]
  cases fl
  · rw [if_neg (by decide), apT_cnt (n := 0) (by rw [h]; rfl), Nat.zero_add]
  · rw [if_pos rfl, unF_far (by omega), h, if_pos rfl]
theorem nI_ne1004 {a : Nat} (h : a < 13) : ¬ nI a = -1004 := by
  have : ∀ a, a < 13 → ¬ nI a = -1004 := by decide +kernel
  exact this a h

set_option maxRecDepth 100000 in
set_option maxHeartbeats 4000000 in
theorem lp_X2_mergeSet {E : TE} {G : GG} {p c S m : Nat} {post : Int32 → VV → Prop} (hC : Cx E G cX2_mergeSet RX2 6 wsX2_mergeSet 3 66) (hR : RtI E G cX2_mergeSet post) (hp : isPr p) (h12 : c < 12) (hS : S < 4096) (hm : m ≤ 10) : ∀ (f b : Nat) (fl : Bool) (v : VV), b + f = c → (∀ b', b ≤ b' → b' < c → v (kB p b') 5 = nI (nb v p b') ∧ nb v p b' ≤ 10 ∧ (Nat.testBit S b' = true → m ≤ nb v p b')) → v (kB p c) 5 = nI (if fl = true then m else 0) → post (nI c) (mgF p c S m f b fl v) → Wv E G v 22 [some (.ref (G.1 p)), some (.int (nI S)), some (.int (nI m)), some (.int (nI c)), some (.int (bI fl)), some (.int (nI b))] [] := by
  intro f
  induction f with
  | zero =>
    intro b fl v hbf hB hcc hpost
    refine r_iload hC (q := 24) dX2_mergeSet_22 rfl rfl ?_
    refine r_iload_n hC (q := 25) dX2_mergeSet_24 rfl rfl ?_
    refine r_icmp_geN hC (q := 28) (t := 100) dX2_mergeSet_25 rfl rfl (by omega) (by omega) (by decide) rfl (fun h25 => ?_) (fun h25 => ?_)
    · skip
      refine r_iload_n hC (q := 101) dX2_mergeSet_100 rfl rfl ?_
      exact hR _ _ _ _ dX2_mergeSet_101 hpost
    · skip
      omega
  | succ f ih =>
    intro b fl v hbf hB hcc hpost
    have hb := hB b (Nat.le_refl b) (by omega)
    cases fl with
    | false =>
      have i_X2 : ∀ w ∈ wsX20, w ∈ wsX2_mergeSet := by decide +kernel
      have l_11 : lnk E RX2 11 (TX2 0) := hC.fl (by decide +kernel)
      refine r_iload hC (q := 24) dX2_mergeSet_22 rfl rfl ?_
      refine r_iload_n hC (q := 25) dX2_mergeSet_24 rfl rfl ?_
      refine r_icmp_geN hC (q := 28) (t := 100) dX2_mergeSet_25 rfl rfl (by omega) (by omega) (by decide) rfl (fun h25 => ?_) (fun h25 => ?_)
      · skip
        omega
      · skip
        refine r_iload_n hC (q := 29) dX2_mergeSet_28 rfl rfl ?_
        refine r_iload hC (q := 31) dX2_mergeSet_29 rfl rfl ?_
        refine r_cSI hC (q := 34) (n := 2) (As := [_, _]) (fun lch => c_X2_contains lch (by omega) (by omega)) gX2_mergeSet_X2_contains rfl (by decide +kernel) ⟨by decide, by decide⟩ rfl rfl rfl (Nat.le_of_ble_eq_true rfl) dX2_mergeSet_31 rfl ?_
        rintro _ _ ⟨rfl, rfl⟩
        refine r_if_eqB hC (q := 37) (t := 94) dX2_mergeSet_34 (by decide) rfl (fun h34 => ?_) (fun h34 => ?_)
        · skip
          refine r_iincN hC (q := 97) (L' := [_, _, _, _, _, _]) (c := 1) dX2_mergeSet_94 rfl rfl rfl rfl rfl ?_
          refine r_goto hC (t := 22) dX2_mergeSet_97 (by decide) ?_
          exact ih (b + 1) false _ (by omega) (fun b' h1 h2 => hB b' (by omega) h2) hcc (by rw [mgF, if_neg h34] at hpost; exact hpost)
        · skip
          refine r_iload hC (q := 39) dX2_mergeSet_37 rfl rfl ?_
          refine r_if_eq hC (q := 42) (t := 62) dX2_mergeSet_39 (by decide) rfl (fun h39 => ?_) (fun h39 => ?_)
          · skip
            refine r_aload_n hC (q := 63) dX2_mergeSet_62 rfl rfl ?_
            refine g_X2 hC 0 i_X2 l_11 (by decide) (q := 66) dX2_mergeSet_63 hp rfl rfl ?_
            refine r_iload_n hC (q := 67) dX2_mergeSet_66 rfl rfl ?_
            refine r_aBN hC (q := 68) dX2_mergeSet_67 hp rfl (by omega) rfl ?_
            refine r_aload_n hC (q := 69) dX2_mergeSet_68 rfl rfl ?_
            refine g_X2 hC 0 i_X2 l_11 (by decide) (q := 72) dX2_mergeSet_69 hp rfl rfl ?_
            refine r_iload hC (q := 74) dX2_mergeSet_72 rfl rfl ?_
            refine r_aBN hC (q := 75) dX2_mergeSet_74 hp rfl (by omega) rfl ?_
            refine r_iload_n hC (q := 76) dX2_mergeSet_75 rfl rfl ?_
            refine r_cNV hC (q := 79) (n := 2) (As := [_, _]) (fun lch => c_X0_appendTail lch (k := kB p c) (k2 := kB p b) (n := 0) (n2 := nb v p b) (m := m) (isBk_of hp h12) (isBk_of hp (b := b) (by omega)) (kB_ne (by omega)) hcc hb.1 hb.2.1 (hb.2.2 h34) (by omega)) ggX2_mergeSet_X0_appendTail rfl 18 rfl (by decide +kernel) (by decide +kernel) (by decide +kernel) (by decide +kernel) ⟨by decide, by decide⟩ (ob_b (isBk_of hp (by omega))) rfl rfl rfl rfl (Nat.le_of_ble_eq_true rfl) dX2_mergeSet_76 rfl ?_
            rintro _ rfl
            refine r_iconst hC (x := 1) (q := 80) dX2_mergeSet_79 (by decide) rfl ?_
            refine r_istore hC (q := 82) (L' := [_, _, _, _, _, _]) dX2_mergeSet_80 (Nat.le_of_ble_eq_true rfl) rfl rfl ?_
            refine r_aload_n hC (q := 83) dX2_mergeSet_82 rfl rfl ?_
            refine g_X2 hC 0 i_X2 l_11 (by decide) (q := 86) dX2_mergeSet_83 hp rfl rfl ?_
            refine r_iload hC (q := 88) dX2_mergeSet_86 rfl rfl ?_
            refine r_aBN hC (q := 89) dX2_mergeSet_88 hp rfl (by omega) rfl ?_
            refine r_iload_n hC (q := 90) dX2_mergeSet_89 rfl rfl ?_
            refine r_iload_n hC (q := 91) dX2_mergeSet_90 rfl rfl ?_
            refine r_cNV hC (q := 94) (n := 2) (As := [_, _]) (fun lch => c_X0_replaceTailByJump lch (n := nb v p b) (m := m) (isBk_of hp (b := b) (by omega)) (by rw [apT_far (kB_far (by omega))]; exact hb.1) (hb.2.2 h34)) ggX2_mergeSet_X0_replaceTailByJump rfl 19 rfl (by decide +kernel) (by decide +kernel) (by decide +kernel) (by decide +kernel) ⟨by decide, by decide⟩ (ob_b (isBk_of hp (by omega))) rfl rfl rfl rfl (Nat.le_of_ble_eq_true rfl) dX2_mergeSet_91 rfl ?_
            rintro _ rfl
            refine r_iincN hC (q := 97) (L' := [_, _, _, _, _, _]) (c := 1) dX2_mergeSet_94 rfl rfl rfl rfl rfl ?_
            refine r_goto hC (t := 22) dX2_mergeSet_97 (by decide) ?_
            refine (show Wv E G (mgS v p c m b false) 22 _ [] from ?_)
            exact ih (b + 1) true _ (by omega) (fun b' h1 h2 => by have e : mgS v p c m b false (kB p b') = v (kB p b') := mgS_far (kB_far (by omega)) (kB_far (by omega)); rw [show (mgS v p c m b false : VV) = mgS v p c m b false from rfl, nb_eq e, e]; exact hB b' (by omega) h2) (mgS_cnt (fl := false) (by omega) hcc) (by rw [mgF, if_pos h34] at hpost; exact hpost)
          · skip
            exact absurd rfl h39
    | true =>
      have i_X2 : ∀ w ∈ wsX20, w ∈ wsX2_mergeSet := by decide +kernel
      have l_11 : lnk E RX2 11 (TX2 0) := hC.fl (by decide +kernel)
      refine r_iload hC (q := 24) dX2_mergeSet_22 rfl rfl ?_
      refine r_iload_n hC (q := 25) dX2_mergeSet_24 rfl rfl ?_
      refine r_icmp_geN hC (q := 28) (t := 100) dX2_mergeSet_25 rfl rfl (by omega) (by omega) (by decide) rfl (fun h25 => ?_) (fun h25 => ?_)
      · skip
        omega
      · skip
        refine r_iload_n hC (q := 29) dX2_mergeSet_28 rfl rfl ?_
        refine r_iload hC (q := 31) dX2_mergeSet_29 rfl rfl ?_
        refine r_cSI hC (q := 34) (n := 2) (As := [_, _]) (fun lch => c_X2_contains lch (by omega) (by omega)) gX2_mergeSet_X2_contains rfl (by decide +kernel) ⟨by decide, by decide⟩ rfl rfl rfl (Nat.le_of_ble_eq_true rfl) dX2_mergeSet_31 rfl ?_
        rintro _ _ ⟨rfl, rfl⟩
        refine r_if_eqB hC (q := 37) (t := 94) dX2_mergeSet_34 (by decide) rfl (fun h34 => ?_) (fun h34 => ?_)
        · skip
          refine r_iincN hC (q := 97) (L' := [_, _, _, _, _, _]) (c := 1) dX2_mergeSet_94 rfl rfl rfl rfl rfl ?_
          refine r_goto hC (t := 22) dX2_mergeSet_97 (by decide) ?_
          exact ih (b + 1) true _ (by omega) (fun b' h1 h2 => hB b' (by omega) h2) hcc (by rw [mgF, if_neg h34] at hpost; exact hpost)
        · skip
          refine r_iload hC (q := 39) dX2_mergeSet_37 rfl rfl ?_
          refine r_if_eq hC (q := 42) (t := 62) dX2_mergeSet_39 (by decide) rfl (fun h39 => ?_) (fun h39 => ?_)
          · skip
            exact absurd h39 (by decide)
          · skip
            refine r_aload_n hC (q := 43) dX2_mergeSet_42 rfl rfl ?_
            refine g_X2 hC 0 i_X2 l_11 (by decide) (q := 46) dX2_mergeSet_43 hp rfl rfl ?_
            refine r_iload_n hC (q := 47) dX2_mergeSet_46 rfl rfl ?_
            refine r_aBN hC (q := 48) dX2_mergeSet_47 hp rfl (by omega) rfl ?_
            refine r_aload_n hC (q := 49) dX2_mergeSet_48 rfl rfl ?_
            refine g_X2 hC 0 i_X2 l_11 (by decide) (q := 52) dX2_mergeSet_49 hp rfl rfl ?_
            refine r_iload hC (q := 54) dX2_mergeSet_52 rfl rfl ?_
            refine r_aBN hC (q := 55) dX2_mergeSet_54 hp rfl (by omega) rfl ?_
            refine r_iload_n hC (q := 56) dX2_mergeSet_55 rfl rfl ?_
            refine r_cNV hC (q := 59) (n := 2) (As := [_, _]) (fun lch => c_X0_uniteLines lch (k := kB p c) (k2 := kB p b) (n := m) (n2 := nb v p b) (m := m) (isBk_of hp h12) (isBk_of hp (b := b) (by omega)) (kB_ne (by omega)) hcc hb.1 (by omega) hb.2.1 (Nat.le_refl m) (hb.2.2 h34)) ggX2_mergeSet_X0_uniteLines rfl 17 rfl (by decide +kernel) (by decide +kernel) (by decide +kernel) (by decide +kernel) ⟨by decide, by decide⟩ (ob_b (isBk_of hp (by omega))) rfl rfl rfl rfl (Nat.le_of_ble_eq_true rfl) dX2_mergeSet_56 rfl ?_
            rintro _ rfl
            refine r_goto hC (t := 82) dX2_mergeSet_59 (by decide) ?_
            refine r_aload_n hC (q := 83) dX2_mergeSet_82 rfl rfl ?_
            refine g_X2 hC 0 i_X2 l_11 (by decide) (q := 86) dX2_mergeSet_83 hp rfl rfl ?_
            refine r_iload hC (q := 88) dX2_mergeSet_86 rfl rfl ?_
            refine r_aBN hC (q := 89) dX2_mergeSet_88 hp rfl (by omega) rfl ?_
            refine r_iload_n hC (q := 90) dX2_mergeSet_89 rfl rfl ?_
            refine r_iload_n hC (q := 91) dX2_mergeSet_90 rfl rfl ?_
            refine r_cNV hC (q := 94) (n := 2) (As := [_, _]) (fun lch => c_X0_replaceTailByJump lch (n := nb v p b) (m := m) (isBk_of hp (b := b) (by omega)) (by rw [unF_far (by unfold kB; omega)]; exact hb.1) (hb.2.2 h34)) ggX2_mergeSet_X0_replaceTailByJump rfl 19 rfl (by decide +kernel) (by decide +kernel) (by decide +kernel) (by decide +kernel) ⟨by decide, by decide⟩ (ob_b (isBk_of hp (by omega))) rfl rfl rfl rfl (Nat.le_of_ble_eq_true rfl) dX2_mergeSet_91 rfl ?_
            rintro _ rfl
            refine r_iincN hC (q := 97) (L' := [_, _, _, _, _, _]) (c := 1) dX2_mergeSet_94 rfl rfl rfl rfl rfl ?_
            refine r_goto hC (t := 22) dX2_mergeSet_97 (by decide) ?_
            refine (show Wv E G (mgS v p c m b true) 22 _ [] from ?_)
            exact ih (b + 1) true _ (by omega) (fun b' h1 h2 => by have e : mgS v p c m b true (kB p b') = v (kB p b') := mgS_far (kB_far (by omega)) (kB_far (by omega)); rw [show (mgS v p c m b true : VV) = mgS v p c m b true from rfl, nb_eq e, e]; exact hB b' (by omega) h2) (mgS_cnt (fl := true) (by omega) hcc) (by rw [mgF, if_pos h34] at hpost; exact hpost)

set_option maxRecDepth 100000 in
set_option maxHeartbeats 4000000 in
theorem b_X2_mergeSet {E : TE} {G : GG} {v : VV} {p : Nat} {c S m : Nat} (hC : Cx E G cX2_mergeSet RX2 6 wsX2_mergeSet 3 66) (hR : RtI E G cX2_mergeSet (fun r v' => r = nI c ∧ v' = mgF p c S m c 0 false (nwB v p c))) (hp : isPr p) (hW : PW v p c) (h12 : c < 12) (hS : S < 4096) (hm : m ≤ 10) (hmb : ∀ b, b < c → Nat.testBit S b = true → m ≤ nb v p b) : Wv E G v 0 [some (.ref (G.1 p)), some (.int (nI S)), some (.int (nI m)), none, none, none] [] := by
  refine r_aload_n hC (q := 1) dX2_mergeSet_0 rfl rfl ?_
  refine r_cVI hC (q := 4) (n := 0) (As := []) (fun lch => c_X2_appendBlock lch hp hW.1 h12) gX2_mergeSet_X2_appendBlock rfl (by decide +kernel) ⟨by decide, by decide⟩ (ob_p hp) rfl rfl rfl rfl (Nat.le_of_ble_eq_true rfl) dX2_mergeSet_1 rfl ?_
  rintro _ _ ⟨rfl, rfl⟩
  refine r_istore_n hC (q := 5) (L' := [_, _, _, _, _, _]) dX2_mergeSet_4 (Nat.le_of_ble_eq_true rfl) rfl rfl ?_
  refine r_iload_n hC (q := 6) dX2_mergeSet_5 rfl rfl ?_
  refine r_sipush hC (x := (-1004)) (q := 9) dX2_mergeSet_6 (by decide) rfl ?_
  refine r_icmp_ne hC (q := 12) (t := 16) dX2_mergeSet_9 (by decide) rfl (fun h9 => ?_) (fun h9 => ?_)
  · skip
    refine r_iconst hC (x := 0) (q := 17) dX2_mergeSet_16 (by decide) rfl ?_
    refine r_istore hC (q := 19) (L' := [_, _, _, _, _, _]) dX2_mergeSet_17 (Nat.le_of_ble_eq_true rfl) rfl rfl ?_
    refine r_iconst hC (x := 0) (q := 20) dX2_mergeSet_19 (by decide) rfl ?_
    refine r_istore hC (q := 22) (L' := [_, _, _, _, _, _]) dX2_mergeSet_20 (Nat.le_of_ble_eq_true rfl) rfl rfl ?_
    exact lp_X2_mergeSet hC hR hp h12 hS hm c 0 false (nwB v p c) (by omega) (fun b h1 h2 => by have e : nwB v p c (kB p b) = v (kB p b) := nwB_far (kB_far (by omega)) (by unfold kB; omega); rw [nb_eq e, e]; exact ⟨(hW.2.2 b h2).1, (hW.2.2 b h2).2, hmb b h2⟩) nwB_cnt ⟨rfl, rfl⟩
  · skip
    exact absurd h9 (nI_ne1004 (by omega))
theorem c_X2_mergeSet (l : Launch) {G : GG} {v : VV} {p : Nat} {c S m : Nat} (hp : isPr p) (hW : PW v p c) (h12 : c < 12) (hS : S < 4096) (hm : m ≤ 10) (hmb : ∀ b, b < c → Nat.testBit S b = true → m ≤ nb v p b) : MtI l G yX2_mergeSet wsX2_mergeSet 3 66 [.ref (G.1 p), .int (nI S), .int (nI m)] v (fun r v' => r = nI c ∧ v' = mgF p c S m c 0 false (nwB v p c)) := mt_int (Or.inl rfl) (by decide) rfl (by simp [Value.category]) (Nat.le_of_ble_eq_true rfl) rfl rfl (fun E hC hR => b_X2_mergeSet hC hR hp hW h12 hS hm hmb)

set_option maxRecDepth 100000 in
set_option maxHeartbeats 4000000 in
theorem b_X2_mergeSetF {E : TE} {G : GG} {v : VV} {p : Nat} {x y : Int32} (hC : Cx E G cX2_mergeSet RX2 6 wsX2_mergeSet 3 66) (hR : RtI E G cX2_mergeSet (fun r v' => r = -1004 ∧ v = v')) (hp : isPr p) (hc : v p 1 = nI 12) : Wv E G v 0 [some (.ref (G.1 p)), some (.int x), some (.int y), none, none, none] [] := by
  refine r_aload_n hC (q := 1) dX2_mergeSet_0 rfl rfl ?_
  refine r_cVI hC (q := 4) (n := 0) (As := []) (fun lch => c_X2_appendBlockF lch hp hc) gX2_mergeSet_X2_appendBlock rfl (by decide +kernel) ⟨by decide, by decide⟩ (ob_p hp) rfl rfl rfl rfl (Nat.le_of_ble_eq_true rfl) dX2_mergeSet_1 rfl ?_
  rintro _ _ ⟨rfl, rfl⟩
  refine r_istore_n hC (q := 5) (L' := [_, _, _, _, _, _]) dX2_mergeSet_4 (Nat.le_of_ble_eq_true rfl) rfl rfl ?_
  refine r_iload_n hC (q := 6) dX2_mergeSet_5 rfl rfl ?_
  refine r_sipush hC (x := (-1004)) (q := 9) dX2_mergeSet_6 (by decide) rfl ?_
  refine r_icmp_ne hC (q := 12) (t := 16) dX2_mergeSet_9 (by decide) rfl (fun h9 => ?_) (fun h9 => ?_)
  · skip
    exact absurd rfl h9
  · skip
    refine r_sipush hC (x := (-1004)) (q := 15) dX2_mergeSet_12 (by decide) rfl ?_
    exact hR _ _ _ _ dX2_mergeSet_15 ⟨rfl, rfl⟩
theorem c_X2_mergeSetF (l : Launch) {G : GG} {v : VV} {p : Nat} {x y : Int32} (hp : isPr p) (hc : v p 1 = nI 12) : MtI l G yX2_mergeSet wsX2_mergeSet 3 66 [.ref (G.1 p), .int x, .int y] v (fun r v' => r = -1004 ∧ v = v') := mt_int (Or.inl rfl) (by decide) rfl (by simp [Value.category]) (Nat.le_of_ble_eq_true rfl) rfl rfl (fun E hC hR => b_X2_mergeSetF hC hR hp hc)
