def bkF (x y : Bv) : Nat → Nat → Nat
  | 0, t => t
  | f + 1, t => if eqAb x y t = true then bkF x y f (t + 1) else t
def mpE (w : VV) (p a b c m na n2 t : Nat) : VV := rpP (rpP (tkP (unF (kB p c) (kB p b) m n2 m 1 (apT w (kB p c) (kB p a) 0 na m)) (kB p c) m t) (kB p a) na m t (nI c)) (kB p b) n2 m t (nI c)

set_option maxRecDepth 100000 in
set_option maxHeartbeats 4000000 in
theorem le_X2_mergePair {E : TE} {G : GG} {v : VV} {p c a b m na n2 : Nat} {post : Int32 → VV → Prop} (hC : Cx E G cX2_mergePair RX2 6 wsX2_mergePair 3 72) (hR : RtI E G cX2_mergePair post) (hp : isPr p) (h12 : c < 12) (hac : a < c) (hbc : b < c) (hab : a ≠ b) (hna : v (kB p a) 5 = nI na) (hn2 : v (kB p b) 5 = nI n2) (h1 : na ≤ 10) (h2 : n2 ≤ 10) (hma : m ≤ na) (hmb : m ≤ n2) (hcc : v (kB p c) 5 = 0) : ∀ t, 1 ≤ t → t ≤ m → post (nI c) (mpE v p a b c m na n2 t) → Wv E G v 53 [some (.ref (G.1 p)), some (.int (nI a)), some (.int (nI b)), some (.int (nI m)), some (.int (nI c)), some (.int (nI t))] [] := by
  intro t ht1 htm hpost
  have e1 : apT v (kB p c) (kB p a) 0 na m (kB p c) 5 = nI m := by rw [apT_cnt (n := 0) hcc, Nat.zero_add]
  have e2 : apT v (kB p c) (kB p a) 0 na m (kB p b) 5 = nI n2 := by rw [apT_far (kB_far (by omega))]; exact hn2
  have e3 : unF (kB p c) (kB p b) m n2 m 1 (apT v (kB p c) (kB p a) 0 na m) (kB p c) 5 = nI m := by rw [unF_far (by omega)]; exact e1
  have e4 : tkP (unF (kB p c) (kB p b) m n2 m 1 (apT v (kB p c) (kB p a) 0 na m)) (kB p c) m t (kB p a) 5 = nI na := by rw [tkP_far (by unfold kB; omega) (by unfold kB; omega), unF_far (by unfold kB; omega), apT_far (kB_far (by omega))]; exact hna
  have e5 : rpP (tkP (unF (kB p c) (kB p b) m n2 m 1 (apT v (kB p c) (kB p a) 0 na m)) (kB p c) m t) (kB p a) na m t (nI c) (kB p b) 5 = nI n2 := by rw [rpP_far (kB_far (by omega)), tkP_far (by unfold kB; omega) (by unfold kB; omega), unF_far (by unfold kB; omega), apT_far (kB_far (by omega))]; exact hn2
  have i_X2 : ∀ w ∈ wsX20, w ∈ wsX2_mergePair := by decide +kernel
  have l_11 : lnk E RX2 11 (TX2 0) := hC.fl (by decide +kernel)
  refine r_aload_n hC (q := 54) dX2_mergePair_53 rfl rfl ?_
  refine g_X2 hC 0 i_X2 l_11 (by decide) (q := 57) dX2_mergePair_54 hp rfl rfl ?_
  refine r_iload hC (q := 59) dX2_mergePair_57 rfl rfl ?_
  refine r_aBN hC (q := 60) dX2_mergePair_59 hp rfl (by omega) rfl ?_
  refine r_aload_n hC (q := 61) dX2_mergePair_60 rfl rfl ?_
  refine g_X2 hC 0 i_X2 l_11 (by decide) (q := 64) dX2_mergePair_61 hp rfl rfl ?_
  refine r_iload_n hC (q := 65) dX2_mergePair_64 rfl rfl ?_
  refine r_aBN hC (q := 66) dX2_mergePair_65 hp rfl (by omega) rfl ?_
  refine r_iload_n hC (q := 67) dX2_mergePair_66 rfl rfl ?_
  refine r_cNV hC (q := 70) (n := 2) (As := [_, _]) (fun lch => c_X0_appendTail lch (k := kB p c) (k2 := kB p a) (n := 0) (n2 := na) (m := m) (isBk_of hp (b := c) (by omega)) (isBk_of hp (b := a) (by omega)) (kB_ne (by omega)) hcc hna h1 hma (by omega)) ggX2_mergePair_X0_appendTail rfl 18 rfl (by decide +kernel) (by decide +kernel) (by decide +kernel) (by decide +kernel) ⟨by decide, by decide⟩ (ob_b (isBk_of hp (by omega))) rfl rfl rfl rfl (Nat.le_of_ble_eq_true rfl) dX2_mergePair_67 rfl ?_
  rintro _ rfl
  refine r_aload_n hC (q := 71) dX2_mergePair_70 rfl rfl ?_
  refine g_X2 hC 0 i_X2 l_11 (by decide) (q := 74) dX2_mergePair_71 hp rfl rfl ?_
  refine r_iload hC (q := 76) dX2_mergePair_74 rfl rfl ?_
  refine r_aBN hC (q := 77) dX2_mergePair_76 hp rfl (by omega) rfl ?_
  refine r_aload_n hC (q := 78) dX2_mergePair_77 rfl rfl ?_
  refine g_X2 hC 0 i_X2 l_11 (by decide) (q := 81) dX2_mergePair_78 hp rfl rfl ?_
  refine r_iload_n hC (q := 82) dX2_mergePair_81 rfl rfl ?_
  refine r_aBN hC (q := 83) dX2_mergePair_82 hp rfl (by omega) rfl ?_
  refine r_iload_n hC (q := 84) dX2_mergePair_83 rfl rfl ?_
  refine r_cNV hC (q := 87) (n := 2) (As := [_, _]) (fun lch => c_X0_uniteLines lch (k := kB p c) (k2 := kB p b) (n := m) (n2 := n2) (m := m) (isBk_of hp (b := c) (by omega)) (isBk_of hp (b := b) (by omega)) (kB_ne (by omega)) e1 e2 (by omega) h2 (Nat.le_refl m) hmb) ggX2_mergePair_X0_uniteLines rfl 17 rfl (by decide +kernel) (by decide +kernel) (by decide +kernel) (by decide +kernel) ⟨by decide, by decide⟩ (ob_b (isBk_of hp (by omega))) rfl rfl rfl rfl (Nat.le_of_ble_eq_true rfl) dX2_mergePair_84 rfl ?_
  rintro _ rfl
  refine r_aload_n hC (q := 88) dX2_mergePair_87 rfl rfl ?_
  refine g_X2 hC 0 i_X2 l_11 (by decide) (q := 91) dX2_mergePair_88 hp rfl rfl ?_
  refine r_iload hC (q := 93) dX2_mergePair_91 rfl rfl ?_
  refine r_aBN hC (q := 94) dX2_mergePair_93 hp rfl (by omega) rfl ?_
  refine r_iload hC (q := 96) dX2_mergePair_94 rfl rfl ?_
  refine r_cNV hC (q := 99) (n := 1) (As := [_]) (fun lch => c_X0_takeParameterAt lch (k := kB p c) (n := m) (b := t) (isBk_of hp (b := c) (by omega)) e3 (by omega) htm ht1) ggX2_mergePair_X0_takeParameterAt rfl 23 rfl (by decide +kernel) (by decide +kernel) (by decide +kernel) (by decide +kernel) ⟨by decide, by decide⟩ (ob_b (isBk_of hp (by omega))) rfl rfl rfl rfl (Nat.le_of_ble_eq_true rfl) dX2_mergePair_96 rfl ?_
  rintro _ rfl
  refine r_aload_n hC (q := 100) dX2_mergePair_99 rfl rfl ?_
  refine g_X2 hC 0 i_X2 l_11 (by decide) (q := 103) dX2_mergePair_100 hp rfl rfl ?_
  refine r_iload_n hC (q := 104) dX2_mergePair_103 rfl rfl ?_
  refine r_aBN hC (q := 105) dX2_mergePair_104 hp rfl (by omega) rfl ?_
  refine r_iload_n hC (q := 106) dX2_mergePair_105 rfl rfl ?_
  refine r_iload hC (q := 108) dX2_mergePair_106 rfl rfl ?_
  refine r_iload hC (q := 110) dX2_mergePair_108 rfl rfl ?_
  refine r_cNV hC (q := 113) (n := 3) (As := [_, _, _]) (fun lch => c_X0_replaceTailByParameter lch (k := kB p a) (n := na) (m := m) (b := t) (isBk_of hp (b := a) (by omega)) e4 h1 hma htm ht1) ggX2_mergePair_X0_replaceTailByParameter rfl 24 rfl (by decide +kernel) (by decide +kernel) (by decide +kernel) (by decide +kernel) ⟨by decide, by decide⟩ (ob_b (isBk_of hp (by omega))) rfl rfl rfl rfl (Nat.le_of_ble_eq_true rfl) dX2_mergePair_110 rfl ?_
  rintro _ rfl
  refine r_aload_n hC (q := 114) dX2_mergePair_113 rfl rfl ?_
  refine g_X2 hC 0 i_X2 l_11 (by decide) (q := 117) dX2_mergePair_114 hp rfl rfl ?_
  refine r_iload_n hC (q := 118) dX2_mergePair_117 rfl rfl ?_
  refine r_aBN hC (q := 119) dX2_mergePair_118 hp rfl (by omega) rfl ?_
  refine r_iload_n hC (q := 120) dX2_mergePair_119 rfl rfl ?_
  refine r_iload hC (q := 122) dX2_mergePair_120 rfl rfl ?_
  refine r_iload hC (q := 124) dX2_mergePair_122 rfl rfl ?_
  refine r_cNV hC (q := 127) (n := 3) (As := [_, _, _]) (fun lch => c_X0_replaceTailByParameter lch (k := kB p b) (n := n2) (m := m) (b := t) (isBk_of hp (b := b) (by omega)) e5 h2 hmb htm ht1) ggX2_mergePair_X0_replaceTailByParameter rfl 24 rfl (by decide +kernel) (by decide +kernel) (by decide +kernel) (by decide +kernel) ⟨by decide, by decide⟩ (ob_b (isBk_of hp (by omega))) rfl rfl rfl rfl (Nat.le_of_ble_eq_true rfl) dX2_mergePair_124 rfl ?_
  rintro _ rfl
  refine r_iload hC (q := 129) dX2_mergePair_127 rfl rfl ?_
  exact hR _ _ _ _ dX2_mergePair_129 hpost

set_option maxRecDepth 100000 in
set_option maxHeartbeats 4000000 in
theorem lp_X2_mergePair {E : TE} {G : GG} {v : VV} {p c a b m na n2 : Nat} {post : Int32 → VV → Prop} (hC : Cx E G cX2_mergePair RX2 6 wsX2_mergePair 3 72) (hR : RtI E G cX2_mergePair post) (hp : isPr p) (h12 : c < 12) (hac : a < c) (hbc : b < c) (hab : a ≠ b) (hna : v (kB p a) 5 = nI na) (hn2 : v (kB p b) 5 = nI n2) (h1 : na ≤ 10) (h2 : n2 ≤ 10) (hma : m ≤ na) (hmb : m ≤ n2) (hcc : v (kB p c) 5 = 0) : ∀ f t, t + f = m → 1 ≤ t → post (nI c) (mpE v p a b c m na n2 (bkF (bw v (kB p a) na) (bw v (kB p b) n2) f t)) → Wv E G v 21 [some (.ref (G.1 p)), some (.int (nI a)), some (.int (nI b)), some (.int (nI m)), some (.int (nI c)), some (.int (nI t))] [] := by
  intro f
  induction f with
  | zero =>
    intro t htf ht1 hpost
    refine r_iload hC (q := 23) dX2_mergePair_21 rfl rfl ?_
    refine r_iload_n hC (q := 24) dX2_mergePair_23 rfl rfl ?_
    refine r_icmp_geN hC (q := 27) (t := 53) dX2_mergePair_24 rfl rfl (by omega) (by omega) (by decide) rfl (fun h24 => ?_) (fun h24 => ?_)
    · skip
      exact le_X2_mergePair hC hR hp h12 hac hbc hab hna hn2 h1 h2 hma hmb hcc t ht1 (by omega) hpost
    · skip
      omega
  | succ f ih =>
    intro t htf ht1 hpost
    have i_X2 : ∀ w ∈ wsX20, w ∈ wsX2_mergePair := by decide +kernel
    have l_11 : lnk E RX2 11 (TX2 0) := hC.fl (by decide +kernel)
    refine r_iload hC (q := 23) dX2_mergePair_21 rfl rfl ?_
    refine r_iload_n hC (q := 24) dX2_mergePair_23 rfl rfl ?_
    refine r_icmp_geN hC (q := 27) (t := 53) dX2_mergePair_24 rfl rfl (by omega) (by omega) (by decide) rfl (fun h24 => ?_) (fun h24 => ?_)
    · skip
      omega
    · skip
      refine r_aload_n hC (q := 28) dX2_mergePair_27 rfl rfl ?_
      refine g_X2 hC 0 i_X2 l_11 (by decide) (q := 31) dX2_mergePair_28 hp rfl rfl ?_
      refine r_iload_n hC (q := 32) dX2_mergePair_31 rfl rfl ?_
      refine r_aBN hC (q := 33) dX2_mergePair_32 hp rfl (by omega) rfl ?_
      refine r_aload_n hC (q := 34) dX2_mergePair_33 rfl rfl ?_
      refine g_X2 hC 0 i_X2 l_11 (by decide) (q := 37) dX2_mergePair_34 hp rfl rfl ?_
      refine r_iload_n hC (q := 38) dX2_mergePair_37 rfl rfl ?_
      refine r_aBN hC (q := 39) dX2_mergePair_38 hp rfl (by omega) rfl ?_
      refine r_iload hC (q := 41) dX2_mergePair_39 rfl rfl ?_
      refine r_cNI hC (q := 44) (n := 2) (As := [_, _]) (fun lch => c_X0_isEqualAt lch (n := na) (n2 := n2) (b := t) (isBk_of hp (b := a) (by omega)) (isBk_of hp (b := b) (by omega)) hna hn2 h1 h2 ht1 (by omega) (by omega)) ggX2_mergePair_X0_isEqualAt rfl 22 rfl (by decide +kernel) (by decide +kernel) (by decide +kernel) (by decide +kernel) ⟨by decide, by decide⟩ (ob_b (isBk_of hp (by omega))) rfl rfl rfl rfl (Nat.le_of_ble_eq_true rfl) dX2_mergePair_41 rfl ?_
      rintro _ _ ⟨rfl, rfl⟩
      refine r_if_eqB hC (q := 47) (t := 53) dX2_mergePair_44 (by decide) rfl (fun h44 => ?_) (fun h44 => ?_)
      · skip
        exact le_X2_mergePair hC hR hp h12 hac hbc hab hna hn2 h1 h2 hma hmb hcc t ht1 (by omega) (by rw [bkF, if_neg h44] at hpost; exact hpost)
      · skip
        refine r_iincN hC (q := 50) (L' := [_, _, _, _, _, _]) (c := 1) dX2_mergePair_47 rfl rfl rfl rfl rfl ?_
        refine r_goto hC (t := 21) dX2_mergePair_50 (by decide) ?_
        exact ih (t + 1) (by omega) (by omega) (by rw [bkF, if_pos h44] at hpost; exact hpost)

set_option maxRecDepth 100000 in
set_option maxHeartbeats 4000000 in
theorem b_X2_mergePair {E : TE} {G : GG} {v : VV} {p : Nat} {c a b m : Nat} (hC : Cx E G cX2_mergePair RX2 6 wsX2_mergePair 3 72) (hR : RtI E G cX2_mergePair (fun r v' => r = nI c ∧ v' = mpE (nwB v p c) p a b c m (nb v p a) (nb v p b) (bkF (bw (nwB v p c) (kB p a) (nb v p a)) (bw (nwB v p c) (kB p b) (nb v p b)) (m - 1) 1))) (hp : isPr p) (hW : PW v p c) (h12 : c < 12) (hac : a < c) (hbc : b < c) (hab : a ≠ b) (hm1 : 1 ≤ m) (hma : m ≤ nb v p a) (hmb : m ≤ nb v p b) : Wv E G v 0 [some (.ref (G.1 p)), some (.int (nI a)), some (.int (nI b)), some (.int (nI m)), none, none] [] := by
  have ea : nwB v p c (kB p a) = v (kB p a) := nwB_far (kB_far (by omega)) (by unfold kB; omega)
  have eb : nwB v p c (kB p b) = v (kB p b) := nwB_far (kB_far (by omega)) (by unfold kB; omega)
  refine r_aload_n hC (q := 1) dX2_mergePair_0 rfl rfl ?_
  refine r_cVI hC (q := 4) (n := 0) (As := []) (fun lch => c_X2_appendBlock lch hp hW.1 h12) gX2_mergePair_X2_appendBlock rfl (by decide +kernel) ⟨by decide, by decide⟩ (ob_p hp) rfl rfl rfl rfl (Nat.le_of_ble_eq_true rfl) dX2_mergePair_1 rfl ?_
  rintro _ _ ⟨rfl, rfl⟩
  refine r_istore hC (q := 6) (L' := [_, _, _, _, _, _]) dX2_mergePair_4 (Nat.le_of_ble_eq_true rfl) rfl rfl ?_
  refine r_iload hC (q := 8) dX2_mergePair_6 rfl rfl ?_
  refine r_sipush hC (x := (-1004)) (q := 11) dX2_mergePair_8 (by decide) rfl ?_
  refine r_icmp_ne hC (q := 14) (t := 18) dX2_mergePair_11 (by decide) rfl (fun h11 => ?_) (fun h11 => ?_)
  · skip
    refine r_iconst hC (x := 1) (q := 19) dX2_mergePair_18 (by decide) rfl ?_
    refine r_istore hC (q := 21) (L' := [_, _, _, _, _, _]) dX2_mergePair_19 (Nat.le_of_ble_eq_true rfl) rfl rfl ?_
    exact lp_X2_mergePair (v := nwB v p c) hC hR hp h12 hac hbc hab (by rw [ea]; exact (hW.2.2 a hac).1) (by rw [eb]; exact (hW.2.2 b hbc).1) (hW.2.2 a hac).2 (hW.2.2 b hbc).2 hma hmb nwB_cnt (m - 1) 1 (by omega) (by omega) ⟨rfl, rfl⟩
  · skip
    exact absurd h11 (nI_ne1004 (by omega))
theorem c_X2_mergePair (l : Launch) {G : GG} {v : VV} {p : Nat} {c a b m : Nat} (hp : isPr p) (hW : PW v p c) (h12 : c < 12) (hac : a < c) (hbc : b < c) (hab : a ≠ b) (hm1 : 1 ≤ m) (hma : m ≤ nb v p a) (hmb : m ≤ nb v p b) : MtI l G yX2_mergePair wsX2_mergePair 3 72 [.ref (G.1 p), .int (nI a), .int (nI b), .int (nI m)] v (fun r v' => r = nI c ∧ v' = mpE (nwB v p c) p a b c m (nb v p a) (nb v p b) (bkF (bw (nwB v p c) (kB p a) (nb v p a)) (bw (nwB v p c) (kB p b) (nb v p b)) (m - 1) 1)) := mt_int (Or.inl rfl) (by decide) rfl (by simp [Value.category]) (Nat.le_of_ble_eq_true rfl) rfl rfl (fun E hC hR => b_X2_mergePair hC hR hp hW h12 hac hbc hab hm1 hma hmb)

set_option maxRecDepth 100000 in
set_option maxHeartbeats 4000000 in
theorem b_X2_mergePairF {E : TE} {G : GG} {v : VV} {p : Nat} {x y z : Int32} (hC : Cx E G cX2_mergePair RX2 6 wsX2_mergePair 3 72) (hR : RtI E G cX2_mergePair (fun r v' => r = -1004 ∧ v = v')) (hp : isPr p) (hc : v p 1 = nI 12) : Wv E G v 0 [some (.ref (G.1 p)), some (.int x), some (.int y), some (.int z), none, none] [] := by
  refine r_aload_n hC (q := 1) dX2_mergePair_0 rfl rfl ?_
  refine r_cVI hC (q := 4) (n := 0) (As := []) (fun lch => c_X2_appendBlockF lch hp hc) gX2_mergePair_X2_appendBlock rfl (by decide +kernel) ⟨by decide, by decide⟩ (ob_p hp) rfl rfl rfl rfl (Nat.le_of_ble_eq_true rfl) dX2_mergePair_1 rfl ?_
  rintro _ _ ⟨rfl, rfl⟩
  refine r_istore hC (q := 6) (L' := [_, _, _, _, _, _]) dX2_mergePair_4 (Nat.le_of_ble_eq_true rfl) rfl rfl ?_
  refine r_iload hC (q := 8) dX2_mergePair_6 rfl rfl ?_
  refine r_sipush hC (x := (-1004)) (q := 11) dX2_mergePair_8 (by decide) rfl ?_
  refine r_icmp_ne hC (q := 14) (t := 18) dX2_mergePair_11 (by decide) rfl (fun h11 => ?_) (fun h11 => ?_)
  · skip
    exact absurd rfl h11
  · skip
    refine r_sipush hC (x := (-1004)) (q := 17) dX2_mergePair_14 (by decide) rfl ?_
    exact hR _ _ _ _ dX2_mergePair_17 ⟨rfl, rfl⟩
theorem c_X2_mergePairF (l : Launch) {G : GG} {v : VV} {p : Nat} {x y z : Int32} (hp : isPr p) (hc : v p 1 = nI 12) : MtI l G yX2_mergePair wsX2_mergePair 3 72 [.ref (G.1 p), .int x, .int y, .int z] v (fun r v' => r = -1004 ∧ v = v') := mt_int (Or.inl rfl) (by decide) rfl (by simp [Value.category]) (Nat.le_of_ble_eq_true rfl) rfl rfl (fun E hC hR => b_X2_mergePairF hC hR hp hc)
