theorem map5_at {v : VV} {b n i : Nat} {o d a e l : Int32} (hn : n < 10) (h : i < 10 + 55 * b ∨ 10 + 55 * b + 50 < i) : map5 v b n o d a e l 271 i = v 271 i := by
  unfold map5
  rw [u2_at (by omega), u2_at (by omega), u2_at (by omega), u2_at (by omega), u2_at (by omega), u2_at (by omega)]
theorem map5_ne {v : VV} {b n q : Nat} {o d a e l : Int32} (h : q ≠ 271) : map5 v b n o d a e l q = v q := by
  unfold map5
  rw [u2_ne h, u2_ne h, u2_ne h, u2_ne h, u2_ne h, u2_ne h]
theorem map5_cnt {v : VV} {b n : Nat} {o d a e l : Int32} : map5 v b n o d a e l 271 (10 + 55 * b) = nI (n + 1) := u2_same
def mcL (a t : Nat) : Nat → Nat → Nat → VV → VV
  | 0, _, _, v => v
  | f + 1, i, k, v => mcL a t f (i + 1) (k + 1) (map5 v t k (v 271 (10 + 55 * a + 1 + 5 * i)) (v 271 (10 + 55 * a + 1 + 5 * i + 1)) (v 271 (10 + 55 * a + 1 + 5 * i + 2)) (v 271 (10 + 55 * a + 1 + 5 * i + 3)) (v 271 (10 + 55 * a + 1 + 5 * i + 4)))
def mcE (v : VV) (a t : Nat) : VV := mtm v t (v 271 (10 + 55 * a + 51)) (v 271 (10 + 55 * a + 51 + 1)) (v 271 (10 + 55 * a + 51 + 2)) (v 271 (10 + 55 * a + 51 + 3))
def mcT (v : VV) (a t k n m : Nat) : VV := mcE (mcL a t m (n - m) k v) a t
theorem mcL_at {a t j : Nat} (h : j < 10 + 55 * t ∨ 10 + 55 * t + 50 < j) : ∀ (f i k : Nat) (v : VV), k + f ≤ 10 → mcL a t f i k v 271 j = v 271 j := by
  intro f
  induction f with
  | zero => intro i k v _; rfl
  | succ f ih => intro i k v hk; rw [mcL, ih _ _ _ (by omega), map5_at (by omega) h]
theorem mcL_ne {a t q : Nat} (h : q ≠ 271) : ∀ (f i k : Nat) (v : VV), mcL a t f i k v q = v q := by
  intro f
  induction f with
  | zero => intro i k v; rfl
  | succ f ih => intro i k v; rw [mcL, ih, map5_ne h]
theorem mcT_at {v : VV} {a t k n m j : Nat} (hk : k + m ≤ 10) (h : j < 10 + 55 * t ∨ 10 + 55 * t + 54 < j) : mcT v a t k n m 271 j = v 271 j := by
  unfold mcT mcE
  rw [mtm_at (by omega), mcL_at (by omega) _ _ _ _ hk]
theorem mcT_ne {v : VV} {a t k n m q : Nat} (h : q ≠ 271) : mcT v a t k n m q = v q := by
  unfold mcT mcE
  rw [mtm_ne h, mcL_ne h]

set_option maxRecDepth 100000 in
set_option maxHeartbeats 4000000 in
theorem lp_X4_copyTail {E : TE} {G : GG} {a t m n : Nat} {post : VV → Prop} (hC : Cx E G cX4_copyTail RX4 6 wsX4_copyTail 3 68) (hR : RtV E G cX4_copyTail post) (ha : a < 12) (ht : t < 12) (hne : a ≠ t) (hn10 : n ≤ 10) : ∀ (f i k : Nat) (v : VV), i + f = n → k + f ≤ 10 → v 271 (10 + 55 * a) = nI n → v 271 (10 + 55 * t) = nI k → post (mcE (mcL a t f i k v) a t) → Wv E G v 9 [some (.ref (G.1 270)), some (.int (nI a)), some (.int (nI t)), some (.int (nI m)), some (.int (nI i)), none] [] := by
  intro f
  induction f with
  | zero =>
    intro i k v hif hkf hn hk hpost
    have i_X4 : ∀ w ∈ wsX40, w ∈ wsX4_copyTail := by decide +kernel
    have l_7 : lnk E RX4 7 (TX4 0) := hC.fl (by decide +kernel)
    refine r_iload hC (q := 11) dX4_copyTail_9 rfl rfl ?_
    refine r_aload_n hC (q := 12) dX4_copyTail_11 rfl rfl ?_
    refine r_iload_n hC (q := 13) dX4_copyTail_12 rfl rfl ?_
    refine r_cVI hC (q := 16) (n := 1) (As := [_]) (fun lch => c_X4_many lch (by omega)) gX4_copyTail_X4_many rfl (by decide +kernel) ⟨by decide, by decide⟩ ob_270 rfl rfl rfl rfl (Nat.le_of_ble_eq_true rfl) dX4_copyTail_13 rfl ?_
    rintro _ _ ⟨rfl, rfl⟩
    refine r_top (y := nI n) hn ?_
    refine r_icmp_geN hC (q := 19) (t := 81) dX4_copyTail_16 rfl rfl (by omega) (by omega) (by decide) rfl (fun h16 => ?_) (fun h16 => ?_)
    · skip
      refine r_aload_n hC (q := 82) dX4_copyTail_81 rfl rfl ?_
      refine r_iload_n hC (q := 83) dX4_copyTail_82 rfl rfl ?_
      refine r_aload_n hC (q := 84) dX4_copyTail_83 rfl rfl ?_
      refine g_X4 hC 0 i_X4 l_7 (by decide) (q := 87) dX4_copyTail_84 rfl rfl ?_
      refine r_iload_n hC (q := 88) dX4_copyTail_87 rfl rfl ?_
      refine r_cSI hC (q := 91) (n := 1) (As := [_]) (fun lch => c_X4_end lch ) gX4_copyTail_X4_end rfl (by decide +kernel) ⟨by decide, by decide⟩ rfl rfl rfl (Nat.le_of_ble_eq_true rfl) dX4_copyTail_88 rfl ?_
      rintro _ _ ⟨rfl, rfl⟩
      refine r_iaN hC (q := 92) dX4_copyTail_91 iA_271 rfl (by omega) rfl ?_
      refine r_aload_n hC (q := 93) dX4_copyTail_92 rfl rfl ?_
      refine g_X4 hC 0 i_X4 l_7 (by decide) (q := 96) dX4_copyTail_93 rfl rfl ?_
      refine r_iload_n hC (q := 97) dX4_copyTail_96 rfl rfl ?_
      refine r_cSI hC (q := 100) (n := 1) (As := [_]) (fun lch => c_X4_end lch ) gX4_copyTail_X4_end rfl (by decide +kernel) ⟨by decide, by decide⟩ rfl rfl rfl (Nat.le_of_ble_eq_true rfl) dX4_copyTail_97 rfl ?_
      rintro _ _ ⟨rfl, rfl⟩
      refine r_iconst hC (x := 1) (q := 101) dX4_copyTail_100 (by decide) rfl ?_
      refine r_iaddN hC (q := 102) (b := 1) dX4_copyTail_101 rfl rfl rfl ?_
      refine r_iaN hC (q := 103) dX4_copyTail_102 iA_271 rfl (by omega) rfl ?_
      refine r_aload_n hC (q := 104) dX4_copyTail_103 rfl rfl ?_
      refine g_X4 hC 0 i_X4 l_7 (by decide) (q := 107) dX4_copyTail_104 rfl rfl ?_
      refine r_iload_n hC (q := 108) dX4_copyTail_107 rfl rfl ?_
      refine r_cSI hC (q := 111) (n := 1) (As := [_]) (fun lch => c_X4_end lch ) gX4_copyTail_X4_end rfl (by decide +kernel) ⟨by decide, by decide⟩ rfl rfl rfl (Nat.le_of_ble_eq_true rfl) dX4_copyTail_108 rfl ?_
      rintro _ _ ⟨rfl, rfl⟩
      refine r_iconst hC (x := 2) (q := 112) dX4_copyTail_111 (by decide) rfl ?_
      refine r_iaddN hC (q := 113) (b := 2) dX4_copyTail_112 rfl rfl rfl ?_
      refine r_iaN hC (q := 114) dX4_copyTail_113 iA_271 rfl (by omega) rfl ?_
      refine r_aload_n hC (q := 115) dX4_copyTail_114 rfl rfl ?_
      refine g_X4 hC 0 i_X4 l_7 (by decide) (q := 118) dX4_copyTail_115 rfl rfl ?_
      refine r_iload_n hC (q := 119) dX4_copyTail_118 rfl rfl ?_
      refine r_cSI hC (q := 122) (n := 1) (As := [_]) (fun lch => c_X4_end lch ) gX4_copyTail_X4_end rfl (by decide +kernel) ⟨by decide, by decide⟩ rfl rfl rfl (Nat.le_of_ble_eq_true rfl) dX4_copyTail_119 rfl ?_
      rintro _ _ ⟨rfl, rfl⟩
      refine r_iconst hC (x := 3) (q := 123) dX4_copyTail_122 (by decide) rfl ?_
      refine r_iaddN hC (q := 124) (b := 3) dX4_copyTail_123 rfl rfl rfl ?_
      refine r_iaN hC (q := 125) dX4_copyTail_124 iA_271 rfl (by omega) rfl ?_
      refine r_cVV hC (q := 128) (n := 5) (As := [_, _, _, _, _]) (fun lch => c_X4_terminate lch ht) gX4_copyTail_X4_terminate rfl (by decide +kernel) ⟨by decide, by decide⟩ ob_270 rfl rfl rfl rfl (Nat.le_of_ble_eq_true rfl) dX4_copyTail_125 rfl ?_
      rintro _ rfl
      exact hR _ _ _ dX4_copyTail_128 hpost
    · skip
      omega
  | succ f ih =>
    intro i k v hif hkf hn hk hpost
    have i_X4 : ∀ w ∈ wsX40, w ∈ wsX4_copyTail := by decide +kernel
    have l_7 : lnk E RX4 7 (TX4 0) := hC.fl (by decide +kernel)
    refine r_iload hC (q := 11) dX4_copyTail_9 rfl rfl ?_
    refine r_aload_n hC (q := 12) dX4_copyTail_11 rfl rfl ?_
    refine r_iload_n hC (q := 13) dX4_copyTail_12 rfl rfl ?_
    refine r_cVI hC (q := 16) (n := 1) (As := [_]) (fun lch => c_X4_many lch (by omega)) gX4_copyTail_X4_many rfl (by decide +kernel) ⟨by decide, by decide⟩ ob_270 rfl rfl rfl rfl (Nat.le_of_ble_eq_true rfl) dX4_copyTail_13 rfl ?_
    rintro _ _ ⟨rfl, rfl⟩
    refine r_top (y := nI n) hn ?_
    refine r_icmp_geN hC (q := 19) (t := 81) dX4_copyTail_16 rfl rfl (by omega) (by omega) (by decide) rfl (fun h16 => ?_) (fun h16 => ?_)
    · skip
      omega
    · skip
      refine r_iload_n hC (q := 20) dX4_copyTail_19 rfl rfl ?_
      refine r_iload hC (q := 22) dX4_copyTail_20 rfl rfl ?_
      refine r_cSI hC (q := 25) (n := 2) (As := [_, _]) (fun lch => c_X4_at lch ) gX4_copyTail_X4_at rfl (by decide +kernel) ⟨by decide, by decide⟩ rfl rfl rfl (Nat.le_of_ble_eq_true rfl) dX4_copyTail_22 rfl ?_
      rintro _ _ ⟨rfl, rfl⟩
      refine r_istore hC (q := 27) (L' := [_, _, _, _, _, _]) dX4_copyTail_25 (Nat.le_of_ble_eq_true rfl) rfl rfl ?_
      refine r_aload_n hC (q := 28) dX4_copyTail_27 rfl rfl ?_
      refine r_iload_n hC (q := 29) dX4_copyTail_28 rfl rfl ?_
      refine r_aload_n hC (q := 30) dX4_copyTail_29 rfl rfl ?_
      refine g_X4 hC 0 i_X4 l_7 (by decide) (q := 33) dX4_copyTail_30 rfl rfl ?_
      refine r_iload hC (q := 35) dX4_copyTail_33 rfl rfl ?_
      refine r_iaN hC (q := 36) dX4_copyTail_35 iA_271 rfl (by omega) rfl ?_
      refine r_aload_n hC (q := 37) dX4_copyTail_36 rfl rfl ?_
      refine g_X4 hC 0 i_X4 l_7 (by decide) (q := 40) dX4_copyTail_37 rfl rfl ?_
      refine r_iload hC (q := 42) dX4_copyTail_40 rfl rfl ?_
      refine r_iconst hC (x := 1) (q := 43) dX4_copyTail_42 (by decide) rfl ?_
      refine r_iaddN hC (q := 44) (b := 1) dX4_copyTail_43 rfl rfl rfl ?_
      refine r_iaN hC (q := 45) dX4_copyTail_44 iA_271 rfl (by omega) rfl ?_
      refine r_aload_n hC (q := 46) dX4_copyTail_45 rfl rfl ?_
      refine g_X4 hC 0 i_X4 l_7 (by decide) (q := 49) dX4_copyTail_46 rfl rfl ?_
      refine r_iload hC (q := 51) dX4_copyTail_49 rfl rfl ?_
      refine r_iconst hC (x := 2) (q := 52) dX4_copyTail_51 (by decide) rfl ?_
      refine r_iaddN hC (q := 53) (b := 2) dX4_copyTail_52 rfl rfl rfl ?_
      refine r_iaN hC (q := 54) dX4_copyTail_53 iA_271 rfl (by omega) rfl ?_
      refine r_aload_n hC (q := 55) dX4_copyTail_54 rfl rfl ?_
      refine g_X4 hC 0 i_X4 l_7 (by decide) (q := 58) dX4_copyTail_55 rfl rfl ?_
      refine r_iload hC (q := 60) dX4_copyTail_58 rfl rfl ?_
      refine r_iconst hC (x := 3) (q := 61) dX4_copyTail_60 (by decide) rfl ?_
      refine r_iaddN hC (q := 62) (b := 3) dX4_copyTail_61 rfl rfl rfl ?_
      refine r_iaN hC (q := 63) dX4_copyTail_62 iA_271 rfl (by omega) rfl ?_
      refine r_aload_n hC (q := 64) dX4_copyTail_63 rfl rfl ?_
      refine g_X4 hC 0 i_X4 l_7 (by decide) (q := 67) dX4_copyTail_64 rfl rfl ?_
      refine r_iload hC (q := 69) dX4_copyTail_67 rfl rfl ?_
      refine r_iconst hC (x := 4) (q := 70) dX4_copyTail_69 (by decide) rfl ?_
      refine r_iaddN hC (q := 71) (b := 4) dX4_copyTail_70 rfl rfl rfl ?_
      refine r_iaN hC (q := 72) dX4_copyTail_71 iA_271 rfl (by omega) rfl ?_
      refine r_cVV hC (q := 75) (n := 6) (As := [_, _, _, _, _, _]) (fun lch => c_X4_append lch ht hk (by omega)) gX4_copyTail_X4_append rfl (by decide +kernel) ⟨by decide, by decide⟩ ob_270 rfl rfl rfl rfl (Nat.le_of_ble_eq_true rfl) dX4_copyTail_72 rfl ?_
      rintro _ rfl
      refine r_iincN hC (q := 78) (L' := [_, _, _, _, _, _]) (c := 1) dX4_copyTail_75 rfl rfl rfl rfl rfl ?_
      refine r_goto hC (t := 9) dX4_copyTail_78 (by decide) ?_
      exact r_weak (ih (i + 1) (k + 1) _ (by omega) (by omega) (by rw [map5_at (by omega) (by omega)]; exact hn) map5_cnt hpost) ⟨Or.inr rfl, Or.inr rfl, Or.inr rfl, Or.inr rfl, Or.inr rfl, Or.inl rfl, trivial⟩

set_option maxRecDepth 100000 in
set_option maxHeartbeats 4000000 in
theorem b_X4_copyTail {E : TE} {G : GG} {v : VV} {a t m n k : Nat} (hC : Cx E G cX4_copyTail RX4 6 wsX4_copyTail 3 68) (hR : RtV E G cX4_copyTail (fun v' => v' = mcT v a t k n m)) (ha : a < 12) (ht : t < 12) (hne : a ≠ t) (hn : v 271 (10 + 55 * a) = nI n) (hn10 : n ≤ 10) (hm : m ≤ n) (hk : v 271 (10 + 55 * t) = nI k) (hkm : k + m ≤ 10) : Wv E G v 0 [some (.ref (G.1 270)), some (.int (nI a)), some (.int (nI t)), some (.int (nI m)), none, none] [] := by
  refine r_aload_n hC (q := 1) dX4_copyTail_0 rfl rfl ?_
  refine r_iload_n hC (q := 2) dX4_copyTail_1 rfl rfl ?_
  refine r_cVI hC (q := 5) (n := 1) (As := [_]) (fun lch => c_X4_many lch (by omega)) gX4_copyTail_X4_many rfl (by decide +kernel) ⟨by decide, by decide⟩ ob_270 rfl rfl rfl rfl (Nat.le_of_ble_eq_true rfl) dX4_copyTail_2 rfl ?_
  rintro _ _ ⟨rfl, rfl⟩
  refine r_top (y := nI n) hn ?_
  refine r_iload_n hC (q := 6) dX4_copyTail_5 rfl rfl ?_
  refine r_isubN hC (q := 7) dX4_copyTail_6 rfl rfl (by omega) rfl ?_
  refine r_istore hC (q := 9) (L' := [_, _, _, _, _, _]) dX4_copyTail_7 (Nat.le_of_ble_eq_true rfl) rfl rfl ?_
  exact lp_X4_copyTail hC hR ha ht hne hn10 m (n - m) k v (by omega) hkm hn hk rfl
theorem c_X4_copyTail (l : Launch) {G : GG} {v : VV} {a t m n k : Nat} (ha : a < 12) (ht : t < 12) (hne : a ≠ t) (hn : v 271 (10 + 55 * a) = nI n) (hn10 : n ≤ 10) (hm : m ≤ n) (hk : v 271 (10 + 55 * t) = nI k) (hkm : k + m ≤ 10) : MtV l G yX4_copyTail wsX4_copyTail 3 68 [.ref (G.1 270), .int (nI a), .int (nI t), .int (nI m)] v (fun v' => v' = mcT v a t k n m) := mt_void (by decide) rfl (by simp [Value.category]) (Nat.le_of_ble_eq_true rfl) rfl rfl (fun E hC hR => b_X4_copyTail hC hR ha ht hne hn hn10 hm hk hkm)

def muF (a t n m : Nat) : Nat → Nat → VV → VV
  | 0, _, v => v
  | f + 1, i, v => muF a t n m f (i + 1) (u2 v 271 (10 + 55 * t + 1 + 5 * i + 4) (v 271 (10 + 55 * t + 1 + 5 * i + 4) ||| v 271 (10 + 55 * a + 1 + 5 * (n - m + i) + 4)))
theorem muF_at {a t n m j : Nat} (h : j < 10 + 55 * t + 1 ∨ 10 + 55 * t + 50 < j) : ∀ (f i : Nat) (v : VV), i + f ≤ 10 → muF a t n m f i v 271 j = v 271 j := by
  intro f
  induction f with
  | zero => intro i v _; rfl
  | succ f ih => intro i v hi; rw [muF, ih _ _ (by omega), u2_at (by omega)]
theorem muF_ne {a t n m q : Nat} (h : q ≠ 271) : ∀ (f i : Nat) (v : VV), muF a t n m f i v q = v q := by
  intro f
  induction f with
  | zero => intro i v; rfl
  | succ f ih => intro i v; rw [muF, ih, u2_ne h]

set_option maxRecDepth 100000 in
set_option maxHeartbeats 4000000 in
theorem lp_X4_uniteLines {E : TE} {G : GG} {a t m n : Nat} {post : VV → Prop} (hC : Cx E G cX4_uniteLines RX4 5 wsX4_uniteLines 2 41) (hR : RtV E G cX4_uniteLines post) (ha : a < 12) (ht : t < 12) (hne : a ≠ t) (hn10 : n ≤ 10) (hm : m ≤ n) : ∀ (f i : Nat) (v : VV), i + f = m → v 271 (10 + 55 * a) = nI n → post (muF a t n m f i v) → Wv E G v 3 [some (.ref (G.1 270)), some (.int (nI a)), some (.int (nI t)), some (.int (nI m)), some (.int (nI i))] [] := by
  intro f
  induction f with
  | zero =>
    intro i v hif hn hpost
    refine r_iload hC (q := 5) dX4_uniteLines_3 rfl rfl ?_
    refine r_iload_n hC (q := 6) dX4_uniteLines_5 rfl rfl ?_
    refine r_icmp_geN hC (q := 9) (t := 52) dX4_uniteLines_6 rfl rfl (by omega) (by omega) (by decide) rfl (fun h6 => ?_) (fun h6 => ?_)
    · skip
      exact hR _ _ _ dX4_uniteLines_52 hpost
    · skip
      omega
  | succ f ih =>
    intro i v hif hn hpost
    have i_X4 : ∀ w ∈ wsX40, w ∈ wsX4_uniteLines := by decide +kernel
    have l_7 : lnk E RX4 7 (TX4 0) := hC.fl (by decide +kernel)
    refine r_iload hC (q := 5) dX4_uniteLines_3 rfl rfl ?_
    refine r_iload_n hC (q := 6) dX4_uniteLines_5 rfl rfl ?_
    refine r_icmp_geN hC (q := 9) (t := 52) dX4_uniteLines_6 rfl rfl (by omega) (by omega) (by decide) rfl (fun h6 => ?_) (fun h6 => ?_)
    · skip
      omega
    · skip
      refine r_aload_n hC (q := 10) dX4_uniteLines_9 rfl rfl ?_
      refine g_X4 hC 0 i_X4 l_7 (by decide) (q := 13) dX4_uniteLines_10 rfl rfl ?_
      refine r_iload_n hC (q := 14) dX4_uniteLines_13 rfl rfl ?_
      refine r_iload hC (q := 16) dX4_uniteLines_14 rfl rfl ?_
      refine r_cSI hC (q := 19) (n := 2) (As := [_, _]) (fun lch => c_X4_at lch ) gX4_uniteLines_X4_at rfl (by decide +kernel) ⟨by decide, by decide⟩ rfl rfl rfl (Nat.le_of_ble_eq_true rfl) dX4_uniteLines_16 rfl ?_
      rintro _ _ ⟨rfl, rfl⟩
      refine r_iconst hC (x := 4) (q := 20) dX4_uniteLines_19 (by decide) rfl ?_
      refine r_iaddN hC (q := 21) (b := 4) dX4_uniteLines_20 rfl rfl rfl ?_
      refine r_dup2 hC (q := 22) rfl rfl dX4_uniteLines_21 rfl ?_
      refine r_iaN hC (q := 23) dX4_uniteLines_22 iA_271 rfl (by omega) rfl ?_
      refine r_aload_n hC (q := 24) dX4_uniteLines_23 rfl rfl ?_
      refine g_X4 hC 0 i_X4 l_7 (by decide) (q := 27) dX4_uniteLines_24 rfl rfl ?_
      refine r_iload_n hC (q := 28) dX4_uniteLines_27 rfl rfl ?_
      refine r_aload_n hC (q := 29) dX4_uniteLines_28 rfl rfl ?_
      refine r_iload_n hC (q := 30) dX4_uniteLines_29 rfl rfl ?_
      refine r_cVI hC (q := 33) (n := 1) (As := [_]) (fun lch => c_X4_many lch (by omega)) gX4_uniteLines_X4_many rfl (by decide +kernel) ⟨by decide, by decide⟩ ob_270 rfl rfl rfl rfl (Nat.le_of_ble_eq_true rfl) dX4_uniteLines_30 rfl ?_
      rintro _ _ ⟨rfl, rfl⟩
      refine r_top (y := nI n) hn ?_
      refine r_iload_n hC (q := 34) dX4_uniteLines_33 rfl rfl ?_
      refine r_isubN hC (q := 35) dX4_uniteLines_34 rfl rfl (by omega) rfl ?_
      refine r_iload hC (q := 37) dX4_uniteLines_35 rfl rfl ?_
      refine r_iaddN hC (q := 38) dX4_uniteLines_37 rfl rfl rfl ?_
      refine r_cSI hC (q := 41) (n := 2) (As := [_, _]) (fun lch => c_X4_at lch ) gX4_uniteLines_X4_at rfl (by decide +kernel) ⟨by decide, by decide⟩ rfl rfl rfl (Nat.le_of_ble_eq_true rfl) dX4_uniteLines_38 rfl ?_
      rintro _ _ ⟨rfl, rfl⟩
      refine r_iconst hC (x := 4) (q := 42) dX4_uniteLines_41 (by decide) rfl ?_
      refine r_iaddN hC (q := 43) (b := 4) dX4_uniteLines_42 rfl rfl rfl ?_
      refine r_iaN hC (q := 44) dX4_uniteLines_43 iA_271 rfl (by omega) rfl ?_
      refine r_ior hC (q := 45) dX4_uniteLines_44 rfl ?_
      refine r_isN hC (q := 46) dX4_uniteLines_45 iA_271 rfl (by omega) rfl ?_
      refine r_iincN hC (q := 49) (L' := [_, _, _, _, _]) (c := 1) dX4_uniteLines_46 rfl rfl rfl rfl rfl ?_
      refine r_goto hC (t := 3) dX4_uniteLines_49 (by decide) ?_
      exact ih (i + 1) _ (by omega) (by rw [vu_at (by omega)]; exact hn) hpost

set_option maxRecDepth 100000 in
set_option maxHeartbeats 4000000 in
theorem b_X4_uniteLines {E : TE} {G : GG} {v : VV} {a t m n : Nat} (hC : Cx E G cX4_uniteLines RX4 5 wsX4_uniteLines 2 41) (hR : RtV E G cX4_uniteLines (fun v' => v' = muF a t n m m 0 v)) (ha : a < 12) (ht : t < 12) (hne : a ≠ t) (hn : v 271 (10 + 55 * a) = nI n) (hn10 : n ≤ 10) (hm : m ≤ n) : Wv E G v 0 [some (.ref (G.1 270)), some (.int (nI a)), some (.int (nI t)), some (.int (nI m)), none] [] := by
  refine r_iconst hC (x := 0) (q := 1) dX4_uniteLines_0 (by decide) rfl ?_
  refine r_istore hC (q := 3) (L' := [_, _, _, _, _]) dX4_uniteLines_1 (Nat.le_of_ble_eq_true rfl) rfl rfl ?_
  exact lp_X4_uniteLines hC hR ha ht hne hn10 hm m 0 v (by omega) hn rfl
theorem c_X4_uniteLines (l : Launch) {G : GG} {v : VV} {a t m n : Nat} (ha : a < 12) (ht : t < 12) (hne : a ≠ t) (hn : v 271 (10 + 55 * a) = nI n) (hn10 : n ≤ 10) (hm : m ≤ n) : MtV l G yX4_uniteLines wsX4_uniteLines 2 41 [.ref (G.1 270), .int (nI a), .int (nI t), .int (nI m)] v (fun v' => v' = muF a t n m m 0 v) := mt_void (by decide) rfl (by simp [Value.category]) (Nat.le_of_ble_eq_true rfl) rfl rfl (fun E hC hR => b_X4_uniteLines hC hR ha ht hne hn hn10 hm)

def zrF : Nat → Nat → VV → VV
  | 0, _, v => v
  | f + 1, j, v => zrF f (j + 1) (u2 v 271 j 0)
theorem zrF_at {i : Nat} : ∀ (f j : Nat) (v : VV), (i < j ∨ j + f ≤ i) → zrF f j v 271 i = v 271 i := by
  intro f
  induction f with
  | zero => intro j v _; rfl
  | succ f ih => intro j v h; rw [zrF, ih _ _ (by omega), u2_at (by omega)]
theorem zrF_ne {q : Nat} (h : q ≠ 271) : ∀ (f j : Nat) (v : VV), zrF f j v q = v q := by
  intro f
  induction f with
  | zero => intro j v; rfl
  | succ f ih => intro j v; rw [zrF, ih, u2_ne h]
def mcut (v : VV) (b n m : Nat) (t : Int32) : VV := mtm (u2 (zrF (10 + 55 * b + 51 - (10 + 55 * b + 1 + 5 * (n - m))) (10 + 55 * b + 1 + 5 * (n - m)) v) 271 (10 + 55 * b) (nI (n - m))) b 0 t 0 0
theorem mcut_at {v : VV} {b n m i : Nat} {t : Int32} (hn : n ≤ 10) (h : i < 10 + 55 * b ∨ 10 + 55 * b + 54 < i) : mcut v b n m t 271 i = v 271 i := by
  unfold mcut
  rw [mtm_at (by omega), u2_at (by omega), zrF_at _ _ _ (by omega)]
theorem mcut_ne {v : VV} {b n m q : Nat} {t : Int32} (h : q ≠ 271) : mcut v b n m t q = v q := by
  unfold mcut
  rw [mtm_ne h, u2_ne h, zrF_ne h]
theorem mcut_cnt {v : VV} {b n m : Nat} {t : Int32} : mcut v b n m t 271 (10 + 55 * b) = nI (n - m) := by
  unfold mcut
  rw [mtm_at (by omega), u2_same]

set_option maxRecDepth 100000 in
set_option maxHeartbeats 4000000 in
theorem lp_X4_cutTail {E : TE} {G : GG} {b m n : Nat} {x : Int32} {post : VV → Prop} (hC : Cx E G cX4_cutTail RX4 5 wsX4_cutTail 3 65) (hR : RtV E G cX4_cutTail post) (hb : b < 12) (hn10 : n ≤ 10) (hm : m ≤ n) : ∀ (f j : Nat) (v : VV), j + f = 10 + 55 * b + 51 → 10 + 55 * b < j → v 271 (10 + 55 * b) = nI n → post (mtm (u2 (zrF f j v) 271 (10 + 55 * b) (nI (n - m))) b 0 x 0 0) → Wv E G v 13 [some (.ref (G.1 270)), some (.int (nI b)), some (.int (nI m)), some (.int x), some (.int (nI j))] [] := by
  intro f
  induction f with
  | zero =>
    intro j v hjf hj hn hpost
    have i_X4 : ∀ w ∈ wsX40, w ∈ wsX4_cutTail := by decide +kernel
    have l_7 : lnk E RX4 7 (TX4 0) := hC.fl (by decide +kernel)
    refine r_iload hC (q := 15) dX4_cutTail_13 rfl rfl ?_
    refine r_iload_n hC (q := 16) dX4_cutTail_15 rfl rfl ?_
    refine r_cSI hC (q := 19) (n := 1) (As := [_]) (fun lch => c_X4_end lch ) gX4_cutTail_X4_end rfl (by decide +kernel) ⟨by decide, by decide⟩ rfl rfl rfl (Nat.le_of_ble_eq_true rfl) dX4_cutTail_16 rfl ?_
    rintro _ _ ⟨rfl, rfl⟩
    refine r_icmp_geN hC (q := 22) (t := 36) dX4_cutTail_19 rfl rfl (by omega) (by omega) (by decide) rfl (fun h19 => ?_) (fun h19 => ?_)
    · skip
      refine r_aload_n hC (q := 37) dX4_cutTail_36 rfl rfl ?_
      refine g_X4 hC 0 i_X4 l_7 (by decide) (q := 40) dX4_cutTail_37 rfl rfl ?_
      refine r_iload_n hC (q := 41) dX4_cutTail_40 rfl rfl ?_
      refine r_cSI hC (q := 44) (n := 1) (As := [_]) (fun lch => c_X4_base lch ) gX4_cutTail_X4_base rfl (by decide +kernel) ⟨by decide, by decide⟩ rfl rfl rfl (Nat.le_of_ble_eq_true rfl) dX4_cutTail_41 rfl ?_
      rintro _ _ ⟨rfl, rfl⟩
      refine r_dup2 hC (q := 45) rfl rfl dX4_cutTail_44 rfl ?_
      refine r_iaN hC (q := 46) dX4_cutTail_45 iA_271 rfl (by omega) rfl ?_
      refine r_top (y := nI n) hn ?_
      refine r_iload_n hC (q := 47) dX4_cutTail_46 rfl rfl ?_
      refine r_isubN hC (q := 48) dX4_cutTail_47 rfl rfl (by omega) rfl ?_
      refine r_isN hC (q := 49) dX4_cutTail_48 iA_271 rfl (by omega) rfl ?_
      refine r_aload_n hC (q := 50) dX4_cutTail_49 rfl rfl ?_
      refine r_iload_n hC (q := 51) dX4_cutTail_50 rfl rfl ?_
      refine r_iconst hC (x := 0) (q := 52) dX4_cutTail_51 (by decide) rfl ?_
      refine r_iload_n hC (q := 53) dX4_cutTail_52 rfl rfl ?_
      refine r_iconst hC (x := 0) (q := 54) dX4_cutTail_53 (by decide) rfl ?_
      refine r_iconst hC (x := 0) (q := 55) dX4_cutTail_54 (by decide) rfl ?_
      refine r_cVV hC (q := 58) (n := 5) (As := [_, _, _, _, _]) (fun lch => c_X4_terminate lch hb) gX4_cutTail_X4_terminate rfl (by decide +kernel) ⟨by decide, by decide⟩ ob_270 rfl rfl rfl rfl (Nat.le_of_ble_eq_true rfl) dX4_cutTail_55 rfl ?_
      rintro _ rfl
      exact hR _ _ _ dX4_cutTail_58 hpost
    · skip
      omega
  | succ f ih =>
    intro j v hjf hj hn hpost
    have i_X4 : ∀ w ∈ wsX40, w ∈ wsX4_cutTail := by decide +kernel
    have l_7 : lnk E RX4 7 (TX4 0) := hC.fl (by decide +kernel)
    refine r_iload hC (q := 15) dX4_cutTail_13 rfl rfl ?_
    refine r_iload_n hC (q := 16) dX4_cutTail_15 rfl rfl ?_
    refine r_cSI hC (q := 19) (n := 1) (As := [_]) (fun lch => c_X4_end lch ) gX4_cutTail_X4_end rfl (by decide +kernel) ⟨by decide, by decide⟩ rfl rfl rfl (Nat.le_of_ble_eq_true rfl) dX4_cutTail_16 rfl ?_
    rintro _ _ ⟨rfl, rfl⟩
    refine r_icmp_geN hC (q := 22) (t := 36) dX4_cutTail_19 rfl rfl (by omega) (by omega) (by decide) rfl (fun h19 => ?_) (fun h19 => ?_)
    · skip
      omega
    · skip
      refine r_aload_n hC (q := 23) dX4_cutTail_22 rfl rfl ?_
      refine g_X4 hC 0 i_X4 l_7 (by decide) (q := 26) dX4_cutTail_23 rfl rfl ?_
      refine r_iload hC (q := 28) dX4_cutTail_26 rfl rfl ?_
      refine r_iconst hC (x := 0) (q := 29) dX4_cutTail_28 (by decide) rfl ?_
      refine r_isN hC (q := 30) dX4_cutTail_29 iA_271 rfl (by omega) rfl ?_
      refine r_iincN hC (q := 33) (L' := [_, _, _, _, _]) (c := 1) dX4_cutTail_30 rfl rfl rfl rfl rfl ?_
      refine r_goto hC (t := 13) dX4_cutTail_33 (by decide) ?_
      exact ih (j + 1) _ (by omega) (by omega) (by rw [vu_at (by omega)]; exact hn) hpost

set_option maxRecDepth 100000 in
set_option maxHeartbeats 4000000 in
theorem b_X4_cutTail {E : TE} {G : GG} {v : VV} {b m n : Nat} {x : Int32} (hC : Cx E G cX4_cutTail RX4 5 wsX4_cutTail 3 65) (hR : RtV E G cX4_cutTail (fun v' => v' = mcut v b n m x)) (hb : b < 12) (hn : v 271 (10 + 55 * b) = nI n) (hn10 : n ≤ 10) (hm : m ≤ n) : Wv E G v 0 [some (.ref (G.1 270)), some (.int (nI b)), some (.int (nI m)), some (.int x), none] [] := by
  refine r_iload_n hC (q := 1) dX4_cutTail_0 rfl rfl ?_
  refine r_aload_n hC (q := 2) dX4_cutTail_1 rfl rfl ?_
  refine r_iload_n hC (q := 3) dX4_cutTail_2 rfl rfl ?_
  refine r_cVI hC (q := 6) (n := 1) (As := [_]) (fun lch => c_X4_many lch (by omega)) gX4_cutTail_X4_many rfl (by decide +kernel) ⟨by decide, by decide⟩ ob_270 rfl rfl rfl rfl (Nat.le_of_ble_eq_true rfl) dX4_cutTail_3 rfl ?_
  rintro _ _ ⟨rfl, rfl⟩
  refine r_top (y := nI n) hn ?_
  refine r_iload_n hC (q := 7) dX4_cutTail_6 rfl rfl ?_
  refine r_isubN hC (q := 8) dX4_cutTail_7 rfl rfl (by omega) rfl ?_
  refine r_cSI hC (q := 11) (n := 2) (As := [_, _]) (fun lch => c_X4_at lch ) gX4_cutTail_X4_at rfl (by decide +kernel) ⟨by decide, by decide⟩ rfl rfl rfl (Nat.le_of_ble_eq_true rfl) dX4_cutTail_8 rfl ?_
  rintro _ _ ⟨rfl, rfl⟩
  refine r_istore hC (q := 13) (L' := [_, _, _, _, _]) dX4_cutTail_11 (Nat.le_of_ble_eq_true rfl) rfl rfl ?_
  exact lp_X4_cutTail hC hR hb hn10 hm _ _ v (by omega) (by omega) hn rfl
theorem c_X4_cutTail (l : Launch) {G : GG} {v : VV} {b m n : Nat} {x : Int32} (hb : b < 12) (hn : v 271 (10 + 55 * b) = nI n) (hn10 : n ≤ 10) (hm : m ≤ n) : MtV l G yX4_cutTail wsX4_cutTail 3 65 [.ref (G.1 270), .int (nI b), .int (nI m), .int x] v (fun v' => v' = mcut v b n m x) := mt_void (by decide) rfl (by simp [Value.category]) (Nat.le_of_ble_eq_true rfl) rfl rfl (fun E hC hR => b_X4_cutTail hC hR hb hn hn10 hm)

def mpp (v : VV) (b n m t : Nat) (x : Int32) : VV := map5 (mcut v b n m x) b (n - m) 0 7 (v 271 (10 + 55 * b + 1 + 5 * (n - t) + 2)) 0 (v 271 (10 + 55 * b + 1 + 5 * (n - t) + 4))

set_option maxRecDepth 100000 in
set_option maxHeartbeats 4000000 in
theorem b_X4_passParameter {E : TE} {G : GG} {v : VV} {b m n t : Nat} {x : Int32} (hC : Cx E G cX4_passParameter RX4 8 wsX4_passParameter 4 89) (hR : RtV E G cX4_passParameter (fun v' => v' = mpp v b n m t x)) (hb : b < 12) (hn : v 271 (10 + 55 * b) = nI n) (hn10 : n ≤ 10) (hm : m ≤ n) (ht : t ≤ m) (ht1 : 1 ≤ t) : Wv E G v 0 [some (.ref (G.1 270)), some (.int (nI b)), some (.int (nI m)), some (.int (nI t)), some (.int x), none, none, none] [] := by
  have i_X4 : ∀ w ∈ wsX40, w ∈ wsX4_passParameter := by decide +kernel
  have l_7 : lnk E RX4 7 (TX4 0) := hC.fl (by decide +kernel)
  refine r_iload_n hC (q := 1) dX4_passParameter_0 rfl rfl ?_
  refine r_aload_n hC (q := 2) dX4_passParameter_1 rfl rfl ?_
  refine r_iload_n hC (q := 3) dX4_passParameter_2 rfl rfl ?_
  refine r_cVI hC (q := 6) (n := 1) (As := [_]) (fun lch => c_X4_many lch (by omega)) gX4_passParameter_X4_many rfl (by decide +kernel) ⟨by decide, by decide⟩ ob_270 rfl rfl rfl rfl (Nat.le_of_ble_eq_true rfl) dX4_passParameter_3 rfl ?_
  rintro _ _ ⟨rfl, rfl⟩
  refine r_top (y := nI n) hn ?_
  refine r_iload_n hC (q := 7) dX4_passParameter_6 rfl rfl ?_
  refine r_isubN hC (q := 8) dX4_passParameter_7 rfl rfl (by omega) rfl ?_
  refine r_cSI hC (q := 11) (n := 2) (As := [_, _]) (fun lch => c_X4_at lch ) gX4_passParameter_X4_at rfl (by decide +kernel) ⟨by decide, by decide⟩ rfl rfl rfl (Nat.le_of_ble_eq_true rfl) dX4_passParameter_8 rfl ?_
  rintro _ _ ⟨rfl, rfl⟩
  refine r_istore hC (q := 13) (L' := [_, _, _, _, _, _, _, _]) dX4_passParameter_11 (Nat.le_of_ble_eq_true rfl) rfl rfl ?_
  refine r_aload_n hC (q := 14) dX4_passParameter_13 rfl rfl ?_
  refine g_X4 hC 0 i_X4 l_7 (by decide) (q := 17) dX4_passParameter_14 rfl rfl ?_
  refine r_iload hC (q := 19) dX4_passParameter_17 rfl rfl ?_
  refine r_iconst hC (x := 2) (q := 20) dX4_passParameter_19 (by decide) rfl ?_
  refine r_iaddN hC (q := 21) (b := 2) dX4_passParameter_20 rfl rfl rfl ?_
  refine r_iaN hC (q := 22) dX4_passParameter_21 iA_271 rfl (by omega) rfl ?_
  refine r_istore hC (q := 24) (L' := [_, _, _, _, _, _, _, _]) dX4_passParameter_22 (Nat.le_of_ble_eq_true rfl) rfl rfl ?_
  refine r_aload_n hC (q := 25) dX4_passParameter_24 rfl rfl ?_
  refine g_X4 hC 0 i_X4 l_7 (by decide) (q := 28) dX4_passParameter_25 rfl rfl ?_
  refine r_iload hC (q := 30) dX4_passParameter_28 rfl rfl ?_
  refine r_iconst hC (x := 4) (q := 31) dX4_passParameter_30 (by decide) rfl ?_
  refine r_iaddN hC (q := 32) (b := 4) dX4_passParameter_31 rfl rfl rfl ?_
  refine r_iaN hC (q := 33) dX4_passParameter_32 iA_271 rfl (by omega) rfl ?_
  refine r_istore hC (q := 35) (L' := [_, _, _, _, _, _, _, _]) dX4_passParameter_33 (Nat.le_of_ble_eq_true rfl) rfl rfl ?_
  refine r_aload_n hC (q := 36) dX4_passParameter_35 rfl rfl ?_
  refine r_iload_n hC (q := 37) dX4_passParameter_36 rfl rfl ?_
  refine r_iload_n hC (q := 38) dX4_passParameter_37 rfl rfl ?_
  refine r_iload hC (q := 40) dX4_passParameter_38 rfl rfl ?_
  refine r_cVV hC (q := 43) (n := 3) (As := [_, _, _]) (fun lch => c_X4_cutTail lch hb hn hn10 hm) gX4_passParameter_X4_cutTail rfl (by decide +kernel) ⟨by decide, by decide⟩ ob_270 rfl rfl rfl rfl (Nat.le_of_ble_eq_true rfl) dX4_passParameter_40 rfl ?_
  rintro _ rfl
  refine r_aload_n hC (q := 44) dX4_passParameter_43 rfl rfl ?_
  refine r_iload_n hC (q := 45) dX4_passParameter_44 rfl rfl ?_
  refine r_iconst hC (x := 0) (q := 46) dX4_passParameter_45 (by decide) rfl ?_
  refine r_bipush hC (x := 7) (q := 48) dX4_passParameter_46 (by decide) rfl ?_
  refine r_iload hC (q := 50) dX4_passParameter_48 rfl rfl ?_
  refine r_iconst hC (x := 0) (q := 51) dX4_passParameter_50 (by decide) rfl ?_
  refine r_iload hC (q := 53) dX4_passParameter_51 rfl rfl ?_
  refine r_cVV hC (q := 56) (n := 6) (As := [_, _, _, _, _, _]) (fun lch => c_X4_append lch hb mcut_cnt (by omega)) gX4_passParameter_X4_append rfl (by decide +kernel) ⟨by decide, by decide⟩ ob_270 rfl rfl rfl rfl (Nat.le_of_ble_eq_true rfl) dX4_passParameter_53 rfl ?_
  rintro _ rfl
  exact hR _ _ _ dX4_passParameter_56 rfl
theorem c_X4_passParameter (l : Launch) {G : GG} {v : VV} {b m n t : Nat} {x : Int32} (hb : b < 12) (hn : v 271 (10 + 55 * b) = nI n) (hn10 : n ≤ 10) (hm : m ≤ n) (ht : t ≤ m) (ht1 : 1 ≤ t) : MtV l G yX4_passParameter wsX4_passParameter 4 89 [.ref (G.1 270), .int (nI b), .int (nI m), .int (nI t), .int x] v (fun v' => v' = mpp v b n m t x) := mt_void (by decide) rfl (by simp [Value.category]) (Nat.le_of_ble_eq_true rfl) rfl rfl (fun E hC hR => b_X4_passParameter hC hR hb hn hn10 hm ht ht1)

def mmS (v : VV) (c m b : Nat) : VV := mcut (muF b c (mnb (v 271) b) m m 0 v) b (mnb (v 271) b) m (nI c)
def mmF (c S m : Nat) : Nat → Nat → VV → VV
  | 0, _, v => v
  | f + 1, b, v => mmF c S m f (b + 1) (if Nat.testBit S b = true then mmS v c m b else v)
def mgm (v : VV) (c S m : Nat) : VV := mmF c S m c 0 (mcT (mnw v c) (low S) c 0 (mnb (v 271) (low S)) m)
theorem mnw_at {v : VV} {c i : Nat} (h : i < 10 + 55 * c ∨ 10 + 55 * c + 54 < i) (h0 : i ≠ 0) : mnw v c 271 i = v 271 i := by
  unfold mnw
  rw [u2_at h0, mtm_at (by omega), nzF_at _ _ _ (by omega)]
theorem mnw_ne {v : VV} {c q : Nat} (h : q ≠ 271) : mnw v c q = v q := by
  unfold mnw
  rw [u2_ne h, mtm_ne h, nzF_ne h]
theorem nzF_in {b i : Nat} : ∀ (f k : Nat) (v : VV), 10 + 55 * b + k ≤ i → i < 10 + 55 * b + k + f → nzF b f k v 271 i = 0 := by
  intro f
  induction f with
  | zero => intro k v h1 h2; omega
  | succ f ih =>
    intro k v h1 h2
    by_cases h : i = 10 + 55 * b + k
    · rw [nzF, nzF_at _ _ _ (by omega), h, u2_same]
    · rw [nzF]; exact ih (k + 1) _ (by omega) (by omega)
theorem mnw_cnt {v : VV} {c : Nat} : mnw v c 271 (10 + 55 * c) = 0 := by
  unfold mnw
  rw [u2_at (by omega), mtm_at (by omega), nzF_in _ _ _ (by omega) (by omega)]
theorem mnb_eq {g h : Nat → Int32} {b : Nat} (e : g (10 + 55 * b) = h (10 + 55 * b)) : mnb g b = mnb h b := by unfold mnb; rw [e]
def mmI (g : Nat → Int32) (c S m b : Nat) : Prop := ∀ b', b ≤ b' → b' < c → g (10 + 55 * b') = nI (mnb g b') ∧ mnb g b' ≤ 10 ∧ (Nat.testBit S b' = true → m ≤ mnb g b')
theorem mmI.far {g h : Nat → Int32} {c S m b : Nat} (hI : mmI g c S m b) (e : ∀ b', b ≤ b' → b' < c → h (10 + 55 * b') = g (10 + 55 * b')) : mmI h c S m b := by
  intro b' h1 h2
  have h3 := hI b' h1 h2
  rw [mnb_eq (e b' h1 h2), e b' h1 h2]
  exact h3
theorem mmS_at {v : VV} {c m b i : Nat} (hn : mnb (v 271) b ≤ 10) (hm : m ≤ 10) (h1 : i < 10 + 55 * b ∨ 10 + 55 * b + 54 < i) (h2 : i < 10 + 55 * c + 1 ∨ 10 + 55 * c + 50 < i) : mmS v c m b 271 i = v 271 i := by
  unfold mmS
  rw [mcut_at hn h1, muF_at h2 _ _ _ (by omega)]

set_option maxRecDepth 100000 in
set_option maxHeartbeats 4000000 in
theorem lp_X4_mergeSet {E : TE} {G : GG} {c S m : Nat} {post : Int32 → VV → Prop} (hC : Cx E G cX4_mergeSet RX4 6 wsX4_mergeSet 5 116) (hR : RtI E G cX4_mergeSet post) (hc : c < 12) (hc1 : 1 ≤ c) (hS : S < 2 ^ 31) (hm : m ≤ 10) : ∀ (f b : Nat) (v : VV), b + f = c → mmI (v 271) c S m b → post (nI c) (mmF c S m f b v) → Wv E G v 35 [some (.ref (G.1 270)), some (.int (nI S)), some (.int (nI m)), some (.int (nI (c - 1))), some (.int (nI c)), some (.int (nI b))] [] := by
  intro f
  induction f with
  | zero =>
    intro b v hbf hI hpost
    refine r_iload hC (q := 37) dX4_mergeSet_35 rfl rfl ?_
    refine r_iload_n hC (q := 38) dX4_mergeSet_37 rfl rfl ?_
    refine r_icmp_gtN hC (q := 41) (t := 75) dX4_mergeSet_38 rfl rfl (by omega) (by omega) (by decide) rfl (fun h38 => ?_) (fun h38 => ?_)
    · skip
      refine r_iload hC (q := 77) dX4_mergeSet_75 rfl rfl ?_
      exact hR _ _ _ _ dX4_mergeSet_77 hpost
    · skip
      omega
  | succ f ih =>
    intro b v hbf hI hpost
    have hb := hI b (Nat.le_refl b) (by omega)
    refine r_iload hC (q := 37) dX4_mergeSet_35 rfl rfl ?_
    refine r_iload_n hC (q := 38) dX4_mergeSet_37 rfl rfl ?_
    refine r_icmp_gtN hC (q := 41) (t := 75) dX4_mergeSet_38 rfl rfl (by omega) (by omega) (by decide) rfl (fun h38 => ?_) (fun h38 => ?_)
    · skip
      omega
    · skip
      refine r_iload_n hC (q := 42) dX4_mergeSet_41 rfl rfl ?_
      refine r_iload hC (q := 44) dX4_mergeSet_42 rfl rfl ?_
      refine r_ishr hC (q := 45) dX4_mergeSet_44 rfl ?_
      refine r_iconst hC (x := 1) (q := 46) dX4_mergeSet_45 (by decide) rfl ?_
      refine r_iand hC (q := 47) dX4_mergeSet_46 rfl ?_
      refine r_top (y := nI (S / 2 ^ b % 2)) (sh_tb hS (by omega)) ?_
      refine r_iconst hC (x := 1) (q := 48) dX4_mergeSet_47 (by decide) rfl ?_
      refine r_icmp_neN hC (q := 51) (t := 69) (b := 1) dX4_mergeSet_48 rfl rfl (by omega) (by omega) (by decide) rfl (fun h48 => ?_) (fun h48 => ?_)
      · skip
        refine r_iincN hC (q := 72) (L' := [_, _, _, _, _, _]) (c := 1) dX4_mergeSet_69 rfl rfl rfl rfl rfl ?_
        refine r_goto hC (t := 35) dX4_mergeSet_72 (by decide) ?_
        rw [mmF, if_neg (fun e => h48 (tb_iff.mp e))] at hpost
        exact ih (b + 1) _ (by omega) (fun b' h1 h2 => hI b' (by omega) h2) hpost
      · skip
        refine r_aload_n hC (q := 52) dX4_mergeSet_51 rfl rfl ?_
        refine r_iload hC (q := 54) dX4_mergeSet_52 rfl rfl ?_
        refine r_iload hC (q := 56) dX4_mergeSet_54 rfl rfl ?_
        refine r_iload_n hC (q := 57) dX4_mergeSet_56 rfl rfl ?_
        refine r_cVV hC (q := 60) (n := 3) (As := [_, _, _]) (fun lch => c_X4_uniteLines lch (by omega) hc (by omega) hb.1 hb.2.1 (hb.2.2 (tb_iff.mpr h48))) gX4_mergeSet_X4_uniteLines rfl (by decide +kernel) ⟨by decide, by decide⟩ ob_270 rfl rfl rfl rfl (Nat.le_of_ble_eq_true rfl) dX4_mergeSet_57 rfl ?_
        rintro _ rfl
        refine r_aload_n hC (q := 61) dX4_mergeSet_60 rfl rfl ?_
        refine r_iload hC (q := 63) dX4_mergeSet_61 rfl rfl ?_
        refine r_iload_n hC (q := 64) dX4_mergeSet_63 rfl rfl ?_
        refine r_iload hC (q := 66) dX4_mergeSet_64 rfl rfl ?_
        refine r_cVV hC (q := 69) (n := 3) (As := [_, _, _]) (fun lch => c_X4_cutTail lch (by omega) (by rw [muF_at (by omega) _ _ _ (by omega)]; exact hb.1) hb.2.1 (hb.2.2 (tb_iff.mpr h48))) gX4_mergeSet_X4_cutTail rfl (by decide +kernel) ⟨by decide, by decide⟩ ob_270 rfl rfl rfl rfl (Nat.le_of_ble_eq_true rfl) dX4_mergeSet_66 rfl ?_
        rintro _ rfl
        refine r_iincN hC (q := 72) (L' := [_, _, _, _, _, _]) (c := 1) dX4_mergeSet_69 rfl rfl rfl rfl rfl ?_
        refine r_goto hC (t := 35) dX4_mergeSet_72 (by decide) ?_
        rw [mmF, if_pos (tb_iff.mpr h48)] at hpost
        exact ih (b + 1) _ (by omega) (mmI.far (g := v 271) (fun b' h1 h2 => hI b' (by omega) h2) (fun b' h1 h2 => mmS_at hb.2.1 hm (by omega) (by omega))) hpost

set_option maxRecDepth 100000 in
set_option maxHeartbeats 4000000 in
theorem b_X4_mergeSet {E : TE} {G : GG} {v : VV} {c : Nat} {S m : Nat} (hC : Cx E G cX4_mergeSet RX4 6 wsX4_mergeSet 5 116) (hR : RtI E G cX4_mergeSet (fun r v' => r = nI c ∧ v' = mgm v c S m)) (hM : MW (v 271) c) (h0 : 0 < S) (hSc : S < 2 ^ c) (hc : c < 12) (htl : tfR (v 271) c S = nI m) (hm : m ≤ 10) (hmb : ∀ b, b < c → Nat.testBit S b = true → m ≤ mnb (v 271) b) : Wv E G v 0 [some (.ref (G.1 270)), some (.int (nI S)), none, none, none, none] [] := by
  have h12 := hM.2.1
  have hp := pow12 h12
  have hL := low_ok h0 hSc h12
  have hml := hmb _ hL.1 hL.2.1
  have hnl := hM.2.2 _ hL.1
  have i_X4 : ∀ w ∈ wsX40, w ∈ wsX4_mergeSet := by decide +kernel
  have l_7 : lnk E RX4 7 (TX4 0) := hC.fl (by decide +kernel)
  refine r_aload_n hC (q := 1) dX4_mergeSet_0 rfl rfl ?_
  refine r_iload_n hC (q := 2) dX4_mergeSet_1 rfl rfl ?_
  refine r_cVI hC (q := 5) (n := 1) (As := [_]) (fun lch => c_X4_tailOf lch hM h0 hSc) gX4_mergeSet_X4_tailOf rfl (by decide +kernel) ⟨by decide, by decide⟩ ob_270 rfl rfl rfl rfl (Nat.le_of_ble_eq_true rfl) dX4_mergeSet_2 rfl ?_
  rintro _ _ ⟨rfl, rfl⟩
  refine r_top (y := nI m) htl ?_
  refine r_istore_n hC (q := 6) (L' := [_, _, _, _, _, _]) dX4_mergeSet_5 (Nat.le_of_ble_eq_true rfl) rfl rfl ?_
  refine r_aload_n hC (q := 7) dX4_mergeSet_6 rfl rfl ?_
  refine g_X4 hC 0 i_X4 l_7 (by decide) (q := 10) dX4_mergeSet_7 rfl rfl ?_
  refine r_iconst hC (x := 0) (q := 11) dX4_mergeSet_10 (by decide) rfl ?_
  refine r_iaN hC (q := 12) (i := 0) dX4_mergeSet_11 iA_271 rfl (by omega) rfl ?_
  refine r_top (y := nI c) hM.1 ?_
  refine r_iconst hC (x := 1) (q := 13) dX4_mergeSet_12 (by decide) rfl ?_
  refine r_isubN hC (q := 14) (b := 1) dX4_mergeSet_13 rfl rfl (by omega) rfl ?_
  refine r_istore_n hC (q := 15) (L' := [_, _, _, _, _, _]) dX4_mergeSet_14 (Nat.le_of_ble_eq_true rfl) rfl rfl ?_
  refine r_aload_n hC (q := 16) dX4_mergeSet_15 rfl rfl ?_
  refine r_cVI hC (q := 19) (n := 0) (As := []) (fun lch => c_X4_newBlock lch hM.1 hc) gX4_mergeSet_X4_newBlock rfl (by decide +kernel) ⟨by decide, by decide⟩ ob_270 rfl rfl rfl rfl (Nat.le_of_ble_eq_true rfl) dX4_mergeSet_16 rfl ?_
  rintro _ _ ⟨rfl, rfl⟩
  refine r_istore hC (q := 21) (L' := [_, _, _, _, _, _]) dX4_mergeSet_19 (Nat.le_of_ble_eq_true rfl) rfl rfl ?_
  refine r_aload_n hC (q := 22) dX4_mergeSet_21 rfl rfl ?_
  refine r_iload_n hC (q := 23) dX4_mergeSet_22 rfl rfl ?_
  refine r_cSI hC (q := 26) (n := 1) (As := [_]) (fun lch => c_X4_lowest lch (c := c) h0 hSc h12) gX4_mergeSet_X4_lowest rfl (by decide +kernel) ⟨by decide, by decide⟩ rfl rfl rfl (Nat.le_of_ble_eq_true rfl) dX4_mergeSet_23 rfl ?_
  rintro _ _ ⟨rfl, rfl⟩
  refine r_iload hC (q := 28) dX4_mergeSet_26 rfl rfl ?_
  refine r_iload_n hC (q := 29) dX4_mergeSet_28 rfl rfl ?_
  refine r_cVV hC (q := 32) (n := 3) (As := [_, _, _]) (fun lch => c_X4_copyTail lch (n := mnb (v 271) (low S)) (k := 0) (by omega) hc (by omega) (by rw [mnw_at (by omega) (by omega)]; exact hnl.1) hnl.2 hml mnw_cnt (by omega)) gX4_mergeSet_X4_copyTail rfl (by decide +kernel) ⟨by decide, by decide⟩ ob_270 rfl rfl rfl rfl (Nat.le_of_ble_eq_true rfl) dX4_mergeSet_29 rfl ?_
  rintro _ rfl
  refine r_iconst hC (x := 0) (q := 33) dX4_mergeSet_32 (by decide) rfl ?_
  refine r_istore hC (q := 35) (L' := [_, _, _, _, _, _]) dX4_mergeSet_33 (Nat.le_of_ble_eq_true rfl) rfl rfl ?_
  exact lp_X4_mergeSet hC hR hc (by omega) (by omega) hm c 0 _ (by omega) (mmI.far (g := v 271) (fun b' h1 h2 => ⟨(hM.2.2 b' h2).1, (hM.2.2 b' h2).2, hmb b' h2⟩) (fun b' h1 h2 => by rw [mcT_at (by omega) (by omega), mnw_at (by omega) (by omega)])) ⟨rfl, rfl⟩
theorem c_X4_mergeSet (l : Launch) {G : GG} {v : VV} {c : Nat} {S m : Nat} (hM : MW (v 271) c) (h0 : 0 < S) (hSc : S < 2 ^ c) (hc : c < 12) (htl : tfR (v 271) c S = nI m) (hm : m ≤ 10) (hmb : ∀ b, b < c → Nat.testBit S b = true → m ≤ mnb (v 271) b) : MtI l G yX4_mergeSet wsX4_mergeSet 5 116 [.ref (G.1 270), .int (nI S)] v (fun r v' => r = nI c ∧ v' = mgm v c S m) := mt_int (Or.inl rfl) (by decide) rfl (by simp [Value.category]) (Nat.le_of_ble_eq_true rfl) rfl rfl (fun E hC hR => b_X4_mergeSet hC hR hM h0 hSc hc htl hm hmb)
