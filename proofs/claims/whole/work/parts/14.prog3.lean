/-! fewer known locals -/
def wkL : List (Option Value) → List (Option Value) → Prop
  | [], [] => True
  | a :: l, b :: l' => (b = none ∨ b = a) ∧ wkL l l'
  | _, _ => False
theorem wkL_len : ∀ (l l' : List (Option Value)), wkL l l' → l'.length = l.length
  | [], [], _ => rfl
  | a :: l, b :: l', h => by simp [wkL_len l l' h.2]
  | [], _ :: _, h => h.elim
  | _ :: _, [], h => h.elim
theorem wkL_gl : ∀ (l l' : List (Option Value)), wkL l l' → ∀ (i : Nat) (x : Value), gl l' i = some x → gl l i = some x
  | [], [], _, i, x, h => by cases h
  | a :: l, b :: l', h, 0, x, e => by
    rcases h.1 with h1 | h1
    · rw [h1] at e; cases e
    · rw [h1] at e; exact e
  | a :: l, b :: l', h, i + 1, x, e => wkL_gl l l' h.2 i x e
  | [], _ :: _, h, _, _, _ => h.elim
  | _ :: _, [], h, _, _, _ => h.elim
theorem r_weak {E : TE} {G : GG} {v : VV} {pc : Nat} {L L' : List (Option Value)} {st : List Value} (kk : Wv E G v pc L' st) (h : wkL L L') : Wv E G v pc L st := by
  obtain ⟨p, l, e, R, s, m, args, below, meth, c, cells, slots, Q⟩ := E
  intro H locs ls hP hS hl
  exact kk H locs ls hP hS ⟨by rw [hl.1, wkL_len _ _ h], hl.2.1, fun i x hx => hl.2.2 i x (wkL_gl _ _ h i x hx)⟩
theorem or_nI (a b : Nat) : nI a ||| nI b = nI (a ||| b) := by
  apply Int32.toBitVec_inj.1
  show BitVec.ofNat 32 a ||| BitVec.ofNat 32 b = BitVec.ofNat 32 (a ||| b)
  rw [BitVec.ofNat_or]
/-! compareWithLater, sharersFrom, bestSet -/

theorem PW.sh {v : VV} {p c j : Nat} {x : Int32} (hp : isPr p) (h : PW v p c) : PW (u2 v (p + 87) j x) p c := by
  refine ⟨by rw [u2_ne (by omega)]; exact h.1, h.2.1, fun b hb => ?_⟩
  have h1 : u2 v (p + 87) j x (kB p b) = v (kB p b) := u2_ne (by have := h.2.1; unfold kB; omega)
  have h2 := h.2.2 b hb
  rw [nb_eq h1, h1]
  exact h2
def cwF (p a : Nat) : Nat → Nat → VV → VV
  | 0, _, v => v
  | f + 1, b, v => cwF p a f (b + 1) (u2 v (p + 87) b (tl (pv v p a) (pv v p b)))

set_option maxRecDepth 100000 in
set_option maxHeartbeats 4000000 in
theorem lp_X2_compareWithLater {E : TE} {G : GG} {p c a : Nat} {post : VV → Prop} (hC : Cx E G cX2_compareWithLater RX2 3 wsX2_compareWithLater 2 47) (hR : RtV E G cX2_compareWithLater post) (hp : isPr p) (hac : a < c) (h12 : c ≤ 12) : ∀ (f b : Nat) (v : VV), b + f = c → PW v p c → post (cwF p a f b v) → Wv E G v 4 [some (.ref (G.1 p)), some (.int (nI a)), some (.int (nI b))] [] := by
  intro f
  induction f with
  | zero =>
    intro b v hbf hW hpost
    have i_X2 : ∀ w ∈ wsX20, w ∈ wsX2_compareWithLater := by decide +kernel
    have l_18 : lnk E RX2 18 (TX2 1) := hC.fl (by decide +kernel)
    refine r_iload_n hC (q := 5) dX2_compareWithLater_4 rfl rfl ?_
    refine r_aload_n hC (q := 6) dX2_compareWithLater_5 rfl rfl ?_
    refine g_X2 hC 1 i_X2 l_18 (by decide) (q := 9) dX2_compareWithLater_6 hp rfl rfl ?_
    refine r_top (y := nI c) hW.1 ?_
    refine r_icmp_geN hC (q := 12) (t := 39) dX2_compareWithLater_9 rfl rfl (by omega) (by omega) (by decide) rfl (fun h9 => ?_) (fun h9 => ?_)
    · skip
      exact hR _ _ _ dX2_compareWithLater_39 hpost
    · skip
      omega
  | succ f ih =>
    intro b v hbf hW hpost
    have i_X2 : ∀ w ∈ wsX20, w ∈ wsX2_compareWithLater := by decide +kernel
    have l_11 : lnk E RX2 11 (TX2 0) := hC.fl (by decide +kernel)
    have l_18 : lnk E RX2 18 (TX2 1) := hC.fl (by decide +kernel)
    have l_29 : lnk E RX2 29 (TX2 4) := hC.fl (by decide +kernel)
    refine r_iload_n hC (q := 5) dX2_compareWithLater_4 rfl rfl ?_
    refine r_aload_n hC (q := 6) dX2_compareWithLater_5 rfl rfl ?_
    refine g_X2 hC 1 i_X2 l_18 (by decide) (q := 9) dX2_compareWithLater_6 hp rfl rfl ?_
    refine r_top (y := nI c) hW.1 ?_
    refine r_icmp_geN hC (q := 12) (t := 39) dX2_compareWithLater_9 rfl rfl (by omega) (by omega) (by decide) rfl (fun h9 => ?_) (fun h9 => ?_)
    · skip
      omega
    · skip
      refine r_aload_n hC (q := 13) dX2_compareWithLater_12 rfl rfl ?_
      refine g_X2 hC 4 i_X2 l_29 (by decide) (q := 16) dX2_compareWithLater_13 hp rfl rfl ?_
      refine r_iload_n hC (q := 17) dX2_compareWithLater_16 rfl rfl ?_
      refine r_aload_n hC (q := 18) dX2_compareWithLater_17 rfl rfl ?_
      refine g_X2 hC 0 i_X2 l_11 (by decide) (q := 21) dX2_compareWithLater_18 hp rfl rfl ?_
      refine r_iload_n hC (q := 22) dX2_compareWithLater_21 rfl rfl ?_
      refine r_aBN hC (q := 23) dX2_compareWithLater_22 hp rfl (by omega) rfl ?_
      refine r_aload_n hC (q := 24) dX2_compareWithLater_23 rfl rfl ?_
      refine g_X2 hC 0 i_X2 l_11 (by decide) (q := 27) dX2_compareWithLater_24 hp rfl rfl ?_
      refine r_iload_n hC (q := 28) dX2_compareWithLater_27 rfl rfl ?_
      refine r_aBN hC (q := 29) dX2_compareWithLater_28 hp rfl (by omega) rfl ?_
      refine r_cNI hC (q := 32) (n := 1) (As := [_]) (fun lch => c_X0_tailSharedWith lch (n := nb v p a) (n2 := nb v p b) (isBk_of hp (by omega)) (isBk_of hp (by omega)) (hW.2.2 a (by omega)).1 (hW.2.2 b (by omega)).1 (hW.2.2 a (by omega)).2 (hW.2.2 b (by omega)).2) ggX2_compareWithLater_X0_tailSharedWith rfl 13 rfl (by decide +kernel) (by decide +kernel) (by decide +kernel) (by decide +kernel) ⟨by decide, by decide⟩ (ob_b (isBk_of hp (by omega))) rfl rfl rfl rfl (Nat.le_of_ble_eq_true rfl) dX2_compareWithLater_29 rfl ?_
      rintro _ _ ⟨rfl, rfl⟩
      refine r_isN hC (q := 33) dX2_compareWithLater_32 (iA_p87 hp) rfl (by omega) rfl ?_
      refine r_iincN hC (q := 36) (L' := [_, _, _]) (c := 1) dX2_compareWithLater_33 rfl rfl rfl rfl rfl ?_
      refine r_goto hC (t := 4) dX2_compareWithLater_36 (by decide) ?_
      exact ih (b + 1) _ (by omega) (hW.sh hp) hpost

set_option maxRecDepth 100000 in
set_option maxHeartbeats 4000000 in
theorem b_X2_compareWithLater {E : TE} {G : GG} {v : VV} {p : Nat} {c a : Nat} (hC : Cx E G cX2_compareWithLater RX2 3 wsX2_compareWithLater 2 47) (hR : RtV E G cX2_compareWithLater (fun v' => v' = cwF p a (c - (a + 1)) (a + 1) v)) (hp : isPr p) (hW : PW v p c) (hac : a < c) : Wv E G v 0 [some (.ref (G.1 p)), some (.int (nI a)), none] [] := by
  have h12 := hW.2.1
  refine r_iload_n hC (q := 1) dX2_compareWithLater_0 rfl rfl ?_
  refine r_iconst hC (x := 1) (q := 2) dX2_compareWithLater_1 (by decide) rfl ?_
  refine r_iaddN hC (q := 3) (b := 1) dX2_compareWithLater_2 rfl rfl rfl ?_
  refine r_istore_n hC (q := 4) (L' := [_, _, _]) dX2_compareWithLater_3 (Nat.le_of_ble_eq_true rfl) rfl rfl ?_
  exact lp_X2_compareWithLater hC hR hp hac hW.2.1 (c - (a + 1)) (a + 1) v (by omega) hW rfl
theorem c_X2_compareWithLater (l : Launch) {G : GG} {v : VV} {p : Nat} {c a : Nat} (hp : isPr p) (hW : PW v p c) (hac : a < c) : MtV l G yX2_compareWithLater wsX2_compareWithLater 2 47 [.ref (G.1 p), .int (nI a)] v (fun v' => v' = cwF p a (c - (a + 1)) (a + 1) v) := mt_void (by decide) rfl (by simp [Value.category]) (Nat.le_of_ble_eq_true rfl) rfl rfl (fun E hC hR => b_X2_compareWithLater hC hR hp hW hac)

def shF (v : VV) (p : Nat) (x : Int32) : Nat → Nat → Nat → Nat
  | 0, _, S => S
  | f + 1, b, S => shF v p x f (b + 1) (if v (p + 87) b < x then S else S ||| 2 ^ b)
theorem sh_lt (v : VV) (p : Nat) (x : Int32) : ∀ (f b S : Nat), S < 4096 → b + f ≤ 12 → shF v p x f b S < 4096 := by
  intro f
  induction f with
  | zero => intro b S h _; exact h
  | succ f ih =>
    intro b S h1 h2
    refine ih (b + 1) _ ?_ (by omega)
    by_cases h : v (p + 87) b < x
    · rw [if_pos h]; exact h1
    · rw [if_neg h]
      exact Nat.or_lt_two_pow (n := 12) h1 (Nat.pow_lt_pow_right (by omega) (by omega))

set_option maxRecDepth 100000 in
set_option maxHeartbeats 4000000 in
theorem lp_X2_sharersFrom {E : TE} {G : GG} {v : VV} {p c a : Nat} {x : Int32} {post : Int32 → VV → Prop} (hC : Cx E G cX2_sharersFrom RX2 5 wsX2_sharersFrom 0 0) (hR : RtI E G cX2_sharersFrom post) (hp : isPr p) (hc : v p 1 = nI c) (h12 : c ≤ 12) : ∀ (f b S : Nat), b + f = c → post (nI (shF v p x f b S)) v → Wv E G v 9 [some (.ref (G.1 p)), some (.int (nI a)), some (.int x), some (.int (nI S)), some (.int (nI b))] [] := by
  intro f
  induction f with
  | zero =>
    intro b S hbf hpost
    have i_X2 : ∀ w ∈ wsX20, w ∈ wsX2_sharersFrom := by decide +kernel
    have l_18 : lnk E RX2 18 (TX2 1) := hC.fl (by decide +kernel)
    refine r_iload hC (q := 11) dX2_sharersFrom_9 rfl rfl ?_
    refine r_aload_n hC (q := 12) dX2_sharersFrom_11 rfl rfl ?_
    refine g_X2 hC 1 i_X2 l_18 (by decide) (q := 15) dX2_sharersFrom_12 hp rfl rfl ?_
    refine r_top (y := nI c) hc ?_
    refine r_icmp_geN hC (q := 18) (t := 42) dX2_sharersFrom_15 rfl rfl (by omega) (by omega) (by decide) rfl (fun h15 => ?_) (fun h15 => ?_)
    · skip
      refine r_iload_n hC (q := 43) dX2_sharersFrom_42 rfl rfl ?_
      exact hR _ _ _ _ dX2_sharersFrom_43 hpost
    · skip
      omega
  | succ f ih =>
    intro b S hbf hpost
    have i_X2 : ∀ w ∈ wsX20, w ∈ wsX2_sharersFrom := by decide +kernel
    have l_18 : lnk E RX2 18 (TX2 1) := hC.fl (by decide +kernel)
    have l_29 : lnk E RX2 29 (TX2 4) := hC.fl (by decide +kernel)
    refine r_iload hC (q := 11) dX2_sharersFrom_9 rfl rfl ?_
    refine r_aload_n hC (q := 12) dX2_sharersFrom_11 rfl rfl ?_
    refine g_X2 hC 1 i_X2 l_18 (by decide) (q := 15) dX2_sharersFrom_12 hp rfl rfl ?_
    refine r_top (y := nI c) hc ?_
    refine r_icmp_geN hC (q := 18) (t := 42) dX2_sharersFrom_15 rfl rfl (by omega) (by omega) (by decide) rfl (fun h15 => ?_) (fun h15 => ?_)
    · skip
      omega
    · skip
      refine r_aload_n hC (q := 19) dX2_sharersFrom_18 rfl rfl ?_
      refine g_X2 hC 4 i_X2 l_29 (by decide) (q := 22) dX2_sharersFrom_19 hp rfl rfl ?_
      refine r_iload hC (q := 24) dX2_sharersFrom_22 rfl rfl ?_
      refine r_iaN hC (q := 25) dX2_sharersFrom_24 (iA_p87 hp) rfl (by omega) rfl ?_
      refine r_iload_n hC (q := 26) dX2_sharersFrom_25 rfl rfl ?_
      refine r_icmp_lt hC (q := 29) (t := 36) dX2_sharersFrom_26 (by decide) rfl (fun h26 => ?_) (fun h26 => ?_)
      · skip
        refine r_iincN hC (q := 39) (L' := [_, _, _, _, _]) (c := 1) dX2_sharersFrom_36 rfl rfl rfl rfl rfl ?_
        refine r_goto hC (t := 9) dX2_sharersFrom_39 (by decide) ?_
        exact ih (b + 1) _ (by omega) (by first | (rw [shF, if_pos h26] at hpost; exact hpost) | (rw [shF, if_neg h26] at hpost; exact hpost))
      · skip
        refine r_iload_n hC (q := 30) dX2_sharersFrom_29 rfl rfl ?_
        refine r_iconst hC (x := 1) (q := 31) dX2_sharersFrom_30 (by decide) rfl ?_
        refine r_iload hC (q := 33) dX2_sharersFrom_31 rfl rfl ?_
        refine r_ishl hC (q := 34) dX2_sharersFrom_33 rfl ?_
        refine r_top (y := nI (2 ^ b)) (sh_1 (by omega)) ?_
        refine r_ior hC (q := 35) dX2_sharersFrom_34 rfl ?_
        refine r_top (y := nI (S ||| 2 ^ b)) (or_nI _ _) ?_
        refine r_istore_n hC (q := 36) (L' := [_, _, _, _, _]) dX2_sharersFrom_35 (Nat.le_of_ble_eq_true rfl) rfl rfl ?_
        refine r_iincN hC (q := 39) (L' := [_, _, _, _, _]) (c := 1) dX2_sharersFrom_36 rfl rfl rfl rfl rfl ?_
        refine r_goto hC (t := 9) dX2_sharersFrom_39 (by decide) ?_
        exact ih (b + 1) _ (by omega) (by first | (rw [shF, if_pos h26] at hpost; exact hpost) | (rw [shF, if_neg h26] at hpost; exact hpost))

set_option maxRecDepth 100000 in
set_option maxHeartbeats 4000000 in
theorem b_X2_sharersFrom {E : TE} {G : GG} {v : VV} {p : Nat} {c a : Nat} {x : Int32} (hC : Cx E G cX2_sharersFrom RX2 5 wsX2_sharersFrom 0 0) (hR : RtI E G cX2_sharersFrom (fun r v' => r = nI (shF v p x (c - (a + 1)) (a + 1) (2 ^ a)) ∧ v = v')) (hp : isPr p) (hc : v p 1 = nI c) (h12 : c ≤ 12) (hac : a < c) : Wv E G v 0 [some (.ref (G.1 p)), some (.int (nI a)), some (.int x), none, none] [] := by
  refine r_iconst hC (x := 1) (q := 1) dX2_sharersFrom_0 (by decide) rfl ?_
  refine r_iload_n hC (q := 2) dX2_sharersFrom_1 rfl rfl ?_
  refine r_ishl hC (q := 3) dX2_sharersFrom_2 rfl ?_
  refine r_top (y := nI (2 ^ a)) (sh_1 (by omega)) ?_
  refine r_istore_n hC (q := 4) (L' := [_, _, _, _, _]) dX2_sharersFrom_3 (Nat.le_of_ble_eq_true rfl) rfl rfl ?_
  refine r_iload_n hC (q := 5) dX2_sharersFrom_4 rfl rfl ?_
  refine r_iconst hC (x := 1) (q := 6) dX2_sharersFrom_5 (by decide) rfl ?_
  refine r_iaddN hC (q := 7) (b := 1) dX2_sharersFrom_6 rfl rfl rfl ?_
  refine r_istore hC (q := 9) (L' := [_, _, _, _, _]) dX2_sharersFrom_7 (Nat.le_of_ble_eq_true rfl) rfl rfl ?_
  exact lp_X2_sharersFrom hC hR hp hc h12 (c - (a + 1)) (a + 1) (2 ^ a) (by omega) ⟨rfl, rfl⟩
theorem c_X2_sharersFrom (l : Launch) {G : GG} {v : VV} {p : Nat} {c a : Nat} {x : Int32} (hp : isPr p) (hc : v p 1 = nI c) (h12 : c ≤ 12) (hac : a < c) : MtI l G yX2_sharersFrom wsX2_sharersFrom 0 0 [.ref (G.1 p), .int (nI a), .int x] v (fun r v' => r = nI (shF v p x (c - (a + 1)) (a + 1) (2 ^ a)) ∧ v = v') := mt_int (Or.inl rfl) (by decide) rfl (by simp [Value.category]) (Nat.le_of_ble_eq_true rfl) rfl rfl (fun E hC hR => b_X2_sharersFrom hC hR hp hc h12 hac)

def shS (v : VV) (p c a l : Nat) : Nat := shF v p (nI l) (c - (a + 1)) (a + 1) (2 ^ a)
def bsI (v : VV) (p c a : Nat) (t : Int32) : Nat → Nat → Int32 → Int32 → Int32 × Int32
  | 0, _, x, y => (x, y)
  | f + 1, l, x, y => if y < sv (nI (pop (shS v p c a l))) (nI l) t (v p 2) ∨ (sv (nI (pop (shS v p c a l))) (nI l) t (v p 2) = y ∧ ¬ x ≤ nI (shS v p c a l)) then bsI v p c a t f (l + 1) (nI (shS v p c a l)) (sv (nI (pop (shS v p c a l))) (nI l) t (v p 2)) else bsI v p c a t f (l + 1) x y
def boF (p c : Nat) : Nat → Nat → Int32 → Int32 → VV → Int32 × VV
  | 0, _, x, _, v => (x, v)
  | f + 1, a, x, y, v => boF p c f (a + 1) (bsI (cwF p a (c - (a + 1)) (a + 1) v) p c a (tc (cwF p a (c - (a + 1)) (a + 1) v) p a) (nb (cwF p a (c - (a + 1)) (a + 1) v) p a + 1) 0 x y).1 (bsI (cwF p a (c - (a + 1)) (a + 1) v) p c a (tc (cwF p a (c - (a + 1)) (a + 1) v) p a) (nb (cwF p a (c - (a + 1)) (a + 1) v) p a + 1) 0 x y).2 (cwF p a (c - (a + 1)) (a + 1) v)
theorem PW.cw {p c : Nat} (hp : isPr p) (a : Nat) : ∀ (f b : Nat) (v : VV), PW v p c → PW (cwF p a f b v) p c := by
  intro f
  induction f with
  | zero => intro b v h; exact h
  | succ f ih => intro b v h; exact ih _ _ (h.sh hp)
theorem shS_lt {v : VV} {p c a l : Nat} (h : a < c) (h12 : c ≤ 12) : shS v p c a l < 4096 := sh_lt v p _ _ _ _ (Nat.pow_lt_pow_right (n := 12) (by omega) (by omega)) (by omega)

set_option maxRecDepth 100000 in
set_option maxHeartbeats 4000000 in
theorem lp_X2_bestSet {E : TE} {G : GG} {v : VV} {p c a : Nat} {t : Int32} (hC : Cx E G cX2_bestSet RX2 8 wsX2_bestSet 3 69) (hp : isPr p) (hW : PW v p c) (hac : a < c) : ∀ (f l : Nat) (x y : Int32), l + f = nb v p a + 1 → Wv E G v 99 [some (.ref (G.1 p)), some (.int (bsI v p c a t f l x y).1), some (.int (bsI v p c a t f l x y).2), some (.int (nI a)), none, none, none, none] [] → Wv E G v 31 [some (.ref (G.1 p)), some (.int x), some (.int y), some (.int (nI a)), some (.int t), some (.int (nI l)), none, none] [] := by
  have h12 := hW.2.1
  have hBa := hW.2.2 a hac
  intro f
  induction f with
  | zero =>
    intro l x y hlf kk
    have i_X0 : ∀ w ∈ wsX00, w ∈ wsX2_bestSet := by decide +kernel
    have i_X2 : ∀ w ∈ wsX20, w ∈ wsX2_bestSet := by decide +kernel
    have l_11 : lnk E RX2 11 (TX2 0) := hC.fl (by decide +kernel)
    have l_45 : lnk E RX2 45 (TX0 5) := hC.nf 10 rfl
    refine r_iload hC (q := 33) dX2_bestSet_31 rfl rfl ?_
    refine r_aload_n hC (q := 34) dX2_bestSet_33 rfl rfl ?_
    refine g_X2 hC 0 i_X2 l_11 (by decide) (q := 37) dX2_bestSet_34 hp rfl rfl ?_
    refine r_iload_n hC (q := 38) dX2_bestSet_37 rfl rfl ?_
    refine r_aBN hC (q := 39) dX2_bestSet_38 hp rfl (by omega) rfl ?_
    refine g_X0 hC 5 i_X0 l_45 (by decide) (q := 42) dX2_bestSet_39 (isBk_of hp (by omega)) rfl rfl ?_
    refine r_top (y := nI (nb v p a)) hBa.1 ?_
    refine r_icmp_gtN hC (q := 45) (t := 99) dX2_bestSet_42 rfl rfl (by omega) (by omega) (by decide) rfl (fun h42 => ?_) (fun h42 => ?_)
    · skip
      exact r_weak kk ⟨Or.inr rfl, Or.inr rfl, Or.inr rfl, Or.inr rfl, Or.inl rfl, Or.inl rfl, Or.inl rfl, Or.inl rfl, trivial⟩
    · skip
      omega
  | succ f ih =>
    intro l x y hlf kk
    have i_X0 : ∀ w ∈ wsX00, w ∈ wsX2_bestSet := by decide +kernel
    have i_X2 : ∀ w ∈ wsX20, w ∈ wsX2_bestSet := by decide +kernel
    have l_11 : lnk E RX2 11 (TX2 0) := hC.fl (by decide +kernel)
    have l_45 : lnk E RX2 45 (TX0 5) := hC.nf 10 rfl
    refine r_iload hC (q := 33) dX2_bestSet_31 rfl rfl ?_
    refine r_aload_n hC (q := 34) dX2_bestSet_33 rfl rfl ?_
    refine g_X2 hC 0 i_X2 l_11 (by decide) (q := 37) dX2_bestSet_34 hp rfl rfl ?_
    refine r_iload_n hC (q := 38) dX2_bestSet_37 rfl rfl ?_
    refine r_aBN hC (q := 39) dX2_bestSet_38 hp rfl (by omega) rfl ?_
    refine g_X0 hC 5 i_X0 l_45 (by decide) (q := 42) dX2_bestSet_39 (isBk_of hp (by omega)) rfl rfl ?_
    refine r_top (y := nI (nb v p a)) hBa.1 ?_
    refine r_icmp_gtN hC (q := 45) (t := 99) dX2_bestSet_42 rfl rfl (by omega) (by omega) (by decide) rfl (fun h42 => ?_) (fun h42 => ?_)
    · skip
      omega
    · skip
      refine r_aload_n hC (q := 46) dX2_bestSet_45 rfl rfl ?_
      refine r_iload_n hC (q := 47) dX2_bestSet_46 rfl rfl ?_
      refine r_iload hC (q := 49) dX2_bestSet_47 rfl rfl ?_
      refine r_cVI hC (q := 52) (n := 2) (As := [_, _]) (fun lch => c_X2_sharersFrom lch hp hW.1 h12 hac) gX2_bestSet_X2_sharersFrom rfl (by decide +kernel) ⟨by decide, by decide⟩ (ob_p hp) rfl rfl rfl rfl (Nat.le_of_ble_eq_true rfl) dX2_bestSet_49 rfl ?_
      rintro _ _ ⟨rfl, rfl⟩
      refine r_istore hC (q := 54) (L' := [_, _, _, _, _, _, _, _]) dX2_bestSet_52 (Nat.le_of_ble_eq_true rfl) rfl rfl ?_
      refine r_aload_n hC (q := 55) dX2_bestSet_54 rfl rfl ?_
      refine r_iload hC (q := 57) dX2_bestSet_55 rfl rfl ?_
      refine r_cXI hC (q := 60) (n := 1) (As := [_]) (fun lch => c_J6_bitCount_0f7a4 lch (S := shS v p c a l) (shS_lt hac h12)) gX2_bestSet_J6_bitCount_0f7a4 rfl (by decide +kernel) ⟨by decide, by decide⟩ rfl rfl rfl (Nat.le_of_ble_eq_true rfl) dX2_bestSet_57 rfl ?_
      rintro _ _ ⟨rfl, rfl⟩
      refine r_iload hC (q := 62) dX2_bestSet_60 rfl rfl ?_
      refine r_iload hC (q := 64) dX2_bestSet_62 rfl rfl ?_
      refine r_cVI hC (q := 67) (n := 3) (As := [_, _, _]) (fun lch => c_X2_savingOf lch hp) gX2_bestSet_X2_savingOf rfl (by decide +kernel) ⟨by decide, by decide⟩ (ob_p hp) rfl rfl rfl rfl (Nat.le_of_ble_eq_true rfl) dX2_bestSet_64 rfl ?_
      rintro _ _ ⟨rfl, rfl⟩
      refine r_istore hC (q := 69) (L' := [_, _, _, _, _, _, _, _]) dX2_bestSet_67 (Nat.le_of_ble_eq_true rfl) rfl rfl ?_
      refine r_iload hC (q := 71) dX2_bestSet_69 rfl rfl ?_
      refine r_iload_n hC (q := 72) dX2_bestSet_71 rfl rfl ?_
      refine r_icmp_gt hC (q := 75) (t := 87) dX2_bestSet_72 (by decide) rfl (fun h72 => ?_) (fun h72 => ?_)
      · skip
        refine r_iload hC (q := 89) dX2_bestSet_87 rfl rfl ?_
        refine r_istore_n hC (q := 90) (L' := [_, _, _, _, _, _, _, _]) dX2_bestSet_89 (Nat.le_of_ble_eq_true rfl) rfl rfl ?_
        refine r_iload hC (q := 92) dX2_bestSet_90 rfl rfl ?_
        refine r_istore_n hC (q := 93) (L' := [_, _, _, _, _, _, _, _]) dX2_bestSet_92 (Nat.le_of_ble_eq_true rfl) rfl rfl ?_
        refine r_iincN hC (q := 96) (L' := [_, _, _, _, _, _, _, _]) (c := 1) dX2_bestSet_93 rfl rfl rfl rfl rfl ?_
        refine r_goto hC (t := 31) dX2_bestSet_96 (by decide) ?_
        refine r_weak (ih (l + 1) _ _ (by omega) ?_) ⟨Or.inr rfl, Or.inr rfl, Or.inr rfl, Or.inr rfl, Or.inr rfl, Or.inr rfl, Or.inl rfl, Or.inl rfl, trivial⟩
        rw [bsI, if_pos (Or.inl h72)] at kk
        exact kk
      · skip
        refine r_iload hC (q := 77) dX2_bestSet_75 rfl rfl ?_
        refine r_iload_n hC (q := 78) dX2_bestSet_77 rfl rfl ?_
        refine r_icmp_ne hC (q := 81) (t := 93) dX2_bestSet_78 (by decide) rfl (fun h78 => ?_) (fun h78 => ?_)
        · skip
          refine r_iincN hC (q := 96) (L' := [_, _, _, _, _, _, _, _]) (c := 1) dX2_bestSet_93 rfl rfl rfl rfl rfl ?_
          refine r_goto hC (t := 31) dX2_bestSet_96 (by decide) ?_
          refine r_weak (ih (l + 1) _ _ (by omega) ?_) ⟨Or.inr rfl, Or.inr rfl, Or.inr rfl, Or.inr rfl, Or.inr rfl, Or.inr rfl, Or.inl rfl, Or.inl rfl, trivial⟩
          rw [bsI, if_neg (fun e => e.elim h72 (fun e => h78 e.1))] at kk
          exact kk
        · skip
          refine r_iload hC (q := 83) dX2_bestSet_81 rfl rfl ?_
          refine r_iload_n hC (q := 84) dX2_bestSet_83 rfl rfl ?_
          refine r_icmp_ge hC (q := 87) (t := 93) dX2_bestSet_84 (by decide) rfl (fun h84 => ?_) (fun h84 => ?_)
          · skip
            refine r_iincN hC (q := 96) (L' := [_, _, _, _, _, _, _, _]) (c := 1) dX2_bestSet_93 rfl rfl rfl rfl rfl ?_
            refine r_goto hC (t := 31) dX2_bestSet_96 (by decide) ?_
            refine r_weak (ih (l + 1) _ _ (by omega) ?_) ⟨Or.inr rfl, Or.inr rfl, Or.inr rfl, Or.inr rfl, Or.inr rfl, Or.inr rfl, Or.inl rfl, Or.inl rfl, trivial⟩
            rw [bsI, if_neg (fun e => e.elim h72 (fun e => e.2 h84))] at kk
            exact kk
          · skip
            refine r_iload hC (q := 89) dX2_bestSet_87 rfl rfl ?_
            refine r_istore_n hC (q := 90) (L' := [_, _, _, _, _, _, _, _]) dX2_bestSet_89 (Nat.le_of_ble_eq_true rfl) rfl rfl ?_
            refine r_iload hC (q := 92) dX2_bestSet_90 rfl rfl ?_
            refine r_istore_n hC (q := 93) (L' := [_, _, _, _, _, _, _, _]) dX2_bestSet_92 (Nat.le_of_ble_eq_true rfl) rfl rfl ?_
            refine r_iincN hC (q := 96) (L' := [_, _, _, _, _, _, _, _]) (c := 1) dX2_bestSet_93 rfl rfl rfl rfl rfl ?_
            refine r_goto hC (t := 31) dX2_bestSet_96 (by decide) ?_
            refine r_weak (ih (l + 1) _ _ (by omega) ?_) ⟨Or.inr rfl, Or.inr rfl, Or.inr rfl, Or.inr rfl, Or.inr rfl, Or.inr rfl, Or.inl rfl, Or.inl rfl, trivial⟩
            rw [bsI, if_pos (Or.inr ⟨h78, h84⟩)] at kk
            exact kk

set_option maxRecDepth 100000 in
set_option maxHeartbeats 4000000 in
theorem lo_X2_bestSet {E : TE} {G : GG} {p c : Nat} {post : Int32 → VV → Prop} (hC : Cx E G cX2_bestSet RX2 8 wsX2_bestSet 3 69) (hR : RtI E G cX2_bestSet post) (hp : isPr p) : ∀ (f a : Nat) (x y : Int32) (v : VV), a + f = c → PW v p c → post (boF p c f a x y v).1 (boF p c f a x y v).2 → Wv E G v 8 [some (.ref (G.1 p)), some (.int x), some (.int y), some (.int (nI a)), none, none, none, none] [] := by
  intro f
  induction f with
  | zero =>
    intro a x y v haf hW hpost
    have h12 := hW.2.1
    have i_X2 : ∀ w ∈ wsX20, w ∈ wsX2_bestSet := by decide +kernel
    have l_18 : lnk E RX2 18 (TX2 1) := hC.fl (by decide +kernel)
    refine r_iload_n hC (q := 9) dX2_bestSet_8 rfl rfl ?_
    refine r_aload_n hC (q := 10) dX2_bestSet_9 rfl rfl ?_
    refine g_X2 hC 1 i_X2 l_18 (by decide) (q := 13) dX2_bestSet_10 hp rfl rfl ?_
    refine r_top (y := nI c) hW.1 ?_
    refine r_icmp_geN hC (q := 16) (t := 105) dX2_bestSet_13 rfl rfl (by omega) (by omega) (by decide) rfl (fun h13 => ?_) (fun h13 => ?_)
    · skip
      refine r_iload_n hC (q := 106) dX2_bestSet_105 rfl rfl ?_
      exact hR _ _ _ _ dX2_bestSet_106 hpost
    · skip
      omega
  | succ f ih =>
    intro a x y v haf hW hpost
    have h12 := hW.2.1
    have hW2 : PW (cwF p a (c - (a + 1)) (a + 1) v) p c := PW.cw hp a _ _ v hW
    have i_X2 : ∀ w ∈ wsX20, w ∈ wsX2_bestSet := by decide +kernel
    have l_18 : lnk E RX2 18 (TX2 1) := hC.fl (by decide +kernel)
    refine r_iload_n hC (q := 9) dX2_bestSet_8 rfl rfl ?_
    refine r_aload_n hC (q := 10) dX2_bestSet_9 rfl rfl ?_
    refine g_X2 hC 1 i_X2 l_18 (by decide) (q := 13) dX2_bestSet_10 hp rfl rfl ?_
    refine r_top (y := nI c) hW.1 ?_
    refine r_icmp_geN hC (q := 16) (t := 105) dX2_bestSet_13 rfl rfl (by omega) (by omega) (by decide) rfl (fun h13 => ?_) (fun h13 => ?_)
    · skip
      omega
    · skip
      refine r_aload_n hC (q := 17) dX2_bestSet_16 rfl rfl ?_
      refine r_iload_n hC (q := 18) dX2_bestSet_17 rfl rfl ?_
      refine r_cVV hC (q := 21) (n := 1) (As := [_]) (fun lch => c_X2_compareWithLater lch hp hW (by omega)) gX2_bestSet_X2_compareWithLater rfl (by decide +kernel) ⟨by decide, by decide⟩ (ob_p hp) rfl rfl rfl rfl (Nat.le_of_ble_eq_true rfl) dX2_bestSet_18 rfl ?_
      rintro _ rfl
      refine r_aload_n hC (q := 22) dX2_bestSet_21 rfl rfl ?_
      refine r_iload_n hC (q := 23) dX2_bestSet_22 rfl rfl ?_
      refine r_cVI hC (q := 26) (n := 1) (As := [_]) (fun lch => c_X2_terminatorCost lch hp (b := a) (by omega)) gX2_bestSet_X2_terminatorCost rfl (by decide +kernel) ⟨by decide, by decide⟩ (ob_p hp) rfl rfl rfl rfl (Nat.le_of_ble_eq_true rfl) dX2_bestSet_23 rfl ?_
      rintro _ _ ⟨rfl, rfl⟩
      refine r_istore hC (q := 28) (L' := [_, _, _, _, _, _, _, _]) dX2_bestSet_26 (Nat.le_of_ble_eq_true rfl) rfl rfl ?_
      refine r_iconst hC (x := 0) (q := 29) dX2_bestSet_28 (by decide) rfl ?_
      refine r_istore hC (q := 31) (L' := [_, _, _, _, _, _, _, _]) dX2_bestSet_29 (Nat.le_of_ble_eq_true rfl) rfl rfl ?_
      refine r_weak (lp_X2_bestSet hC hp hW2 (by omega) (nb (cwF p a (c - (a + 1)) (a + 1) v) p a + 1) 0 _ _ (by omega) ?_) ⟨Or.inr rfl, Or.inr rfl, Or.inr rfl, Or.inr rfl, Or.inr rfl, Or.inr rfl, Or.inl rfl, Or.inl rfl, trivial⟩
      refine r_iincN hC (q := 102) (L' := [_, _, _, _, _, _, _, _]) (c := 1) dX2_bestSet_99 rfl rfl rfl rfl rfl ?_
      refine r_goto hC (t := 8) dX2_bestSet_102 (by decide) ?_
      exact ih (a + 1) _ _ _ (by omega) hW2 hpost

set_option maxRecDepth 100000 in
set_option maxHeartbeats 4000000 in
theorem b_X2_bestSet {E : TE} {G : GG} {v : VV} {p : Nat} {c : Nat} (hC : Cx E G cX2_bestSet RX2 8 wsX2_bestSet 3 69) (hR : RtI E G cX2_bestSet (fun r v' => r = (boF p c c 0 (-1008) 0 v).1 ∧ v' = (boF p c c 0 (-1008) 0 v).2)) (hp : isPr p) (hW : PW v p c) : Wv E G v 0 [some (.ref (G.1 p)), none, none, none, none, none, none, none] [] := by
  refine r_sipush hC (x := (-1008)) (q := 3) dX2_bestSet_0 (by decide) rfl ?_
  refine r_istore_n hC (q := 4) (L' := [_, _, _, _, _, _, _, _]) dX2_bestSet_3 (Nat.le_of_ble_eq_true rfl) rfl rfl ?_
  refine r_iconst hC (x := 0) (q := 5) dX2_bestSet_4 (by decide) rfl ?_
  refine r_istore_n hC (q := 6) (L' := [_, _, _, _, _, _, _, _]) dX2_bestSet_5 (Nat.le_of_ble_eq_true rfl) rfl rfl ?_
  refine r_iconst hC (x := 0) (q := 7) dX2_bestSet_6 (by decide) rfl ?_
  refine r_istore_n hC (q := 8) (L' := [_, _, _, _, _, _, _, _]) dX2_bestSet_7 (Nat.le_of_ble_eq_true rfl) rfl rfl ?_
  exact lo_X2_bestSet hC hR hp c 0 (-1008) 0 v (by omega) hW ⟨rfl, rfl⟩
theorem c_X2_bestSet (l : Launch) {G : GG} {v : VV} {p : Nat} {c : Nat} (hp : isPr p) (hW : PW v p c) : MtI l G yX2_bestSet wsX2_bestSet 3 69 [.ref (G.1 p)] v (fun r v' => r = (boF p c c 0 (-1008) 0 v).1 ∧ v' = (boF p c c 0 (-1008) 0 v).2) := mt_int (Or.inl rfl) (by decide) rfl (by simp [Value.category]) (Nat.le_of_ble_eq_true rfl) rfl rfl (fun E hC hR => b_X2_bestSet hC hR hp hW)
