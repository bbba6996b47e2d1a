/-! the constructor of TailMerger -/
theorem eP_cg {cs : CS} {p o : Nat} {U U' : Nat → Nat} (ho : o < 88) (h : ∀ k, p ≤ k → k ≤ p + 87 → U' k = U k) : eP cs p U o = eP cs p U' o := by
  unfold eP
  rw [h (p + 1) (by omega) (by omega), h (p + 86) (by omega) (by omega), h (p + 87) (by omega) (by omega), fA_cg (U := U) (U' := U') (fun i hi => h _ (by omega) (by omega))]
  by_cases i0 : o = 0
  · rw [if_pos i0, if_pos i0]
  rw [if_neg i0, if_neg i0]
  by_cases i1 : o = 1
  · rw [if_pos i1, if_pos i1]
  rw [if_neg i1, if_neg i1]
  by_cases i86 : o = 86
  · rw [if_pos i86, if_pos i86]
  rw [if_neg i86, if_neg i86]
  by_cases i87 : o = 87
  · rw [if_pos i87, if_pos i87]
  rw [if_neg i87, if_neg i87]
  exact eB_cg (fun k k1 k2 => h k (by omega) (by omega))
def lT (cs : CS) (a b : Nat) (U : Nat → Nat) (ent : Nat → va_E) : Prop := U 0 = a ∧ ent 0 = .inr (3, [.ref (U 1), .ref (U 89), .null, .null]) ∧ (∀ o, o < 88 → ent (1 + o) = eP cs 1 U o) ∧ ent 89 = qE cs.2.2.2 2 (fA 88 90 U b) ∧ ∀ b' o, b' < b → o < 88 → ent (90 + 88 * b' + o) = eP cs (90 + 88 * b') U o
def pT (cs : CS) (a : Nat) (u : GW) : Prop := u.1 = 270 ∧ u.2.1 0 = a ∧ u.2.2 0 = .inr (3, [.ref (u.2.1 1), .ref (u.2.1 89), .ref (u.2.1 266), .ref (u.2.1 267)]) ∧ (∀ o, o < 88 → u.2.2 (1 + o) = eP cs 1 u.2.1 o) ∧ u.2.2 89 = qE cs.2.2.2 2 (fA 88 90 u.2.1 2) ∧ (∀ b' o, b' < 2 → o < 88 → u.2.2 (90 + 88 * b' + o) = eP cs (90 + 88 * b') u.2.1 o) ∧ u.2.2 266 = .inl (cs.2.1, 2, .inl z0) ∧ ∀ i, i < 3 → u.2.2 (267 + i) = eM cs 267 u.2.1 i

set_option maxRecDepth 100000 in
set_option maxHeartbeats 4000000 in
theorem lp_X3_init {E : TE} {D : va_G} {A : Nat → Prop} {cs : CS} {a : Nat} (hC : Cg E D A cs cX3_init RX3 2 wsX3_init 3 61 269 3322) (hI : Ini E) (hR : RtG E D A cX3_init 269 3322 (pT cs a)) : ∀ (f b : Nat) (U : Nat → Nat) (ent : Nat → va_E), b + f = 2 → lT cs a b U ent → Wg E D A (90 + 88 * b) U ent (89 + 88 * b) (771 + 769 * b) 25 [some (.ref a), some (.int (nI b))] [] := by
  have i_X3 : ∀ w ∈ wsX30, w ∈ wsX3_init := by decide +kernel
  have i_X2 : ∀ w ∈ wsX20, w ∈ wsX3_init := by decide +kernel
  have i_X1 : ∀ w ∈ wsX10, w ∈ wsX3_init := by decide +kernel
  intro f
  induction f with
  | zero =>
    intro b U ent hb hI2
    obtain ⟨h1, h2, h3, h4, h5⟩ := hI2
    have hb2 : b = 2 := by omega
    subst hb2
    refine w_iload_n hC (q := 26) dX3_init_25 rfl rfl ?_
    refine w_iconst hC (x := 2) (q := 27) dX3_init_26 (by decide) rfl ?_
    refine w_icmp_ge hC (q := 30) (t := 49) dX3_init_27 (by decide) rfl (fun _ => ?_) (fun h => absurd (Int32.le_refl _) h)
    refine w_aload_n hC (q := 50) dX3_init_49 rfl rfl ?_
    refine w_iconst hC (x := 2) (q := 51) dX3_init_50 (by decide) rfl ?_
    refine w_newa hC (q := 53) (ty := .boolean) (a0 := (2, .inl z0)) (N := 2) 1 (by decide +kernel) rfl rfl (fun _ _ h => h) (fun cA => vp_cell_i cA 2 z0) (by decide) (by decide) (by decide) (by omega) (by omega) dX3_init_51 rfl (fun a1 => ?_)
    refine w_putF hC hI (q := 56) (k := 0) (ci := 3) (fs := [.ref (U 1), .ref (U 89), .null, .null]) (ty := tyX3 2) 2 tyX3 (by omega) (by (try simp only [va_up]); (repeat first | rw [if_neg (by omega)] | rw [if_pos (by omega)] | rw [if_pos trivial]) <;> first | exact h1 | rfl) (by (try simp only [va_up]); (repeat first | rw [if_neg (by omega)] | rw [if_pos (by omega)] | rw [if_pos trivial]) <;> first | exact h2 | rfl) rfl (by decide) i_X3 tyX3_ok nmX3 (by decide +kernel) rfl rfl (by decide +kernel) rfl rfl (Nat.le_of_ble_eq_true rfl) dX3_init_53 rfl ?_
    refine w_aload_n hC (q := 57) dX3_init_56 rfl rfl ?_
    refine w_new hC (q := 60) (ci := 1) (fs := [.null, .null, .int 0]) tyX1 rfl i_X1 tyX1_ok (by decide +kernel) (by decide +kernel) (by decide +kernel) (fun j hj => by rcases (show j = 0 ∨ j = 1 ∨ j = 2 by omega) with rfl | rfl | rfl <;> rfl) (by omega) (by omega) dX3_init_57 rfl (fun a2 => ?_)
    refine w_dup hC (q := 61) rfl dX3_init_60 rfl ?_
    refine w_cN hC (q := 64) (fun l => c_X1_init l (n0 := 90 + 88 * 2 + 1) (va_up_self _ _ _) (va_up_self _ _ _)) ggX3_init_X1_init rfl 2 rfl (by decide +kernel) (by decide +kernel) rfl (by decide +kernel) ⟨by decide, by decide⟩ (by omega) (by omega) rfl (Nat.le_of_ble_eq_true rfl) dX3_init_61 rfl ?_
    rintro ⟨n', U', ent'⟩ ⟨w1, w2, w3, w4⟩
    have e1 : n' = 270 := w1
    subst e1
    show Wg E D A 270 U' ent' _ _ _ _ _
    have u1 : ∀ k, k < 266 → U' k = U k := fun k hk => by
      have := w2 k (by omega)
      show U' k = U k
      rw [show U' k = _ from this, va_up_ne _ _ (by omega), va_up_ne _ _ (by omega)]
    have u2 : U' 266 = a1 := by
      have := w2 266 (by omega)
      rw [show U' 266 = _ from this, va_up_ne _ _ (by omega)]; exact va_up_self _ _ _
    have u3 : U' 267 = a2 := by
      have := w2 267 (by omega)
      rw [show U' 267 = _ from this]; exact va_up_self _ _ _
    have t0 : ent' 0 = .inr (3, [.ref (U 1), .ref (U 89), .ref a1, .null]) := by
      have := w3 0 (by omega)
      rw [show ent' 0 = _ from this, va_up_ne _ _ (by omega), va_up_self]; rfl
    have t1 : ∀ k, 0 < k → k < 266 → ent' k = ent k := fun k k1 k2 => by
      have := w3 k (by omega)
      rw [show ent' k = _ from this, va_up_ne _ _ (by omega), va_up_ne _ _ (by omega), va_up_ne _ _ (by omega)]
    have t2 : ent' 266 = .inl (cs.2.1, 2, .inl z0) := by
      have := w3 266 (by omega)
      rw [show ent' 266 = _ from this, va_up_ne _ _ (by omega), va_up_ne _ _ (by omega)]; exact va_up_self _ _ _
    have t3 : ∀ i, i < 3 → ent' (267 + i) = eM cs 267 U' i := w4
    refine w_putF hC hI (q := 67) (k := 0) (ci := 3) (fs := [.ref (U 1), .ref (U 89), .ref a1, .null]) (ty := tyX3 3) 3 tyX3 (by omega) (by rw [u1 0 (by omega)]; exact h1) t0 rfl (by decide) i_X3 tyX3_ok nmX3 (by decide +kernel) rfl rfl (by decide +kernel) rfl rfl (Nat.le_of_ble_eq_true rfl) dX3_init_64 rfl ?_
    refine hR _ _ _ _ _ dX3_init_67 ⟨rfl, by rw [← h1]; exact u1 0 (by omega), ?_, fun o ho => ?_, ?_, fun b' o hb' ho => ?_, ?_, fun i hi => ?_⟩
    · show va_up ent' 0 _ 0 = .inr (3, [.ref (U' 1), .ref (U' 89), .ref (U' 266), .ref (U' 267)])
      rw [va_up_self, u1 1 (by omega), u1 89 (by omega), u2, u3]; rfl
    · show va_up ent' 0 _ (1 + o) = eP cs 1 U' o
      rw [va_up_ne _ _ (by omega), t1 _ (by omega) (by omega), h3 o ho]
      exact eP_cg ho (fun k k1 k2 => u1 k (by omega))
    · have e89 : ent' 89 = qE cs.2.2.2 2 (fA 88 90 U' 2) := by rw [t1 _ (by omega) (by omega), h4, fA_cg (U := U) (U' := U') (fun i hi => u1 _ (by omega))]
      exact e89
    · show va_up ent' 0 _ (90 + 88 * b' + o) = eP cs (90 + 88 * b') U' o
      rw [va_up_ne _ _ (by omega), t1 _ (by omega) (by omega), h5 b' o hb' ho]
      exact eP_cg ho (fun k k1 k2 => u1 k (by omega))
    · exact t2
    · show va_up ent' 0 _ (267 + i) = eM cs 267 U' i
      rw [va_up_ne _ _ (by omega), t3 i hi]
  | succ f ih =>
    intro b U ent hb hI2
    obtain ⟨h1, h2, h3, h4, h5⟩ := hI2
    refine w_iload_n hC (q := 26) dX3_init_25 rfl rfl ?_
    refine w_iconst hC (x := 2) (q := 27) dX3_init_26 (by decide) rfl ?_
    refine w_icmp_ge hC (q := 30) (t := 49) dX3_init_27 (by decide) rfl (fun h => absurd ((nI_leI (a := 2) (b := b) (by omega) (by omega)).mp h) (by omega)) (fun _ => ?_)
    refine w_aload_n hC (q := 31) dX3_init_30 rfl rfl ?_
    refine w_get hC (q := 34) (k := 0) (ci := 3) (fs := [.ref (U 1), .ref (U 89), .null, .null]) 1 (by omega) h1 h2 rfl (by decide) i_X3 (by decide +kernel) rfl dX3_init_31 rfl ?_
    refine w_iload_n hC (q := 35) dX3_init_34 rfl rfl ?_
    refine w_new hC (q := 38) (ci := 2) (fs := [.null, .int 0, .int 0, .null, .null]) tyX2 rfl i_X2 tyX2_ok (by decide +kernel) (by decide +kernel) (by decide +kernel) (fun j hj => by rcases (show j = 0 ∨ j = 1 ∨ j = 2 ∨ j = 3 ∨ j = 4 by omega) with rfl | rfl | rfl | rfl | rfl <;> rfl) (by omega) (by omega) dX3_init_35 rfl (fun a3 => ?_)
    refine w_dup hC (q := 39) rfl dX3_init_38 rfl ?_
    refine w_cN hC (q := 42) (fun l => c_X2_init l (n0 := 90 + 88 * b) (va_up_self _ _ _) (va_up_self _ _ _)) ggX3_init_X2_init rfl 0 rfl (by decide +kernel) (by decide +kernel) rfl (by decide +kernel) ⟨by decide, by decide⟩ (by omega) (by omega) rfl (Nat.le_of_ble_eq_true rfl) dX3_init_39 rfl ?_
    rintro ⟨n', U', ent'⟩ ⟨w1, w2, w3, w4⟩
    have e1 : n' = 90 + 88 * b + 88 := w1
    subst e1
    have e2 : ∀ k, k ≤ 90 + 88 * b → U' k = va_up U (90 + 88 * b) a3 k := w2
    have e3 : ∀ k, k < 90 + 88 * b → ent' k = va_up ent (90 + 88 * b) _ k := w3
    have e4 : ∀ i, i < 88 → ent' (90 + 88 * b + i) = eP cs (90 + 88 * b) U' i := w4
    have u1 : ∀ k, k < 90 + 88 * b → U' k = U k := fun k hk => by rw [e2 k (by omega), va_up_ne _ _ (by omega)]
    have u2 : U' (90 + 88 * b) = a3 := by rw [e2 _ (Nat.le_refl _), va_up_self]
    have t1 : ∀ k, k < 90 + 88 * b → ent' k = ent k := fun k hk => by rw [e3 k hk, va_up_ne _ _ (by omega)]
    have q1 : ent' 89 = qE cs.2.2.2 2 (fA 88 90 U b) := by rw [t1 _ (by omega)]; exact h4
    have q2 := e4 0 (by omega)
    refine w_aast hC (q := 43) (k := 89) (k2 := 90 + 88 * b) (ci := 2) 3 (by omega) (u1 _ (by omega)) u2 q1 rfl (by omega) q2 rfl (nI_vp (by omega) (by omega)) dX3_init_42 rfl ?_
    rw [fA_up (U' := U') (fun i hi => u1 _ (by omega)) u2 (by omega)]
    refine w_iinc hC (q := 46) (L' := [_, _]) (y := nI (b + 1)) dX3_init_43 rfl (nI_succ b).symm rfl rfl ?_
    refine w_goto hC (t := 25) dX3_init_46 (by decide) ?_
    have hnx := ih (b + 1) U' (va_up ent' 89 (qE cs.2.2.2 2 (fA 88 90 U' (b + 1)))) (by omega) ⟨by rw [u1 0 (by omega)]; exact h1, by rw [va_up_ne _ _ (by omega), t1 _ (by omega), h2, u1 1 (by omega), u1 89 (by omega)], fun o ho => by
      rw [va_up_ne _ _ (by omega), t1 _ (by omega), h3 o ho]
      exact eP_cg ho (fun k k1 k2 => u1 k (by omega)), va_up_self _ _ _, fun b' o hb' ho => by
      rw [va_up_ne _ _ (by omega)]
      by_cases eb : b' = b
      · rw [eb]; exact e4 o ho
      · rw [t1 _ (by omega), h5 b' o (by omega) ho]
        exact eP_cg ho (fun k k1 k2 => u1 k (by omega))⟩
    have x1 : 90 + 88 * (b + 1) = 90 + 88 * b + 88 := by omega
    have x2 : 89 + 88 * (b + 1) = 89 + 88 * b + 1 + 87 := by omega
    have x3 : 771 + 769 * (b + 1) = 771 + 769 * b + 5 + 764 := by omega
    rw [x1, x2, x3] at hnx
    exact hnx

set_option maxRecDepth 100000 in
set_option maxHeartbeats 4000000 in
theorem c_X3_init (l : Launch) {D : va_G} {A : Nat → Prop} {cs : CS} {a : Nat} {U : Nat → Nat} {ent : Nat → va_E} (hU : U 0 = a) (he : ent 0 = .inr (3, [.null, .null, .null, .null])) : MtG l D A cs yX3_init wsX3_init 3 61 269 3322 [.ref a] 1 U ent (pT cs a) := by
  refine mt_g (own := RX3) (by decide) rfl rfl (by simp [Value.category]) (Nat.le_of_ble_eq_true rfl) rfl rfl (fun E hC hI hR => ?_)
  have i_X3 : ∀ w ∈ wsX30, w ∈ wsX3_init := by decide +kernel
  have i_X2 : ∀ w ∈ wsX20, w ∈ wsX3_init := by decide +kernel
  refine w_aload_n hC (q := 1) dX3_init_0 rfl rfl ?_
  refine w_obj hC (q := 4) (by decide +kernel) (by decide +kernel) (List.mem_of_getElem? (i := 3) rfl) rfl (by decide) (Nat.le_of_ble_eq_true rfl) dX3_init_1 rfl ?_
  refine w_aload_n hC (q := 5) dX3_init_4 rfl rfl ?_
  refine w_new hC (q := 8) (ci := 2) (fs := [.null, .int 0, .int 0, .null, .null]) tyX2 rfl i_X2 tyX2_ok (by decide +kernel) (by decide +kernel) (by decide +kernel) (fun j hj => by rcases (show j = 0 ∨ j = 1 ∨ j = 2 ∨ j = 3 ∨ j = 4 by omega) with rfl | rfl | rfl | rfl | rfl <;> rfl) (by omega) (by omega) dX3_init_5 rfl (fun a1 => ?_)
  refine w_dup hC (q := 9) rfl dX3_init_8 rfl ?_
  refine w_cN hC (q := 12) (fun l => c_X2_init l (n0 := 1) (va_up_self _ _ _) (va_up_self _ _ _)) ggX3_init_X2_init rfl 0 rfl (by decide +kernel) (by decide +kernel) rfl (by decide +kernel) ⟨by decide, by decide⟩ (by omega) (by omega) rfl (Nat.le_of_ble_eq_true rfl) dX3_init_9 rfl ?_
  rintro ⟨n', U', ent'⟩ ⟨w1, w2, w3, w4⟩
  have e1 : n' = 89 := w1
  subst e1
  show Wg E D A 89 U' ent' _ _ _ _ _
  have u0 : U' 0 = a := by
    have := w2 0 (by omega)
    rw [show U' 0 = _ from this, va_up_ne _ _ (by omega)]; exact hU
  have u1 : U' 1 = a1 := by
    have := w2 1 (by omega)
    rw [show U' 1 = _ from this]; exact va_up_self _ _ _
  have t0 : ent' 0 = .inr (3, [.null, .null, .null, .null]) := by
    have := w3 0 (by omega)
    rw [show ent' 0 = _ from this, va_up_ne _ _ (by omega)]; exact he
  have t1 : ∀ o, o < 88 → ent' (1 + o) = eP cs 1 U' o := w4
  refine w_putF hC hI (q := 15) (k := 0) (ci := 3) (fs := [.null, .null, .null, .null]) (ty := tyX3 0) 0 tyX3 (by omega) u0 t0 rfl (by decide) i_X3 tyX3_ok nmX3 (by decide +kernel) rfl rfl (by decide +kernel) rfl rfl (Nat.le_of_ble_eq_true rfl) dX3_init_12 rfl ?_
  refine w_aload_n hC (q := 16) dX3_init_15 rfl rfl ?_
  refine w_iconst hC (x := 2) (q := 17) dX3_init_16 (by decide) rfl ?_
  refine w_newq hC (q := 20) (C := RX2) (N := 2) 3 (by decide +kernel) (Or.inr rfl) rfl (by decide) (by decide) (by decide) (by omega) (by omega) dX3_init_17 rfl (fun a2 => ?_)
  refine w_putF hC hI (q := 23) (k := 0) (ci := 3) (fs := [.ref a1, .null, .null, .null]) (ty := tyX3 1) 1 tyX3 (by omega) (by rw [va_up_ne _ _ (by omega)]; exact u0) (by rw [va_up_ne _ _ (by omega)]; exact va_up_self _ _ _) rfl (by decide) i_X3 tyX3_ok nmX3 (by decide +kernel) rfl rfl (by decide +kernel) rfl rfl (Nat.le_of_ble_eq_true rfl) dX3_init_20 rfl ?_
  refine w_iconst hC (x := 0) (q := 24) dX3_init_23 (by decide) rfl ?_
  refine w_istore_n hC (q := 25) (L' := [_, _]) dX3_init_24 (Nat.le_of_ble_eq_true rfl) rfl rfl ?_
  refine lp_X3_init hC hI hR 2 0 _ _ (by omega) ⟨by rw [va_up_ne _ _ (by omega)]; exact u0, ?_, fun o ho => ?_, ?_, fun b' i hb' => by omega⟩
  · rw [va_up_self, va_up_ne _ _ (show (1 : Nat) ≠ 89 by omega), u1, va_up_self]; rfl
  · rw [va_up_ne _ _ (by omega), va_up_ne _ _ (by omega), va_up_ne _ _ (by omega), t1 o ho]
    exact eP_cg ho (fun k k1 k2 => va_up_ne _ _ (by omega))
  · rw [va_up_ne _ _ (by omega), va_up_self, fA_0]
