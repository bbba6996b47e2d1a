/-! the constructor of Program -/
abbrev qE (cA : ClassId) (n : Nat) (f : Nat → Option Nat) : va_E := .inl (cA, n, .inr (.inr (.inr (.inr f))))
def fA (st p : Nat) (U : Nat → Nat) (b : Nat) : Nat → Option Nat := fun i => if i < b then some (U (p + st * i)) else none
theorem fA_0 {st p : Nat} {U : Nat → Nat} : fA st p U 0 = fun _ => none := by
  funext i
  unfold fA
  rw [if_neg (by omega)]
theorem fA_up {st p a b : Nat} {U U' : Nat → Nat} (h : ∀ i, i < b → U' (p + st * i) = U (p + st * i)) (ha : U' (p + st * b) = a) (hb : b < 2 ^ 31) : va_up (fA st p U b) (nI b).toNatClampNeg (some a) = fA st p U' (b + 1) := by
  funext i
  rw [nI_clamp hb]
  unfold va_up fA
  by_cases e : i = b
  · rw [if_pos e, if_pos (by omega), e, ha]
  · rw [if_neg e]
    by_cases l : i < b
    · rw [if_pos l, if_pos (by omega), h i l]
    · rw [if_neg l, if_neg (by omega)]
theorem fA_cg {st p b : Nat} {U U' : Nat → Nat} (h : ∀ i, i < b → U' (p + st * i) = U (p + st * i)) : fA st p U b = fA st p U' b := by
  funext i
  unfold fA
  by_cases l : i < b
  · rw [if_pos l, if_pos l, h i l]
  · rw [if_neg l, if_neg l]
theorem eB_cg {cs : CS} {p i : Nat} {U U' : Nat → Nat} (h : ∀ k, p ≤ k → k ≤ p + 6 → U' k = U k) : eB cs p U i = eB cs p U' i := by
  unfold eB
  rw [h (p + 1) (by omega) (by omega), h (p + 2) (by omega) (by omega), h (p + 3) (by omega) (by omega), h (p + 4) (by omega) (by omega), h (p + 5) (by omega) (by omega), h (p + 6) (by omega) (by omega)]
def eP (cs : CS) (p : Nat) (U : Nat → Nat) (o : Nat) : va_E :=
  if o = 0 then .inr (2, [.ref (U (p + 1)), .int 0, .int 1, .ref (U (p + 86)), .ref (U (p + 87))])
  else if o = 1 then qE cs.2.2.1 12 (fA 7 (p + 2) U 12)
  else if o = 86 then .inl (cs.1, 8, .inl z0)
  else if o = 87 then .inl (cs.1, 12, .inl z0)
  else eB cs (p + 2 + 7 * ((o - 2) / 7)) U ((o - 2) % 7)
def lI (cs : CS) (n0 : Nat) (U0 : Nat → Nat) (ent0 : Nat → va_E) (b : Nat) (U : Nat → Nat) (ent : Nat → va_E) : Prop := (∀ k, k ≤ n0 → U k = U0 k) ∧ (∀ k, k < n0 → ent k = ent0 k) ∧ ent n0 = .inr (2, [.ref (U (n0 + 1)), .int 0, .int 0, .null, .null]) ∧ ent (n0 + 1) = qE cs.2.2.1 12 (fA 7 (n0 + 2) U b) ∧ ∀ b' i, b' < b → i < 7 → ent (n0 + 2 + 7 * b' + i) = eB cs (n0 + 2 + 7 * b') U i

set_option maxRecDepth 100000 in
set_option maxHeartbeats 4000000 in
theorem lp_X2_init {E : TE} {D : va_G} {A : Nat → Prop} {cs : CS} {n0 a : Nat} {U0 : Nat → Nat} {ent0 : Nat → va_E} (hC : Cg E D A cs cX2_init RX2 2 wsX2_init 2 40 87 764) (hI : Ini E) (hU : U0 n0 = a) (hR : RtG E D A cX2_init 87 764 (pO 88 (eP cs n0) n0 U0 ent0)) : ∀ (f b : Nat) (U : Nat → Nat) (ent : Nat → va_E), b + f = 12 → lI cs n0 U0 ent0 b U ent → Wg E D A (n0 + 2 + 7 * b) U ent (1 + 7 * b) (12 + 61 * b) 15 [some (.ref a), some (.int (nI b))] [] := by
  have i_X2 : ∀ w ∈ wsX20, w ∈ wsX2_init := by decide +kernel
  have i_X0 : ∀ w ∈ wsX00, w ∈ wsX2_init := by decide +kernel
  intro f
  induction f with
  | zero =>
    intro b U ent hb hI2
    obtain ⟨h1, h2, h3, h4, h5⟩ := hI2
    have hb12 : b = 12 := by omega
    subst hb12
    have hUa : U n0 = a := by rw [h1 n0 (Nat.le_refl _), hU]
    refine w_iload_n hC (q := 16) dX2_init_15 rfl rfl ?_
    refine w_bipush hC (x := 12) (q := 18) dX2_init_16 (by decide) rfl ?_
    refine w_icmp_ge hC (q := 21) (t := 40) dX2_init_18 (by decide) rfl (fun _ => ?_) (fun h => absurd (Int32.le_refl _) h)
    refine w_aload_n hC (q := 41) dX2_init_40 rfl rfl ?_
    refine w_iconst hC (x := 0) (q := 42) dX2_init_41 (by decide) rfl ?_
    refine w_put hC (q := 45) (k := n0) (ci := 2) (fs := [.ref (U (n0 + 1)), .int 0, .int 0, .null, .null]) 1 tyX2 (by omega) (by (try simp only [va_up]); (repeat first | rw [if_neg (by omega)] | rw [if_pos (by omega)] | rw [if_pos trivial]) <;> first | exact hUa | rfl) (by (try simp only [va_up]); (repeat first | rw [if_neg (by omega)] | rw [if_pos (by omega)] | rw [if_pos trivial]) <;> first | exact h3 | rfl) rfl (by decide) i_X2 tyX2_ok nmX2 (by decide +kernel) rfl (by decide +kernel) (Nat.le_of_ble_eq_true rfl) dX2_init_42 rfl ?_
    refine w_aload_n hC (q := 46) dX2_init_45 rfl rfl ?_
    refine w_iconst hC (x := 1) (q := 47) dX2_init_46 (by decide) rfl ?_
    refine w_put hC (q := 50) (k := n0) (ci := 2) (fs := [.ref (U (n0 + 1)), .int 0, .int 0, .null, .null]) 2 tyX2 (by omega) (by (try simp only [va_up]); (repeat first | rw [if_neg (by omega)] | rw [if_pos (by omega)] | rw [if_pos trivial]) <;> first | exact hUa | rfl) (by (try simp only [va_up]); (repeat first | rw [if_neg (by omega)] | rw [if_pos (by omega)] | rw [if_pos trivial]) <;> first | exact h3 | rfl) rfl (by decide) i_X2 tyX2_ok nmX2 (by decide +kernel) rfl (by decide +kernel) (Nat.le_of_ble_eq_true rfl) dX2_init_47 rfl ?_
    refine w_aload_n hC (q := 51) dX2_init_50 rfl rfl ?_
    refine w_bipush hC (x := 8) (q := 53) dX2_init_51 (by decide) rfl ?_
    refine w_newa hC (q := 55) (ty := .int) (a0 := (8, .inl z0)) (N := 8) 0 (by decide +kernel) rfl rfl (fun _ _ h => h) (fun cA => vp_cell_i cA 8 z0) (by decide) (by decide) (by decide) (by omega) (by omega) dX2_init_53 rfl (fun a1 => ?_)
    refine w_putF hC hI (q := 58) (k := n0) (ci := 2) (fs := [.ref (U (n0 + 1)), .int 0, .int 1, .null, .null]) (ty := tyX2 3) 3 tyX2 (by omega) (by (try simp only [va_up]); (repeat first | rw [if_neg (by omega)] | rw [if_pos (by omega)] | rw [if_pos trivial]) <;> first | exact hUa | rfl) (by (try simp only [va_up]); (repeat first | rw [if_neg (by omega)] | rw [if_pos (by omega)] | rw [if_pos trivial]) <;> first | exact h3 | rfl) rfl (by decide) i_X2 tyX2_ok nmX2 (by decide +kernel) rfl rfl (by decide +kernel) rfl rfl (Nat.le_of_ble_eq_true rfl) dX2_init_55 rfl ?_
    refine w_aload_n hC (q := 59) dX2_init_58 rfl rfl ?_
    refine w_bipush hC (x := 12) (q := 61) dX2_init_59 (by decide) rfl ?_
    refine w_newa hC (q := 63) (ty := .int) (a0 := (12, .inl z0)) (N := 12) 0 (by decide +kernel) rfl rfl (fun _ _ h => h) (fun cA => vp_cell_i cA 12 z0) (by decide) (by decide) (by decide) (by omega) (by omega) dX2_init_61 rfl (fun a2 => ?_)
    refine w_putF hC hI (q := 66) (k := n0) (ci := 2) (fs := [.ref (U (n0 + 1)), .int 0, .int 1, .ref a1, .null]) (ty := tyX2 4) 4 tyX2 (by omega) (by (try simp only [va_up]); (repeat first | rw [if_neg (by omega)] | rw [if_pos (by omega)] | rw [if_pos trivial]) <;> first | exact hUa | rfl) (by (try simp only [va_up]); (repeat first | rw [if_neg (by omega)] | rw [if_pos (by omega)] | rw [if_pos trivial]) <;> first | exact h3 | rfl) rfl (by decide) i_X2 tyX2_ok nmX2 (by decide +kernel) rfl rfl (by decide +kernel) rfl rfl (Nat.le_of_ble_eq_true rfl) dX2_init_63 rfl ?_
    refine hR _ _ _ _ _ dX2_init_66 ⟨rfl, fun k hk => ?_, fun k hk => ?_, fun i hi => ?_⟩
    · show va_up _ _ _ _ = _; rw [← h1 k hk]; (try simp only [va_up]); (repeat first | rw [if_neg (by omega)] | rw [if_pos (by omega)] | rw [if_pos trivial]) <;> first | exact rfl | rfl
    · show va_up _ _ _ _ = _; rw [← h2 k hk]; (try simp only [va_up]); (repeat first | rw [if_neg (by omega)] | rw [if_pos (by omega)] | rw [if_pos trivial]) <;> first | exact rfl | rfl
    · show va_up _ _ _ _ = _
      unfold eP
      by_cases i0 : i = 0
      · subst i0; (try simp only [va_up]); (repeat first | rw [if_neg (by omega)] | rw [if_pos (by omega)] | rw [if_pos trivial]) <;> first | exact rfl | rfl
      by_cases i1 : i = 1
      · subst i1
        rw [if_neg (by omega), if_pos rfl, fA_cg (U := va_up (va_up U (n0 + 2 + 7 * 12) a1) (n0 + 2 + 7 * 12 + 1) a2) (U' := U) (fun i hi => by (try simp only [va_up]); (repeat first | rw [if_neg (by omega)] | rw [if_pos (by omega)] | rw [if_pos trivial]) <;> first | exact rfl | rfl)]
        (try simp only [va_up]); (repeat first | rw [if_neg (by omega)] | rw [if_pos (by omega)] | rw [if_pos trivial]) <;> first | exact h4 | rfl
      by_cases i86 : i = 86
      · subst i86; (try simp only [va_up]); (repeat first | rw [if_neg (by omega)] | rw [if_pos (by omega)] | rw [if_pos trivial]) <;> first | exact rfl | rfl
      by_cases i87 : i = 87
      · subst i87; (try simp only [va_up]); (repeat first | rw [if_neg (by omega)] | rw [if_pos (by omega)] | rw [if_pos trivial]) <;> first | exact rfl | rfl
      rw [if_neg i0, if_neg i1, if_neg i86, if_neg i87, ← eB_cg (U := U) (fun k k1 k2 => by (try simp only [va_up]); (repeat first | rw [if_neg (by omega)] | rw [if_pos (by omega)] | rw [if_pos trivial]) <;> first | exact rfl | rfl), ← h5 ((i - 2) / 7) ((i - 2) % 7) (by omega) (by omega), show n0 + 2 + 7 * ((i - 2) / 7) + (i - 2) % 7 = n0 + i by omega]
      (try simp only [va_up]); (repeat first | rw [if_neg (by omega)] | rw [if_pos (by omega)] | rw [if_pos trivial]) <;> first | exact rfl | rfl
  | succ f ih =>
    intro b U ent hb hI2
    obtain ⟨h1, h2, h3, h4, h5⟩ := hI2
    have hUa : U n0 = a := by rw [h1 n0 (Nat.le_refl _), hU]
    refine w_iload_n hC (q := 16) dX2_init_15 rfl rfl ?_
    refine w_bipush hC (x := 12) (q := 18) dX2_init_16 (by decide) rfl ?_
    refine w_icmp_ge hC (q := 21) (t := 40) dX2_init_18 (by decide) rfl (fun h => absurd ((nI_leI (a := 12) (b := b) (by omega) (by omega)).mp h) (by omega)) (fun _ => ?_)
    refine w_aload_n hC (q := 22) dX2_init_21 rfl rfl ?_
    refine w_get hC (q := 25) (k := n0) (ci := 2) (fs := [.ref (U (n0 + 1)), .int 0, .int 0, .null, .null]) 0 (by omega) hUa h3 rfl (by decide) i_X2 (by decide +kernel) rfl dX2_init_22 rfl ?_
    refine w_iload_n hC (q := 26) dX2_init_25 rfl rfl ?_
    refine w_new hC (q := 29) (ci := 0) (fs := [.null, .null, .null, .null, .null, .int 0, .int 0, .null]) tyX0 rfl i_X0 tyX0_ok (by decide +kernel) (by decide +kernel) (by decide +kernel) (fun j hj => by rcases (show j = 0 ∨ j = 1 ∨ j = 2 ∨ j = 3 ∨ j = 4 ∨ j = 5 ∨ j = 6 ∨ j = 7 by omega) with rfl | rfl | rfl | rfl | rfl | rfl | rfl | rfl <;> rfl) (by omega) (by omega) dX2_init_26 rfl (fun a3 => ?_)
    refine w_dup hC (q := 30) rfl dX2_init_29 rfl ?_
    refine w_cN hC (q := 33) (fun l => c_X0_init l (n0 := n0 + 2 + 7 * b) (va_up_self _ _ _) (va_up_self _ _ _)) ggX2_init_X0_init rfl 1 rfl (by decide +kernel) (by decide +kernel) rfl (by decide +kernel) ⟨by decide, by decide⟩ (by omega) (by omega) rfl (Nat.le_of_ble_eq_true rfl) dX2_init_30 rfl ?_
    rintro ⟨n', U', ent'⟩ ⟨w1, w2, w3, w4⟩
    have e1 : n' = n0 + 2 + 7 * b + 7 := w1
    subst e1
    have e2 : ∀ k, k ≤ n0 + 2 + 7 * b → U' k = va_up U (n0 + 2 + 7 * b) a3 k := w2
    have e3 : ∀ k, k < n0 + 2 + 7 * b → ent' k = va_up ent (n0 + 2 + 7 * b) _ k := w3
    have e4 : ∀ i, i < 7 → ent' (n0 + 2 + 7 * b + i) = eB cs (n0 + 2 + 7 * b) U' i := w4
    have u1 : ∀ k, k < n0 + 2 + 7 * b → U' k = U k := fun k hk => by rw [e2 k (by omega), va_up_ne _ _ (by omega)]
    have u2 : U' (n0 + 2 + 7 * b) = a3 := by rw [e2 _ (Nat.le_refl _), va_up_self]
    have t1 : ∀ k, k < n0 + 2 + 7 * b → ent' k = ent k := fun k hk => by rw [e3 k hk, va_up_ne _ _ (by omega)]
    have q1 : ent' (n0 + 1) = qE cs.2.2.1 12 (fA 7 (n0 + 2) U b) := by rw [t1 _ (by omega)]; exact h4
    have q2 := e4 0 (by omega)
    refine w_aast hC (q := 34) (k := n0 + 1) (k2 := n0 + 2 + 7 * b) (ci := 0) 2 (by omega) (u1 _ (by omega)) u2 q1 rfl (by omega) q2 rfl (nI_vp (by omega) (by omega)) dX2_init_33 rfl ?_
    rw [fA_up (U' := U') (fun i hi => u1 _ (by omega)) u2 (by omega)]
    refine w_iinc hC (q := 37) (L' := [_, _]) (y := nI (b + 1)) dX2_init_34 rfl (nI_succ b).symm rfl rfl ?_
    refine w_goto hC (t := 15) dX2_init_37 (by decide) ?_
    have hnx := ih (b + 1) U' (va_up ent' (n0 + 1) (qE cs.2.2.1 12 (fA 7 (n0 + 2) U' (b + 1)))) (by omega) ⟨fun k hk => by rw [u1 k (by omega)]; exact h1 k hk, fun k hk => by rw [va_up_ne _ _ (by omega), t1 k (by omega)]; exact h2 k hk, by rw [va_up_ne _ _ (by omega), t1 _ (by omega), h3, u1 _ (by omega)], va_up_self _ _ _, fun b' i hb' hi => by
      rw [va_up_ne _ _ (by omega)]
      by_cases eb : b' = b
      · rw [eb]; exact e4 i hi
      · rw [t1 _ (by omega), h5 b' i (by omega) hi]
        exact eB_cg (fun k k1 k2 => u1 k (by omega))⟩
    have x1 : n0 + 2 + 7 * (b + 1) = n0 + 2 + 7 * b + 7 := by omega
    have x2 : 1 + 7 * (b + 1) = 1 + 7 * b + 1 + 6 := by omega
    have x3 : 12 + 61 * (b + 1) = 12 + 61 * b + 8 + 53 := by omega
    rw [x1, x2, x3] at hnx
    exact hnx

set_option maxRecDepth 100000 in
set_option maxHeartbeats 4000000 in
theorem c_X2_init (l : Launch) {D : va_G} {A : Nat → Prop} {cs : CS} {n0 a : Nat} {U : Nat → Nat} {ent : Nat → va_E} (hU : U n0 = a) (he : ent n0 = .inr (2, [.null, .int 0, .int 0, .null, .null])) : MtG l D A cs yX2_init wsX2_init 2 40 87 764 [.ref a] (n0 + 1) U ent (pO 88 (eP cs n0) n0 U ent) := by
  refine mt_g (own := RX2) (by decide) rfl rfl (by simp [Value.category]) (Nat.le_of_ble_eq_true rfl) rfl rfl (fun E hC hI hR => ?_)
  have i_X2 : ∀ w ∈ wsX20, w ∈ wsX2_init := by decide +kernel
  refine w_aload_n hC (q := 1) dX2_init_0 rfl rfl ?_
  refine w_obj hC (q := 4) (by decide +kernel) (by decide +kernel) (List.mem_of_getElem? (i := 3) rfl) rfl (by decide) (Nat.le_of_ble_eq_true rfl) dX2_init_1 rfl ?_
  refine w_aload_n hC (q := 5) dX2_init_4 rfl rfl ?_
  refine w_bipush hC (x := 12) (q := 7) dX2_init_5 (by decide) rfl ?_
  refine w_newq hC (q := 10) (C := RX0) (N := 12) 2 (by decide +kernel) (Or.inl rfl) rfl (by decide) (by decide) (by decide) (by omega) (by omega) dX2_init_7 rfl (fun a1 => ?_)
  refine w_putF hC hI (q := 13) (k := n0) (ci := 2) (fs := [.null, .int 0, .int 0, .null, .null]) (ty := tyX2 0) 0 tyX2 (by omega) (by (try simp only [va_up]); (repeat first | rw [if_neg (by omega)] | rw [if_pos (by omega)] | rw [if_pos trivial]) <;> first | exact hU | rfl) (by (try simp only [va_up]); (repeat first | rw [if_neg (by omega)] | rw [if_pos (by omega)] | rw [if_pos trivial]) <;> first | exact he | rfl) rfl (by decide) i_X2 tyX2_ok nmX2 (by decide +kernel) rfl rfl (by decide +kernel) rfl rfl (Nat.le_of_ble_eq_true rfl) dX2_init_10 rfl ?_
  refine w_iconst hC (x := 0) (q := 14) dX2_init_13 (by decide) rfl ?_
  refine w_istore_n hC (q := 15) (L' := [_, _]) dX2_init_14 (Nat.le_of_ble_eq_true rfl) rfl rfl ?_
  refine lp_X2_init hC hI hU hR 12 0 _ _ (by omega) ⟨fun k hk => by rw [va_up_ne _ _ (by omega)], fun k hk => by rw [va_up_ne _ _ (by omega), va_up_ne _ _ (by omega)], ?_, ?_, fun b' i hb' => by omega⟩
  · rw [va_up_self, va_up_self]; rfl
  · rw [va_up_ne _ _ (by omega), va_up_self, fA_0]
