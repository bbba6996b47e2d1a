/-! what each constructor leaves -/
abbrev z0 : Nat → Int32 := fun _ => 0
def pO (cnt : Nat) (F : (Nat → Nat) → Nat → va_E) (n0 : Nat) (U : Nat → Nat) (ent : Nat → va_E) (u : GW) : Prop := u.1 = n0 + cnt ∧ (∀ k, k ≤ n0 → u.2.1 k = U k) ∧ (∀ k, k < n0 → u.2.2 k = ent k) ∧ ∀ i, i < cnt → u.2.2 (n0 + i) = F u.2.1 i
def eB (cs : CS) (p : Nat) (U : Nat → Nat) (i : Nat) : va_E :=
  if i = 0 then .inr (0, [.ref (U (p + 1)), .ref (U (p + 2)), .ref (U (p + 3)), .ref (U (p + 4)), .ref (U (p + 5)), .int 0, .int 2, .ref (U (p + 6))])
  else if i = 6 then .inl (cs.1, 3, .inl z0) else .inl (cs.1, 10, .inl z0)
def eM (cs : CS) (p : Nat) (U : Nat → Nat) (i : Nat) : va_E :=
  if i = 0 then .inr (1, [.ref (U (p + 1)), .ref (U (p + 2)), .int 0])
  else if i = 1 then .inl (cs.1, 8, .inl z0) else .inl (cs.1, 1000, .inl z0)
def eR (cs : CS) (p : Nat) (U : Nat → Nat) (i : Nat) : va_E :=
  if i = 0 then .inr (4, [.ref (U (p + 1)), .ref (U (p + 2)), .ref (U (p + 3)), .int 0, .ref (U (p + 4)), .ref (U (p + 5)), .int 0])
  else if i = 1 then .inl (cs.1, 670, .inl (upd z0 1 1)) else if i = 2 then .inl (cs.1, 1340, .inl z0) else if i = 3 then .inl (cs.2.1, 2, .inl z0) else if i = 4 then .inl (cs.1, 8, .inl z0) else .inl (cs.1, 1000, .inl z0)

set_option maxRecDepth 100000 in
set_option maxHeartbeats 4000000 in
theorem c_X0_init (l : Launch) {D : va_G} {A : Nat → Prop} {cs : CS} {n0 a : Nat} {U : Nat → Nat} {ent : Nat → va_E} (hU : U n0 = a) (he : ent n0 = .inr (0, [.null, .null, .null, .null, .null, .int 0, .int 0, .null])) : MtG l D A cs yX0_init wsX0_init 1 20 6 53 [.ref a] (n0 + 1) U ent (pO 7 (eB cs n0) n0 U ent) := by
  refine mt_g (by decide) rfl rfl (by simp [Value.category]) (Nat.le_of_ble_eq_true rfl) rfl rfl (fun E hC hI hR => ?_)
  have i_X0 : ∀ w ∈ wsX00, w ∈ wsX0_init := by decide +kernel
  refine w_aload_n hC (q := 1) dX0_init_0 rfl rfl ?_
  refine w_obj hC (q := 4) (by decide +kernel) (by decide +kernel) (List.mem_of_getElem? (i := 3) rfl) rfl (by decide) (Nat.le_of_ble_eq_true rfl) dX0_init_1 rfl ?_
  refine w_aload_n hC (q := 5) dX0_init_4 rfl rfl ?_
  refine w_bipush hC (x := 10) (q := 7) dX0_init_5 (by decide) rfl ?_
  refine w_newa hC (q := 9) (ty := .int) (a0 := (10, .inl z0)) (N := 10) 0 (by decide +kernel) rfl rfl (fun _ _ h => h) (fun cA => vp_cell_i cA 10 z0) (by decide) (by decide) (by decide) (by omega) (by omega) dX0_init_7 rfl (fun a1 => ?_)
  refine w_putF hC hI (q := 12) (k := n0) (ci := 0) (fs := [.null, .null, .null, .null, .null, .int 0, .int 0, .null]) (ty := tyX0 0) 0 tyX0 (by omega) (by (try simp only [va_up]); (repeat first | rw [if_neg (by omega)] | rw [if_pos (by omega)] | rw [if_pos trivial]) <;> first | exact hU | rfl) (by (try simp only [va_up]); (repeat first | rw [if_neg (by omega)] | rw [if_pos (by omega)] | rw [if_pos trivial]) <;> first | exact he | rfl) rfl (by decide) i_X0 tyX0_ok nmX0 (by decide +kernel) rfl rfl (by decide +kernel) rfl rfl (Nat.le_of_ble_eq_true rfl) dX0_init_9 rfl ?_
  refine w_aload_n hC (q := 13) dX0_init_12 rfl rfl ?_
  refine w_bipush hC (x := 10) (q := 15) dX0_init_13 (by decide) rfl ?_
  refine w_newa hC (q := 17) (ty := .int) (a0 := (10, .inl z0)) (N := 10) 0 (by decide +kernel) rfl rfl (fun _ _ h => h) (fun cA => vp_cell_i cA 10 z0) (by decide) (by decide) (by decide) (by omega) (by omega) dX0_init_15 rfl (fun a2 => ?_)
  refine w_putF hC hI (q := 20) (k := n0) (ci := 0) (fs := [.ref a1, .null, .null, .null, .null, .int 0, .int 0, .null]) (ty := tyX0 1) 1 tyX0 (by omega) (by (try simp only [va_up]); (repeat first | rw [if_neg (by omega)] | rw [if_pos (by omega)] | rw [if_pos trivial]) <;> first | exact hU | rfl) (by (try simp only [va_up]); (repeat first | rw [if_neg (by omega)] | rw [if_pos (by omega)] | rw [if_pos trivial]) <;> first | exact he | rfl) rfl (by decide) i_X0 tyX0_ok nmX0 (by decide +kernel) rfl rfl (by decide +kernel) rfl rfl (Nat.le_of_ble_eq_true rfl) dX0_init_17 rfl ?_
  refine w_aload_n hC (q := 21) dX0_init_20 rfl rfl ?_
  refine w_bipush hC (x := 10) (q := 23) dX0_init_21 (by decide) rfl ?_
  refine w_newa hC (q := 25) (ty := .int) (a0 := (10, .inl z0)) (N := 10) 0 (by decide +kernel) rfl rfl (fun _ _ h => h) (fun cA => vp_cell_i cA 10 z0) (by decide) (by decide) (by decide) (by omega) (by omega) dX0_init_23 rfl (fun a3 => ?_)
  refine w_putF hC hI (q := 28) (k := n0) (ci := 0) (fs := [.ref a1, .ref a2, .null, .null, .null, .int 0, .int 0, .null]) (ty := tyX0 2) 2 tyX0 (by omega) (by (try simp only [va_up]); (repeat first | rw [if_neg (by omega)] | rw [if_pos (by omega)] | rw [if_pos trivial]) <;> first | exact hU | rfl) (by (try simp only [va_up]); (repeat first | rw [if_neg (by omega)] | rw [if_pos (by omega)] | rw [if_pos trivial]) <;> first | exact he | rfl) rfl (by decide) i_X0 tyX0_ok nmX0 (by decide +kernel) rfl rfl (by decide +kernel) rfl rfl (Nat.le_of_ble_eq_true rfl) dX0_init_25 rfl ?_
  refine w_aload_n hC (q := 29) dX0_init_28 rfl rfl ?_
  refine w_bipush hC (x := 10) (q := 31) dX0_init_29 (by decide) rfl ?_
  refine w_newa hC (q := 33) (ty := .int) (a0 := (10, .inl z0)) (N := 10) 0 (by decide +kernel) rfl rfl (fun _ _ h => h) (fun cA => vp_cell_i cA 10 z0) (by decide) (by decide) (by decide) (by omega) (by omega) dX0_init_31 rfl (fun a4 => ?_)
  refine w_putF hC hI (q := 36) (k := n0) (ci := 0) (fs := [.ref a1, .ref a2, .ref a3, .null, .null, .int 0, .int 0, .null]) (ty := tyX0 3) 3 tyX0 (by omega) (by (try simp only [va_up]); (repeat first | rw [if_neg (by omega)] | rw [if_pos (by omega)] | rw [if_pos trivial]) <;> first | exact hU | rfl) (by (try simp only [va_up]); (repeat first | rw [if_neg (by omega)] | rw [if_pos (by omega)] | rw [if_pos trivial]) <;> first | exact he | rfl) rfl (by decide) i_X0 tyX0_ok nmX0 (by decide +kernel) rfl rfl (by decide +kernel) rfl rfl (Nat.le_of_ble_eq_true rfl) dX0_init_33 rfl ?_
  refine w_aload_n hC (q := 37) dX0_init_36 rfl rfl ?_
  refine w_bipush hC (x := 10) (q := 39) dX0_init_37 (by decide) rfl ?_
  refine w_newa hC (q := 41) (ty := .int) (a0 := (10, .inl z0)) (N := 10) 0 (by decide +kernel) rfl rfl (fun _ _ h => h) (fun cA => vp_cell_i cA 10 z0) (by decide) (by decide) (by decide) (by omega) (by omega) dX0_init_39 rfl (fun a5 => ?_)
  refine w_putF hC hI (q := 44) (k := n0) (ci := 0) (fs := [.ref a1, .ref a2, .ref a3, .ref a4, .null, .int 0, .int 0, .null]) (ty := tyX0 4) 4 tyX0 (by omega) (by (try simp only [va_up]); (repeat first | rw [if_neg (by omega)] | rw [if_pos (by omega)] | rw [if_pos trivial]) <;> first | exact hU | rfl) (by (try simp only [va_up]); (repeat first | rw [if_neg (by omega)] | rw [if_pos (by omega)] | rw [if_pos trivial]) <;> first | exact he | rfl) rfl (by decide) i_X0 tyX0_ok nmX0 (by decide +kernel) rfl rfl (by decide +kernel) rfl rfl (Nat.le_of_ble_eq_true rfl) dX0_init_41 rfl ?_
  refine w_aload_n hC (q := 45) dX0_init_44 rfl rfl ?_
  refine w_iconst hC (x := 0) (q := 46) dX0_init_45 (by decide) rfl ?_
  refine w_put hC (q := 49) (k := n0) (ci := 0) (fs := [.ref a1, .ref a2, .ref a3, .ref a4, .ref a5, .int 0, .int 0, .null]) 5 tyX0 (by omega) (by (try simp only [va_up]); (repeat first | rw [if_neg (by omega)] | rw [if_pos (by omega)] | rw [if_pos trivial]) <;> first | exact hU | rfl) (by (try simp only [va_up]); (repeat first | rw [if_neg (by omega)] | rw [if_pos (by omega)] | rw [if_pos trivial]) <;> first | exact he | rfl) rfl (by decide) i_X0 tyX0_ok nmX0 (by decide +kernel) rfl (by decide +kernel) (Nat.le_of_ble_eq_true rfl) dX0_init_46 rfl ?_
  refine w_aload_n hC (q := 50) dX0_init_49 rfl rfl ?_
  refine w_iconst hC (x := 2) (q := 51) dX0_init_50 (by decide) rfl ?_
  refine w_put hC (q := 54) (k := n0) (ci := 0) (fs := [.ref a1, .ref a2, .ref a3, .ref a4, .ref a5, .int 0, .int 0, .null]) 6 tyX0 (by omega) (by (try simp only [va_up]); (repeat first | rw [if_neg (by omega)] | rw [if_pos (by omega)] | rw [if_pos trivial]) <;> first | exact hU | rfl) (by (try simp only [va_up]); (repeat first | rw [if_neg (by omega)] | rw [if_pos (by omega)] | rw [if_pos trivial]) <;> first | exact he | rfl) rfl (by decide) i_X0 tyX0_ok nmX0 (by decide +kernel) rfl (by decide +kernel) (Nat.le_of_ble_eq_true rfl) dX0_init_51 rfl ?_
  refine w_aload_n hC (q := 55) dX0_init_54 rfl rfl ?_
  refine w_iconst hC (x := 3) (q := 56) dX0_init_55 (by decide) rfl ?_
  refine w_newa hC (q := 58) (ty := .int) (a0 := (3, .inl z0)) (N := 3) 0 (by decide +kernel) rfl rfl (fun _ _ h => h) (fun cA => vp_cell_i cA 3 z0) (by decide) (by decide) (by decide) (by omega) (by omega) dX0_init_56 rfl (fun a6 => ?_)
  refine w_putF hC hI (q := 61) (k := n0) (ci := 0) (fs := [.ref a1, .ref a2, .ref a3, .ref a4, .ref a5, .int 0, .int 2, .null]) (ty := tyX0 7) 7 tyX0 (by omega) (by (try simp only [va_up]); (repeat first | rw [if_neg (by omega)] | rw [if_pos (by omega)] | rw [if_pos trivial]) <;> first | exact hU | rfl) (by (try simp only [va_up]); (repeat first | rw [if_neg (by omega)] | rw [if_pos (by omega)] | rw [if_pos trivial]) <;> first | exact he | rfl) rfl (by decide) i_X0 tyX0_ok nmX0 (by decide +kernel) rfl rfl (by decide +kernel) rfl rfl (Nat.le_of_ble_eq_true rfl) dX0_init_58 rfl ?_
  refine hR _ _ _ _ _ dX0_init_61 ⟨rfl, fun k hk => ?_, fun k hk => ?_, fun i hi => ?_⟩
  · show va_up _ _ _ _ = _; (try simp only [va_up]); (repeat first | rw [if_neg (by omega)] | rw [if_pos (by omega)] | rw [if_pos trivial]) <;> first | exact hU | rfl
  · show va_up _ _ _ _ = _; (try simp only [va_up]); (repeat first | rw [if_neg (by omega)] | rw [if_pos (by omega)] | rw [if_pos trivial]) <;> first | exact hU | rfl
  · rcases (show i = 0 ∨ i = 1 ∨ i = 2 ∨ i = 3 ∨ i = 4 ∨ i = 5 ∨ i = 6 by omega) with rfl | rfl | rfl | rfl | rfl | rfl | rfl <;> (show va_up _ _ _ _ = _; unfold eB; (try simp only [va_up]); (repeat first | rw [if_neg (by omega)] | rw [if_pos (by omega)] | rw [if_pos trivial]) <;> first | exact hU | rfl)

set_option maxRecDepth 100000 in
set_option maxHeartbeats 4000000 in
theorem c_X1_init (l : Launch) {D : va_G} {A : Nat → Prop} {cs : CS} {n0 a : Nat} {U : Nat → Nat} {ent : Nat → va_E} (hU : U n0 = a) (he : ent n0 = .inr (1, [.null, .null, .int 0])) : MtG l D A cs yX1_init wsX1_init 1 20 2 1008 [.ref a] (n0 + 1) U ent (pO 3 (eM cs n0) n0 U ent) := by
  refine mt_g (by decide) rfl rfl (by simp [Value.category]) (Nat.le_of_ble_eq_true rfl) rfl rfl (fun E hC hI hR => ?_)
  have i_X1 : ∀ w ∈ wsX10, w ∈ wsX1_init := by decide +kernel
  refine w_aload_n hC (q := 1) dX1_init_0 rfl rfl ?_
  refine w_obj hC (q := 4) (by decide +kernel) (by decide +kernel) (List.mem_of_getElem? (i := 3) rfl) rfl (by decide) (Nat.le_of_ble_eq_true rfl) dX1_init_1 rfl ?_
  refine w_aload_n hC (q := 5) dX1_init_4 rfl rfl ?_
  refine w_bipush hC (x := 8) (q := 7) dX1_init_5 (by decide) rfl ?_
  refine w_newa hC (q := 9) (ty := .int) (a0 := (8, .inl z0)) (N := 8) 0 (by decide +kernel) rfl rfl (fun _ _ h => h) (fun cA => vp_cell_i cA 8 z0) (by decide) (by decide) (by decide) (by omega) (by omega) dX1_init_7 rfl (fun a1 => ?_)
  refine w_putF hC hI (q := 12) (k := n0) (ci := 1) (fs := [.null, .null, .int 0]) (ty := tyX1 0) 0 tyX1 (by omega) (by (try simp only [va_up]); (repeat first | rw [if_neg (by omega)] | rw [if_pos (by omega)] | rw [if_pos trivial]) <;> first | exact hU | rfl) (by (try simp only [va_up]); (repeat first | rw [if_neg (by omega)] | rw [if_pos (by omega)] | rw [if_pos trivial]) <;> first | exact he | rfl) rfl (by decide) i_X1 tyX1_ok nmX1 (by decide +kernel) rfl rfl (by decide +kernel) rfl rfl (Nat.le_of_ble_eq_true rfl) dX1_init_9 rfl ?_
  refine w_aload_n hC (q := 13) dX1_init_12 rfl rfl ?_
  refine w_sipush hC (x := 1000) (q := 16) dX1_init_13 (by decide) rfl ?_
  refine w_newa hC (q := 18) (ty := .int) (a0 := (1000, .inl z0)) (N := 1000) 0 (by decide +kernel) rfl rfl (fun _ _ h => h) (fun cA => vp_cell_i cA 1000 z0) (by decide) (by decide) (by decide) (by omega) (by omega) dX1_init_16 rfl (fun a2 => ?_)
  refine w_putF hC hI (q := 21) (k := n0) (ci := 1) (fs := [.ref a1, .null, .int 0]) (ty := tyX1 1) 1 tyX1 (by omega) (by (try simp only [va_up]); (repeat first | rw [if_neg (by omega)] | rw [if_pos (by omega)] | rw [if_pos trivial]) <;> first | exact hU | rfl) (by (try simp only [va_up]); (repeat first | rw [if_neg (by omega)] | rw [if_pos (by omega)] | rw [if_pos trivial]) <;> first | exact he | rfl) rfl (by decide) i_X1 tyX1_ok nmX1 (by decide +kernel) rfl rfl (by decide +kernel) rfl rfl (Nat.le_of_ble_eq_true rfl) dX1_init_18 rfl ?_
  refine w_aload_n hC (q := 22) dX1_init_21 rfl rfl ?_
  refine w_iconst hC (x := 0) (q := 23) dX1_init_22 (by decide) rfl ?_
  refine w_put hC (q := 26) (k := n0) (ci := 1) (fs := [.ref a1, .ref a2, .int 0]) 2 tyX1 (by omega) (by (try simp only [va_up]); (repeat first | rw [if_neg (by omega)] | rw [if_pos (by omega)] | rw [if_pos trivial]) <;> first | exact hU | rfl) (by (try simp only [va_up]); (repeat first | rw [if_neg (by omega)] | rw [if_pos (by omega)] | rw [if_pos trivial]) <;> first | exact he | rfl) rfl (by decide) i_X1 tyX1_ok nmX1 (by decide +kernel) rfl (by decide +kernel) (Nat.le_of_ble_eq_true rfl) dX1_init_23 rfl ?_
  refine hR _ _ _ _ _ dX1_init_26 ⟨rfl, fun k hk => ?_, fun k hk => ?_, fun i hi => ?_⟩
  · show va_up _ _ _ _ = _; (try simp only [va_up]); (repeat first | rw [if_neg (by omega)] | rw [if_pos (by omega)] | rw [if_pos trivial]) <;> first | exact hU | rfl
  · show va_up _ _ _ _ = _; (try simp only [va_up]); (repeat first | rw [if_neg (by omega)] | rw [if_pos (by omega)] | rw [if_pos trivial]) <;> first | exact hU | rfl
  · rcases (show i = 0 ∨ i = 1 ∨ i = 2 by omega) with rfl | rfl | rfl <;> (show va_up _ _ _ _ = _; unfold eM; (try simp only [va_up]); (repeat first | rw [if_neg (by omega)] | rw [if_pos (by omega)] | rw [if_pos trivial]) <;> first | exact hU | rfl)
