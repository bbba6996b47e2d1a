/-! the world that the constructors leave is the layout's -/
def bo (k : Nat) : Prop := (3 ≤ k ∧ k < 87 ∧ (k - 3) % 7 = 0) ∨ (92 ≤ k ∧ k < 176 ∧ (k - 92) % 7 = 0) ∨ (180 ≤ k ∧ k < 264 ∧ (k - 180) % 7 = 0)
def bod (k : Nat) : Decidable (bo k) := by unfold bo; exact inferInstance
def v0 : VV := fun k => if k = 271 then upd z0 1 1 else if k = 1 ∨ k = 90 ∨ k = 178 then upd z0 2 1 else if @decide (bo k) (bod k) = true then upd z0 6 2 else z0
theorem v0_271 : v0 271 = upd z0 1 1 := if_pos rfl
theorem v0_p {p : Nat} (h : isPr p) : v0 p = upd z0 2 1 := by
  unfold v0
  rcases h with rfl | rfl | rfl <;> rw [if_neg (by omega), if_pos (by omega)]
theorem v0_b {k : Nat} (h : bo k) : v0 k = upd z0 6 2 := by
  have h2 := h
  unfold bo at h2
  unfold v0
  rw [if_neg (by omega), if_neg (by omega), if_pos (@decide_eq_true _ (bod k) h)]
theorem v0_z {k : Nat} (h : ¬ bo k) (h1 : k ≠ 271) (h2 : k ≠ 1) (h3 : k ≠ 90) (h4 : k ≠ 178) : v0 k = z0 := by
  unfold v0
  rw [if_neg h1, if_neg (by omega), if_neg (fun e => h (@of_decide_eq_true _ (bod k) e))]
def eqv (e e' : va_E) : Prop := e = e' ∨ ∃ (cA : ClassId) (n : Nat) (f f' : Nat → Option Nat), e = qE cA n f ∧ e' = qE cA n f' ∧ ∀ i, i < n → f i = f' i
theorem arrV_cg (cI : ClassId) {N : Nat} {f g : Nat → Value} (h : ∀ j, j < N → f j = g j) : arrV cI N f = arrV cI N g := by
  have e : (fun j : Fin N => f j.val) = fun j : Fin N => g j.val := funext fun j => h j.val j.isLt
  unfold arrV
  rw [e]
theorem at_eqv {D : va_G} {q : Nat} {e e' : va_E} {H : Heap} (h : eqv e e') (ha : va_at D vwCl (q, e) H) : va_at D vwCl (q, e') H := by
  rcases h with rfl | ⟨cA, n, f, f', rfl, rfl, hf⟩
  · exact ha
  · have h1 : H[q]? = some (vp_cell cA (n, .inr (.inr (.inr (.inr f))))) := ha
    show H[q]? = some (vp_cell cA (n, .inr (.inr (.inr (.inr f')))))
    rw [h1, vp_cell_q, vp_cell_q]
    have : arrV cA n (fun j => va_rf (f j)) = arrV cA n (fun j => va_rf (f' j)) := arrV_cg _ (fun j hj => by rw [hf j hj])
    rw [this]
theorem eP_cel {cs : CS} {D : va_G} {A : Nat → Prop} {U : Nat → Nat} {p o : Nat} (hp : isPr p) (ho : o < 88) : eqv (eP cs p U o) (celP (U, D, cs, A) p o (v0 (p + o))) := by
  unfold eP celP
  by_cases i0 : o = 0
  · subst i0
    left
    have e : v0 (p + 0) = upd z0 2 1 := v0_p hp
    rw [if_pos rfl, if_pos rfl, e]
    rfl
  rw [if_neg i0, if_neg i0]
  by_cases i1 : o = 1
  · subst i1
    right
    rw [if_pos rfl, if_pos rfl]
    exact ⟨_, _, _, _, rfl, rfl, fun i hi => by unfold fA; rw [if_pos hi]⟩
  rw [if_neg i1, if_neg i1]
  left
  have hz : ∀ k, p + k < 266 → 2 ≤ k → ¬ (k < 86 ∧ (k - 2) % 7 = 0) → k < 88 → v0 (p + k) = z0 := by
    intro k k0 k1 k2 k3
    refine v0_z (fun hb => ?_) (by omega) ?_ ?_ ?_
    · unfold bo at hb
      rcases hp with rfl | rfl | rfl <;> omega
    · rcases hp with rfl | rfl | rfl <;> omega
    · rcases hp with rfl | rfl | rfl <;> omega
    · rcases hp with rfl | rfl | rfl <;> omega
  have hlt : p + o < 266 := by rcases hp with rfl | rfl | rfl <;> omega
  by_cases i86 : o = 86
  · rw [if_pos i86, if_pos i86, hz o hlt (by omega) (by omega) ho]
  rw [if_neg i86, if_neg i86]
  by_cases i87 : o = 87
  · rw [if_pos i87, if_pos i87, hz o hlt (by omega) (by omega) ho]
  rw [if_neg i87, if_neg i87]
  unfold eB
  by_cases j0 : (o - 2) % 7 = 0
  · rw [if_pos j0, if_pos j0, show p + 2 + 7 * ((o - 2) / 7) = p + o by omega, v0_b (by unfold bo; rcases hp with rfl | rfl | rfl <;> omega)]
    rfl
  rw [if_neg j0, if_neg j0, hz o hlt (by omega) (by omega) ho]
theorem cel_p {G : GG} {p o : Nat} {w : Nat → Int32} (hp : isPr p) (ho : o < 88) : cel G (p + o) w = celP G p o w := by
  unfold cel
  rcases hp with rfl | rfl | rfl
  · rw [if_neg (by omega), if_pos (by omega), show 1 + o - 1 = o by omega]
  · rw [if_neg (by omega), if_neg (by omega), if_neg (by omega), if_pos (by omega), show 90 + o - 90 = o by omega]
  · rw [if_neg (by omega), if_neg (by omega), if_neg (by omega), if_neg (by omega), if_pos (by omega), show 178 + o - 178 = o by omega]
/-- all 276 cells -/
def pW (cs : CS) (U : Nat → Nat) (ent : Nat → va_E) : Prop := ent 0 = .inr (3, [.ref (U 1), .ref (U 89), .ref (U 266), .ref (U 267)]) ∧ (∀ o, o < 88 → ent (1 + o) = eP cs 1 U o) ∧ ent 89 = qE cs.2.2.2 2 (fA 88 90 U 2) ∧ (∀ b' o, b' < 2 → o < 88 → ent (90 + 88 * b' + o) = eP cs (90 + 88 * b') U o) ∧ ent 266 = .inl (cs.2.1, 2, .inl z0) ∧ (∀ i, i < 3 → ent (267 + i) = eM cs 267 U i) ∧ ∀ i, i < 6 → ent (270 + i) = eR cs 270 U i
theorem v0_o {k : Nat} (h : 264 ≤ k) (h2 : k ≠ 271) : v0 k = z0 := v0_z (fun e => by unfold bo at e; omega) h2 (by omega) (by omega) (by omega)
theorem pW_cel {cs : CS} {D : va_G} {A : Nat → Prop} {U : Nat → Nat} {ent : Nat → va_E} (h : pW cs U ent) : ∀ k, k < 276 → eqv (ent k) (cel (U, D, cs, A) k (v0 k)) := by
  obtain ⟨h0, h1, h2, h3, h4, h5, h6⟩ := h
  intro k hk
  by_cases k0 : k = 0
  · subst k0; rw [h0]; exact Or.inl rfl
  by_cases k1 : k < 89
  · have e := h1 (k - 1) (by omega)
    rw [show 1 + (k - 1) = k by omega] at e
    have c := cel_p (G := (U, D, cs, A)) (p := 1) (o := k - 1) (w := v0 k) (Or.inl rfl) (by omega)
    have x := eP_cel (cs := cs) (D := D) (A := A) (U := U) (p := 1) (o := k - 1) (Or.inl rfl) (by omega)
    rw [show 1 + (k - 1) = k by omega] at c x
    rw [e, c]; exact x
  by_cases k2 : k = 89
  · subst k2
    rw [h2]
    exact Or.inr ⟨_, _, _, _, rfl, rfl, fun i hi => by unfold fA; rw [if_pos hi]⟩
  by_cases k3 : k < 178
  · have e := h3 0 (k - 90) (by omega) (by omega)
    have c := cel_p (G := (U, D, cs, A)) (p := 90) (o := k - 90) (w := v0 k) (Or.inr (Or.inl rfl)) (by omega)
    have x := eP_cel (cs := cs) (D := D) (A := A) (U := U) (p := 90) (o := k - 90) (Or.inr (Or.inl rfl)) (by omega)
    rw [show 90 + (k - 90) = k by omega] at c x
    rw [show 90 + 88 * 0 + (k - 90) = k by omega] at e
    rw [e, c]; exact x
  by_cases k4 : k < 266
  · have e := h3 1 (k - 178) (by omega) (by omega)
    have c := cel_p (G := (U, D, cs, A)) (p := 178) (o := k - 178) (w := v0 k) (Or.inr (Or.inr rfl)) (by omega)
    have x := eP_cel (cs := cs) (D := D) (A := A) (U := U) (p := 178) (o := k - 178) (Or.inr (Or.inr rfl)) (by omega)
    rw [show 178 + (k - 178) = k by omega] at c x
    rw [show 90 + 88 * 1 + (k - 178) = k by omega] at e
    rw [e, c]; exact x
  left
  have e5 : ∀ i, i < 3 → ent (267 + i) = eM cs 267 U i := h5
  rcases (show k = 266 ∨ k = 267 ∨ k = 268 ∨ k = 269 ∨ k = 270 ∨ k = 271 ∨ k = 272 ∨ k = 273 ∨ k = 274 ∨ k = 275 by omega) with rfl | rfl | rfl | rfl | rfl | rfl | rfl | rfl | rfl | rfl
  · rw [h4, v0_o (by omega) (by omega)]; rfl
  · rw [h5 0 (by omega), v0_o (by omega) (by omega)]; rfl
  · rw [h5 1 (by omega), v0_o (by omega) (by omega)]; rfl
  · rw [h5 2 (by omega), v0_o (by omega) (by omega)]; rfl
  · rw [h6 0 (by omega), v0_o (by omega) (by omega)]; rfl
  · rw [h6 1 (by omega), v0_271]; rfl
  · rw [h6 2 (by omega), v0_o (by omega) (by omega)]; rfl
  · rw [h6 3 (by omega), v0_o (by omega) (by omega)]; rfl
  · rw [h6 4 (by omega), v0_o (by omega) (by omega)]; rfl
  · rw [h6 5 (by omega), v0_o (by omega) (by omega)]; rfl
theorem wl_P {cs : CS} {D : va_G} {A : Nat → Prop} {U : Nat → Nat} {ent : Nat → va_E} {H : Heap} (h : pW cs U ent) (hP : va_P D vwCl (wlU 276 U ent) H) : va_P D vwCl (wl (U, D, cs, A) v0) H := by
  intro k q hq
  have hl : k < 276 := by
    have := (List.getElem?_eq_some_iff.mp hq).1
    simpa [wl] using this
  rw [wl_get hl] at hq
  cases hq
  exact at_eqv (pW_cel h k hl) (hP k _ (wlU_get hl))
theorem wl_ok {cs : CS} {D : va_G} {A : Nat → Prop} {U : Nat → Nat} {ent : Nat → va_E} (hD : va_D A (wlU 276 U ent)) : Gok (U, D, cs, A) :=
  ⟨fun i j hi hj e => hD.1 i j _ _ (wlU_get hi) (wlU_get hj) e, fun k hk => hD.2 k _ (wlU_get hk)⟩
/-- both begin alike -/
theorem Rel_0 : Rel v0 := by
  refine ⟨(0, 1, fun _ => nwV, fun _ => 0), ⟨by show 0 ≤ 12; omega, by show 1 ≤ 5; omega, fun b hb => absurd hb (by show ¬ b < 0; omega)⟩, ?_, ?_, ?_, ?_, ?_⟩
  · refine ⟨?_, ?_, fun r hr => ?_, ?_, fun b hb => absurd hb (by show ¬ b < 0; omega)⟩
    · rw [v0_p (Or.inl rfl)]; rfl
    · rw [v0_p (Or.inl rfl)]; rfl
    · rw [v0_z (fun e => by unfold bo at e; omega) (by omega) (by omega) (by omega) (by omega)]
    · rw [v0_z (fun e => by unfold bo at e; omega) (by omega) (by omega) (by omega) (by omega)]
  · rw [v0_271]
    refine ⟨rfl, rfl, fun r hr => ?_, fun b hb => absurd hb (by show ¬ b < 0; omega)⟩
    show upd z0 1 1 (2 + r) = 0
    unfold upd
    rw [if_neg (by omega)]
  · refine ⟨0, by omega, ?_, ?_, fun r hr => ?_, fun i hi => by omega⟩
    · rw [v0_o (by omega) (by omega)]; rfl
    · rw [v0_o (by omega) (by omega)]; rfl
    · rw [v0_o (by omega) (by omega), v0_o (by omega) (by omega)]
  · exact ⟨by rw [v0_o (by omega) (by omega), v0_o (by omega) (by omega)], Or.inl (by rw [v0_o (by omega) (by omega)])⟩
  · exact ⟨by rw [v0_o (by omega) (by omega), v0_o (by omega) (by omega)], Or.inl (by rw [v0_o (by omega) (by omega)])⟩
