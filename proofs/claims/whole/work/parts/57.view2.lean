/-! a block of the reference holds a value -/
def mH (g : Nat → Int32) (b : Nat) (x : Bv) : Prop := g (10 + 55 * b) = nI x.1 ∧ x.1 ≤ 10 ∧ (∀ f i, f < 5 → i < x.1 → g (10 + 55 * b + 1 + 5 * i + f) = x.2.1 f i) ∧ ∀ j, j < 4 → g (10 + 55 * b + 51 + j) = x.2.2 j
theorem mH.far {g h : Nat → Int32} {b : Nat} {x : Bv} (H : mH g b x) (hw : ∀ i, 10 + 55 * b ≤ i → i ≤ 10 + 55 * b + 54 → h i = g i) : mH h b x := by
  obtain ⟨h1, h2, h3, h4⟩ := H
  exact ⟨by rw [hw _ (by omega) (by omega)]; exact h1, h2, fun f i hf hi => by rw [hw _ (by omega) (by omega)]; exact h3 f i hf hi, fun j hj => by rw [hw _ (by omega) (by omega)]; exact h4 j hj⟩
theorem mH_mnb {g : Nat → Int32} {b : Nat} {x : Bv} (H : mH g b x) : mnb g b = x.1 := by
  unfold mnb
  rw [H.1]
  exact tn_nI (by have := H.2.1; omega)
theorem mH_mw {g : Nat → Int32} {b : Nat} {x : Bv} (H : mH g b x) : beq (mw g b) x :=
  ⟨mH_mnb H, fun f i hf hi => H.2.2.1 f i hf (by have := mH_mnb H; have h2 : i < mnb g b := hi; omega), fun j hj => H.2.2.2 j hj⟩
theorem u2_i {v : VV} {k j i : Nat} {x : Int32} : u2 v k j x k i = if i = j then x else v k i := by simp [va_up, upd]
theorem four {j : Nat} (h : j < 4) : j = 0 ∨ j = 1 ∨ j = 2 ∨ j = 3 := by omega
theorem mtm_j {v : VV} {b j : Nat} {k p q r : Int32} (hj : j < 4) : mtm v b k p q r 271 (10 + 55 * b + 51 + j) = if j = 0 then k else if j = 1 then p else if j = 2 then q else r := by
  unfold mtm
  rcases four hj with rfl | rfl | rfl | rfl
  · rw [u2_at (by omega), u2_at (by omega), u2_at (by omega), if_pos rfl]; exact u2_same
  · rw [u2_at (by omega), u2_at (by omega), u2_same]; rfl
  · rw [u2_at (by omega), u2_same]; rfl
  · rw [u2_same]; rfl
theorem mH_tm {v : VV} {b : Nat} {x : Bv} {k p q r : Int32} (H : mH (v 271) b x) : mH (mtm v b k p q r 271) b (tmV x k p q r) := by
  obtain ⟨h1, h2, h3, h4⟩ := H
  refine ⟨by rw [mtm_at (by omega)]; exact h1, h2, fun f i hf hi => ?_, fun j hj => by rw [mtm_j hj]; rfl⟩
  have hi2 : i < x.1 := hi
  rw [mtm_at (by omega)]
  exact h3 f i hf hi2
theorem map5_f {v : VV} {b n f i : Nat} {o d a e l : Int32} (hf : f < 5) : map5 v b n o d a e l 271 (10 + 55 * b + 1 + 5 * i + f) = if i = n then (if f = 0 then o else if f = 1 then d else if f = 2 then a else if f = 3 then e else l) else v 271 (10 + 55 * b + 1 + 5 * i + f) := by
  unfold map5
  rw [u2_at (by omega)]
  by_cases hi : i = n
  · subst hi
    rw [if_pos rfl]
    rcases five hf with rfl | rfl | rfl | rfl | rfl
    · rw [u2_at (by omega), u2_at (by omega), u2_at (by omega), u2_at (by omega)]; exact u2_same
    · rw [u2_at (by omega), u2_at (by omega), u2_at (by omega), u2_same]; rfl
    · rw [u2_at (by omega), u2_at (by omega), u2_same]; rfl
    · rw [u2_at (by omega), u2_same]; rfl
    · rw [u2_same]; rfl
  · rw [if_neg hi, u2_at (by omega), u2_at (by omega), u2_at (by omega), u2_at (by omega), u2_at (by omega)]
theorem mH_ap {v : VV} {b : Nat} {x : Bv} {o d a e l : Int32} (H : mH (v 271) b x) (hn : x.1 < 10) : mH (map5 v b x.1 o d a e l 271) b (apV x o d a e l) := by
  obtain ⟨h1, h2, h3, h4⟩ := H
  refine ⟨map5_cnt, hn, fun f i hf hi => ?_, fun j hj => by rw [map5_at hn (by omega)]; exact h4 j hj⟩
  rw [map5_f hf]
  show _ = if i = x.1 then _ else _
  by_cases hi2 : i = x.1
  · rw [if_pos hi2, if_pos hi2]
  · rw [if_neg hi2, if_neg hi2]
    have hi3 : i < x.1 + 1 := hi
    exact h3 f i hf (by omega)
theorem mH_new {v : VV} {c : Nat} : mH (mnw v c 271) c nwV := by
  refine ⟨mnw_cnt, by show 0 ≤ 10; omega, fun f i hf hi => absurd hi (by show ¬ i < 0; omega), fun j hj => ?_⟩
  unfold mnw
  rw [u2_at (by omega), mtm_j hj]
  rcases four hj with rfl | rfl | rfl | rfl <;> rfl
theorem mcL_f {a t f0 : Nat} (hat : a ≠ t) (hf : f0 < 5) : ∀ (f i k : Nat) (v : VV), k + f ≤ 10 → i + f ≤ 10 → (∀ j, j < k → mcL a t f i k v 271 (10 + 55 * t + 1 + 5 * j + f0) = v 271 (10 + 55 * t + 1 + 5 * j + f0)) ∧ ∀ j, j < f → mcL a t f i k v 271 (10 + 55 * t + 1 + 5 * (k + j) + f0) = v 271 (10 + 55 * a + 1 + 5 * (i + j) + f0) := by
  intro f
  induction f with
  | zero => intro i k v _ _; exact ⟨fun t _ => rfl, fun t h => by omega⟩
  | succ f ih =>
    intro i k v hk hi
    obtain ⟨g1, g2⟩ := ih (i + 1) (k + 1) (map5 v t k (v 271 (10 + 55 * a + 1 + 5 * i)) (v 271 (10 + 55 * a + 1 + 5 * i + 1)) (v 271 (10 + 55 * a + 1 + 5 * i + 2)) (v 271 (10 + 55 * a + 1 + 5 * i + 3)) (v 271 (10 + 55 * a + 1 + 5 * i + 4))) (by omega) (by omega)
    rw [mcL]
    refine ⟨fun j hj => ?_, fun j hj => ?_⟩
    · rw [g1 j (by omega), map5_f hf, if_neg (by omega)]
    · cases j with
      | zero =>
        show mcL _ _ _ _ _ _ 271 (10 + 55 * t + 1 + 5 * k + f0) = v 271 (10 + 55 * a + 1 + 5 * i + f0)
        rw [g1 k (by omega), map5_f hf, if_pos rfl]
        rcases five hf with rfl | rfl | rfl | rfl | rfl <;> rfl
      | succ j =>
        have := g2 j (by omega)
        rw [show k + (j + 1) = k + 1 + j by omega, show i + (j + 1) = i + 1 + j by omega, this, map5_at (by omega) (by omega)]
theorem mcL_cnt {a t : Nat} : ∀ (f i k : Nat) (v : VV), v 271 (10 + 55 * t) = nI k → mcL a t f i k v 271 (10 + 55 * t) = nI (k + f) := by
  intro f
  induction f with
  | zero => intro i k v h; exact h
  | succ f ih =>
    intro i k v h
    rw [mcL, ih _ _ _ map5_cnt, show k + 1 + f = k + (f + 1) by omega]
theorem mH_mcT {v : VV} {a t m : Nat} {x : Bv} (H : mH (v 271) a x) (hat : a ≠ t) (h0 : v 271 (10 + 55 * t) = nI 0) (hm : m ≤ x.1) : mH (mcT v a t 0 x.1 m 271) t (tailV x m) := by
  obtain ⟨h1, h2, h3, h4⟩ := H
  unfold mcT mcE
  have e4 : ∀ j, j < 4 → mcL a t m (x.1 - m) 0 v 271 (10 + 55 * a + 51 + j) = x.2.2 j := fun j hj => by rw [mcL_at (by omega) _ _ _ _ (by omega)]; exact h4 j hj
  refine ⟨by rw [mtm_at (by omega), mcL_cnt _ _ _ _ h0, Nat.zero_add]; rfl, by show m ≤ 10; omega, fun f i hf hi => ?_, fun j hj => ?_⟩
  · have hi2 : i < m := hi
    rw [mtm_at (by omega)]
    have := (mcL_f hat hf m (x.1 - m) 0 v (by omega) (by omega)).2 i hi2
    rw [Nat.zero_add] at this
    rw [this]
    exact h3 f _ hf (by omega)
  · rw [mtm_j hj]
    rcases four hj with rfl | rfl | rfl | rfl
    · exact e4 0 (by omega)
    · exact e4 1 (by omega)
    · exact e4 2 (by omega)
    · exact e4 3 (by omega)
theorem muF_f {a t n m j : Nat} (hat : a ≠ t) (hn : n ≤ 10) (hmn : m ≤ n) (hj : j < m) : ∀ (f i : Nat) (v : VV), i + f ≤ m → ∀ f0, f0 < 5 → muF a t n m f i v 271 (10 + 55 * t + 1 + 5 * j + f0) = if f0 = 4 ∧ i ≤ j ∧ j < i + f then v 271 (10 + 55 * t + 1 + 5 * j + 4) ||| v 271 (10 + 55 * a + 1 + 5 * (n - m + j) + 4) else v 271 (10 + 55 * t + 1 + 5 * j + f0) := by
  intro f
  induction f with
  | zero => intro i v _ f0 hf; rw [muF, if_neg (by omega)]
  | succ f ih =>
    intro i v hb f0 hf
    rw [muF, ih (i + 1) _ (by omega) f0 hf]
    by_cases hi : j = i
    · subst hi
      rw [if_neg (by omega)]
      by_cases h4 : f0 = 4
      · subst h4
        rw [if_pos (by omega), u2_same]
      · rw [if_neg (by omega), u2_at (by omega)]
    · rw [u2_at (by omega), u2_at (by omega), u2_at (by omega)]
      by_cases hc : f0 = 4 ∧ i + 1 ≤ j ∧ j < i + 1 + f
      · rw [if_pos hc, if_pos (by omega)]
      · rw [if_neg hc, if_neg (by omega)]
theorem mH_muF {v : VV} {a t : Nat} {x y : Bv} (H : mH (v 271) t x) (H2 : mH (v 271) a y) (hat : a ≠ t) (hm : x.1 ≤ y.1) : mH (muF a t y.1 x.1 x.1 0 v 271) t (unV x y) := by
  obtain ⟨h1, h2, h3, h4⟩ := H
  obtain ⟨g1, g2, g3, g4⟩ := H2
  refine ⟨by rw [muF_at (by omega) _ _ _ (by omega)]; exact h1, h2, fun f i hf hi => ?_, fun j hj => by rw [muF_at (by omega) _ _ _ (by omega)]; exact h4 j hj⟩
  have hi2 : i < x.1 := hi
  rw [muF_f hat g2 hm hi2 _ _ _ (by omega) f hf]
  show _ = if f = 4 then _ else _
  by_cases hf4 : f = 4
  · subst hf4
    rw [if_pos (by omega), if_pos rfl, h3 4 i (by omega) hi2, g3 4 _ (by omega) (by omega)]
  · rw [if_neg (by omega), if_neg hf4]
    exact h3 f i hf hi2
theorem mH_cut {v : VV} {b m : Nat} {x : Bv} {t : Int32} (H : mH (v 271) b x) : mH (mcut v b x.1 m t 271) b (tmV (ctV x m) 0 t 0 0) := by
  obtain ⟨h1, h2, h3, h4⟩ := H
  unfold mcut
  refine mH_tm (x := ctV x m) ⟨u2_same, by show x.1 - m ≤ 10; omega, fun f i hf hi => ?_, fun j hj => ?_⟩
  · have hi2 : i < x.1 - m := hi
    rw [u2_at (by omega), zrF_at _ _ _ (by omega)]
    exact h3 f i hf (by omega)
  · rw [u2_at (by omega), zrF_at _ _ _ (by omega)]
    exact h4 j hj
theorem mH_mpp {v : VV} {b m t : Nat} {x : Bv} {z : Int32} (H : mH (v 271) b x) (h1 : 1 ≤ t) (h2 : t ≤ m) (hm : m ≤ x.1) : mH (mpp v b x.1 m t z 271) b (apV (tmV (ctV x m) 0 z 0 0) 0 7 (x.2.1 2 (x.1 - t)) 0 (x.2.1 4 (x.1 - t))) := by
  unfold mpp
  rw [H.2.2.1 2 _ (by omega) (by omega), H.2.2.1 4 _ (by omega) (by omega)]
  exact mH_ap (mH_cut H) (by show x.1 - m < 10; have := H.2.1; omega)
theorem mH_tk {v : VV} {b q : Nat} {x : Bv} (H : mH (v 271) b x) (hq : 1 ≤ q) (hq2 : q ≤ x.1) (h0 : x.2.1 3 (x.1 - q) = 0) : mH (u2 (u2 (u2 v 271 (10 + 55 * b + 1 + 5 * (x.1 - q)) 1) 271 (10 + 55 * b + 1 + 5 * (x.1 - q) + 2) 7) 271 (10 + 55 * b + 1 + 5 * (x.1 - q) + 3) 0 271) b (tkV x q) := by
  obtain ⟨h1, h2, h3, h4⟩ := H
  refine ⟨by rw [u2_at (by omega), u2_at (by omega), u2_at (by omega)]; exact h1, h2, fun f i hf hi => ?_, fun j hj => by rw [u2_at (by omega), u2_at (by omega), u2_at (by omega)]; exact h4 j hj⟩
  have hi2 : i < x.1 := hi
  have e := h3 f i hf hi2
  show _ = if i = x.1 - q then _ else _
  by_cases hb : i = x.1 - q
  · subst hb
    rw [if_pos rfl]
    rcases five hf with rfl | rfl | rfl | rfl | rfl
    · rw [u2_at (by omega), u2_at (by omega)]; exact u2_same
    · rw [u2_at (by omega), u2_at (by omega), u2_at (by omega)]; exact e
    · rw [u2_at (by omega), u2_same]; rfl
    · rw [u2_same]; exact h0.symm
    · rw [u2_at (by omega), u2_at (by omega), u2_at (by omega)]; exact e
  · rw [if_neg hb, u2_at (by omega), u2_at (by omega), u2_at (by omega)]; exact e
