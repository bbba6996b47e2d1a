/-! the tail with a parameter: both find the same one -/
theorem us7_same {x : Bv} {c k : Nat} (hw : BW x c) (h1 : 1 ≤ k) (h2 : k ≤ x.1) : us7m x k = us7b x k := by
  have hi := hw.1 (x.1 - k) (by omega)
  have e : us7m x k = true ↔ us7 x k := by
    unfold us7m us7
    simp only [Bool.or_eq_true, decide_eq_true_eq]
    generalize x.2.1 0 (x.1 - k) = o at hi ⊢
    generalize x.2.1 1 (x.1 - k) = d at hi ⊢
    generalize x.2.1 2 (x.1 - k) = a at hi ⊢
    generalize x.2.1 3 (x.1 - k) = b at hi ⊢
    rcases hi with ⟨rfl, _, rfl⟩ | ⟨rfl, _, _, rfl⟩ | ⟨ho, _⟩ | ⟨rfl, rfl, _, rfl⟩
    · by_cases hd : d = 7 <;> by_cases ha : a = 7 <;> simp [hd, ha]
    · by_cases hd : d = 7 <;> by_cases ha : a = 7 <;> simp [hd, ha]
    · rcases ho with rfl | rfl | rfl | rfl <;> (by_cases hd : d = 7 <;> by_cases ha : a = 7 <;> by_cases hb : b = 7 <;> simp [hd, ha, hb] <;> decide)
    · by_cases ha : a = 7 <;> simp [ha]
  by_cases h : us7 x k
  · rw [e.mpr h, us7b_iff.mpr h]
  · have e1 : us7m x k = false := Bool.eq_false_iff.mpr (fun t => h (e.mp t))
    have e2 : us7b x k = false := Bool.eq_false_iff.mpr (fun t => h (us7b_iff.mp t))
    rw [e1, e2]
def dead (x y : Bv) (dn : Nat) (cl : Bool) (v : VV) : Prop := cl = false ∨ 2 ≤ dn ∨ (dn = 1 ∧ ¬ sctb x y (tn (v 270 3)) = true)
theorem plV_3 {v : VV} {x y : Bv} {k dn : Nat} (h : 1 ≤ dn) : plV v x y k dn 270 3 = v 270 3 := by
  unfold plV
  split
  · rfl
  · rw [u2_same, if_neg (by omega)]
theorem dead_step {x y : Bv} {k dn : Nat} {cl : Bool} {v : VV} (h : dead x y dn cl v) : dead x y (plD x y k dn) (plC x y k cl) (plV v x y k dn) := by
  rcases h with h | h | ⟨h1, h2⟩
  · left; unfold plC; rw [h]; rfl
  · right; left; unfold plD; split <;> omega
  · right
    unfold plD
    by_cases e : eqAb x y k = true
    · rw [if_pos e]; right
      exact ⟨h1, by rw [plV_3 (by omega)]; exact h2⟩
    · rw [if_neg e]; left; omega
theorem dead_no {x y : Bv} {dn : Nat} {cl : Bool} {v : VV} (h : dead x y dn cl v) : ¬ (cl && decide (dn = 1) && sctb x y (tn (v 270 3))) = true := by
  intro e
  simp only [Bool.and_eq_true, decide_eq_true_eq] at e
  rcases h with h | h | ⟨h1, h2⟩
  · rw [h] at e; exact absurd e.1.1 (by simp)
  · omega
  · exact h2 e.2
theorem plF_dead {x y : Bv} : ∀ (f k : Nat) (fd : Int32) (dn : Nat) (cl : Bool) (v : VV), dead x y dn cl v → (plF x y f k fd dn cl v).1 = fd := by
  intro f
  induction f with
  | zero => intro k fd dn cl v _; rfl
  | succ f ih =>
    intro k fd dn cl v h
    have h2 := dead_step (k := k) h
    rw [plF, ih _ _ _ _ _ h2, if_neg (dead_no h2)]
theorem plF_3 {x y : Bv} : ∀ (f k : Nat) (fd : Int32) (dn : Nat) (cl : Bool) (v : VV), 1 ≤ dn → (plF x y f k fd dn cl v).2 270 3 = v 270 3 := by
  intro f
  induction f with
  | zero => intro k fd dn cl v _; rfl
  | succ f ih =>
    intro k fd dn cl v h
    rw [plF, ih _ _ _ _ _ (by unfold plD; split <;> omega), plV_3 h]
/-- the only place where the tails differ -/
def onlyD (x y : Bv) (q : Nat) : Prop := 1 ≤ q ∧ ¬ eqAb x y q = true ∧ sctb x y q = true ∧ ∀ i, 1 ≤ i → i < q → eqAb x y i = true
def live (x y : Bv) (k : Nat) (df : Bool) (v : VV) : Prop := if df = true then ∃ q, v 270 3 = nI q ∧ q < k ∧ onlyD x y q else ∀ i, 1 ≤ i → i < k → eqAb x y i = true
theorem plF_live {x y : Bv} {N : Nat} (hN : N ≤ 10) (hu : ∀ k, 1 ≤ k → k ≤ N → us7m x k = us7b x k ∧ us7m y k = us7b y k) : ∀ (f k : Nat) (df : Bool) (v : VV), k + 1 + f = N + 1 → live x y (k + 1) df v → (plF x y f (k + 1) (if df = true then nI k else -1005) (if df = true then 1 else 0) true v).1 = (if (ptF x y f k df).2 = true then nI (ptF x y f k df).1 else -1005) ∧ ((ptF x y f k df).2 = true → ∃ q, (plF x y f (k + 1) (if df = true then nI k else -1005) (if df = true then 1 else 0) true v).2 270 3 = nI q ∧ q ≤ (ptF x y f k df).1 ∧ onlyD x y q) := by
  intro f
  induction f with
  | zero =>
    intro k df v hk hl
    rw [plF, ptF]
    refine ⟨rfl, fun hd => ?_⟩
    have hd2 : df = true := hd
    unfold live at hl
    rw [if_pos hd2] at hl
    obtain ⟨q, q1, q2, q3⟩ := hl
    exact ⟨q, q1, by show q ≤ k; omega, q3⟩
  | succ f ih =>
    intro k df v hk hl
    obtain ⟨u1, u2⟩ := hu (k + 1) (by omega) (by omega)
    have hC : plC x y (k + 1) true = (!(us7b x (k + 1)) && !(us7b y (k + 1))) := by unfold plC; rw [u1, u2, Bool.true_and]
    rw [plF, ptF]
    by_cases hp : pfit x y (k + 1) df = true
    · rw [if_pos hp]
      have hp2 := hp
      unfold pfit at hp2
      rw [Bool.and_eq_true] at hp2
      obtain ⟨p1, p2⟩ := hp2
      rw [hC, p1]
      by_cases he : eqAb x y (k + 1) = true
      · have eV : plV v x y (k + 1) (if df = true then 1 else 0) = v := by unfold plV; rw [if_pos he]
        have eD : plD x y (k + 1) (if df = true then 1 else 0) = if df = true then 1 else 0 := by unfold plD; rw [if_pos he]
        rw [eV, eD, he]
        have hl2 : live x y (k + 1 + 1) df v := by
          unfold live at hl ⊢
          by_cases hd : df = true
          · rw [if_pos hd] at hl ⊢
            obtain ⟨q, q1, q2, q3⟩ := hl
            exact ⟨q, q1, by omega, q3⟩
          · rw [if_neg hd] at hl ⊢
            intro i i1 i2
            by_cases e : i = k + 1
            · rw [e]; exact he
            · exact hl i i1 (by omega)
        have e2 : (if (true && decide ((if df = true then 1 else 0) = 1) && sctb x y (tn (v 270 3))) = true then nI (k + 1) else if df = true then nI k else -1005) = if df = true then nI (k + 1) else -1005 := by
          by_cases hd : df = true
          · unfold live at hl
            rw [if_pos hd] at hl
            obtain ⟨q, q1, q2, q3⟩ := hl
            rw [q1, tn_nI (by omega), q3.2.2.1, if_pos hd, if_pos hd, if_pos hd]
            rfl
          · rw [if_neg hd, if_neg hd, if_neg hd]
            rfl
        rw [e2, show (df || !true) = df by simp]
        exact ih (k + 1) df v (by omega) hl2
      · have hdf : df = false := by
          rw [Bool.or_eq_true, Bool.and_eq_true] at p2
          rcases p2 with p2 | p2
          · exact absurd p2 he
          · simpa using p2.1
        have hs : sctb x y (k + 1) = true := by
          rw [Bool.or_eq_true, Bool.and_eq_true] at p2
          rcases p2 with p2 | p2
          · exact absurd p2 he
          · exact p2.2
        subst hdf
        unfold live at hl
        rw [if_neg (by simp)] at hl
        have eV : plV v x y (k + 1) 0 270 3 = nI (k + 1) := by unfold plV; rw [if_neg he, u2_same]; rfl
        have eD : plD x y (k + 1) 0 = 1 := by unfold plD; rw [if_neg he]
        have hl2 : live x y (k + 1 + 1) true (plV v x y (k + 1) 0) := by
          unfold live
          rw [if_pos rfl]
          exact ⟨k + 1, eV, by omega, by omega, he, hs, fun i i1 i2 => hl i i1 i2⟩
        have hef : eqAb x y (k + 1) = false := Bool.eq_false_iff.mpr he
        have := ih (k + 1) true _ (by omega) hl2
        rw [if_pos rfl, if_pos rfl] at this
        rw [show (if false = true then 1 else 0) = 0 from rfl, eD, eV, tn_nI (by omega), hs, hef]
        exact this
    · rw [if_neg hp]
      have hd : dead x y (plD x y (k + 1) (if df = true then 1 else 0)) (plC x y (k + 1) true) (plV v x y (k + 1) (if df = true then 1 else 0)) := by
        by_cases p1 : (!(us7b x (k + 1)) && !(us7b y (k + 1))) = true
        · right
          have p2 : ¬ (eqAb x y (k + 1) || (!df && sctb x y (k + 1))) = true := by
            intro e
            apply hp
            unfold pfit
            rw [p1, e]; rfl
          have he : ¬ eqAb x y (k + 1) = true := fun e => p2 (by rw [e]; rfl)
          unfold plD
          rw [if_neg he]
          cases df with
          | true => left; rw [if_pos rfl]; omega
          | false =>
            right
            refine ⟨rfl, ?_⟩
            have eV : plV v x y (k + 1) 0 270 3 = nI (k + 1) := by unfold plV; rw [if_neg he, u2_same]; rfl
            rw [show (if false = true then 1 else 0) = 0 from rfl, eV, tn_nI (by omega)]
            intro e
            exact p2 (by rw [e]; simp)
        · left
          rw [hC]
          exact Bool.eq_false_iff.mpr p1
      rw [plF_dead _ _ _ _ _ _ hd, if_neg (dead_no hd)]
      refine ⟨rfl, fun hdt => ?_⟩
      have hdt2 : df = true := hdt
      unfold live at hl
      rw [if_pos hdt2] at hl
      obtain ⟨q, q1, q2, q3⟩ := hl
      refine ⟨q, ?_, by show q ≤ k; omega, q3⟩
      rw [plF_3 _ _ _ _ _ _ (by unfold plD; rw [if_pos hdt2]; split <;> omega), plV_3 (by rw [if_pos hdt2]; omega)]
      exact q1
theorem bk_D {x y : Bv} {q : Nat} (h : onlyD x y q) : ∀ (f t : Nat), 1 ≤ t → t ≤ q → q ≤ t + f → bkF x y f t = q := by
  intro f
  induction f with
  | zero => intro t h1 h2 h3; rw [bkF]; omega
  | succ f ih =>
    intro t h1 h2 h3
    rw [bkF]
    by_cases e : t = q
    · rw [e, if_neg h.2.1]
    · rw [if_pos (h.2.2.2 t h1 (by omega))]
      exact ih _ (by omega) (by omega) (by omega)
theorem onlyD_cg {x x' y y' : Bv} {q : Nat} (hx : beq x x') (hy : beq y y') (h1 : q ≤ x.1) (h2 : q ≤ y.1) (h : onlyD x y q) : onlyD x' y' q :=
  ⟨h.1, by rw [← eqA_cg hx hy h.1 h1 h2]; exact h.2.1, by rw [← sct_cg hx hy h.1 h1 h2]; exact h.2.2.1, fun i i1 i2 => by rw [← eqA_cg hx hy i1 (by omega) (by omega)]; exact h.2.2.2 i i1 i2⟩
/-- what the reference finds -/
theorem plen_pt {v : VV} {c a b : Nat} (hM : MF (v 271) c) (ha : a < c) (hb : b < c) : (plen v a b).1 = pt (mw (v 271) a) (mw (v 271) b) ∧ (0 ≤ pt (mw (v 271) a) (mw (v 271) b) → ∃ m q, pt (mw (v 271) a) (mw (v 271) b) = nI m ∧ (plen v a b).2 270 3 = nI q ∧ q ≤ m ∧ m ≤ mnb (v 271) a ∧ m ≤ mnb (v 271) b ∧ onlyD (mw (v 271) a) (mw (v 271) b) q) := by
  have n1 := (hM.1.2.2 a ha).2
  have n2 := (hM.1.2.2 b hb).2
  unfold plen pt
  by_cases h : eqTb (mw (v 271) a) (mw (v 271) b) = true ∧ (mw (v 271) a).2.2 0 = 2
  · rw [if_pos h, if_pos ⟨h.2, h.1⟩]
    have hN : min (mnb (v 271) a) (mnb (v 271) b) ≤ 10 := by omega
    have := plF_live (x := mw (v 271) a) (y := mw (v 271) b) hN (fun k k1 k2 => ⟨us7_same (hM.2 a ha) k1 (by show k ≤ mnb (v 271) a; omega), us7_same (hM.2 b hb) k1 (by show k ≤ mnb (v 271) b; omega)⟩) (min (mnb (v 271) a) (mnb (v 271) b)) 0 false v (by omega) (by unfold live; rw [if_neg (by simp)]; intro i i1 i2; omega)
    rw [show (if false = true then nI 0 else (-1005 : Int32)) = -1005 from rfl, show (if false = true then 1 else 0) = 0 from rfl, show (0 + 1) = 1 from rfl] at this
    have e : min (mw (v 271) a).1 (mw (v 271) b).1 = min (mnb (v 271) a) (mnb (v 271) b) := rfl
    rw [e]
    refine ⟨this.1, fun h0 => ?_⟩
    by_cases hd : (ptF (mw (v 271) a) (mw (v 271) b) (min (mnb (v 271) a) (mnb (v 271) b)) 0 false).2 = true
    · obtain ⟨q, q1, q2, q3⟩ := this.2 hd
      have hle := (ptF_ok (mw (v 271) a) (mw (v 271) b) (min (mnb (v 271) a) (mnb (v 271) b)) 0 false).2.1
      exact ⟨_, q, by rw [if_pos hd], q1, q2, by omega, by omega, q3⟩
    · rw [if_neg hd] at h0; exact absurd h0 n1005
  · rw [if_neg h, if_neg (fun e => h ⟨e.2, e.1⟩)]
    exact ⟨rfl, fun h0 => absurd h0 n1005⟩
