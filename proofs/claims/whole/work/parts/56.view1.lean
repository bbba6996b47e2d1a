/-! a block of the class holds a value -/
def bH (v : VV) (k : Nat) (x : Bv) : Prop := v k 5 = nI x.1 ∧ x.1 ≤ 10 ∧ (∀ f i, f < 5 → i < x.1 → v (k + (1 + f)) i = x.2.1 f i) ∧ v k 6 = x.2.2 0 ∧ v (k + 6) 0 = x.2.2 1 ∧ v (k + 6) 1 = x.2.2 2 ∧ v (k + 6) 2 = x.2.2 3
def apV (x : Bv) (o d a b l : Int32) : Bv := (x.1 + 1, fun f i => if i = x.1 then (if f = 0 then o else if f = 1 then d else if f = 2 then a else if f = 3 then b else l) else x.2.1 f i, x.2.2)
def tmV (x : Bv) (k p q r : Int32) : Bv := (x.1, x.2.1, fun j => if j = 0 then k else if j = 1 then p else if j = 2 then q else r)
def ctV (x : Bv) (m : Nat) : Bv := (x.1 - m, x.2.1, x.2.2)
def nwV : Bv := (0, fun _ _ => 0, fun j => if j = 0 then 2 else 0)
theorem bH.far {v w : VV} {k : Nat} {x : Bv} (h : bH v k x) (hw : ∀ q, k ≤ q → q ≤ k + 6 → w q = v q) : bH w k x := by
  obtain ⟨h1, h2, h3, h4, h5, h6, h7⟩ := h
  have e0 := hw k (Nat.le_refl k) (by omega)
  have e6 := hw (k + 6) (by omega) (by omega)
  exact ⟨by rw [e0]; exact h1, h2, fun f i hf hi => by rw [hw _ (by omega) (by omega)]; exact h3 f i hf hi, by rw [e0]; exact h4, by rw [e6]; exact h5, by rw [e6]; exact h6, by rw [e6]; exact h7⟩
theorem bH_nb {v : VV} {p b : Nat} {x : Bv} (h : bH v (kB p b) x) : nb v p b = x.1 := by
  unfold nb
  rw [h.1]
  exact tn_nI (by have := h.2.1; omega)
theorem bH_pv {v : VV} {p b : Nat} {x : Bv} (h : bH v (kB p b) x) : beq (pv v p b) x := by
  refine ⟨bH_nb h, fun f i hf hi => h.2.2.1 f i hf (by rw [← bH_nb h]; exact hi), fun j hj => ?_⟩
  have hj4 : j = 0 ∨ j = 1 ∨ j = 2 ∨ j = 3 := by omega
  rcases hj4 with rfl | rfl | rfl | rfl
  · exact h.2.2.2.1
  · exact h.2.2.2.2.1
  · exact h.2.2.2.2.2.1
  · exact h.2.2.2.2.2.2
theorem five {f : Nat} (h : f < 5) : f = 0 ∨ f = 1 ∨ f = 2 ∨ f = 3 ∨ f = 4 := by omega
theorem ap_fld {v : VV} {k n f i : Nat} {o d a b l : Int32} (hf : f < 5) : ap v k n o d a b l (k + (1 + f)) i = if i = n then (if f = 0 then o else if f = 1 then d else if f = 2 then a else if f = 3 then b else l) else v (k + (1 + f)) i := by
  rcases five hf with rfl | rfl | rfl | rfl | rfl <;> (by_cases hi : i = n <;> simp [ap, va_up, upd, hi])
theorem ap_t {v : VV} {k n j : Nat} {o d a b l : Int32} : ap v k n o d a b l (k + 6) j = v (k + 6) j ∧ ap v k n o d a b l k 6 = v k 6 := by
  constructor <;> simp [ap, va_up, upd]
theorem tm_fld {v : VV} {k f i : Nat} {a b c d : Int32} (hf : f < 5) : tm v k a b c d (k + (1 + f)) i = v (k + (1 + f)) i := by
  rcases five hf with rfl | rfl | rfl | rfl | rfl <;> simp [tm, va_up, upd]
theorem tm_t {v : VV} {k : Nat} {a b c d : Int32} : tm v k a b c d k 6 = a ∧ tm v k a b c d (k + 6) 0 = b ∧ tm v k a b c d (k + 6) 1 = c ∧ tm v k a b c d (k + 6) 2 = d := by
  refine ⟨?_, ?_, ?_, ?_⟩ <;> simp [tm, va_up, upd]
theorem bH_ap {v : VV} {k : Nat} {x : Bv} {o d a b l : Int32} (h : bH v k x) (hn : x.1 < 10) : bH (ap v k x.1 o d a b l) k (apV x o d a b l) := by
  obtain ⟨h1, h2, h3, h4, h5, h6, h7⟩ := h
  refine ⟨ap_cnt, hn, fun f i hf hi => ?_, by rw [(ap_t (j := 0)).2]; exact h4, by rw [ap_t.1]; exact h5, by rw [ap_t.1]; exact h6, by rw [ap_t.1]; exact h7⟩
  rw [ap_fld hf]
  show _ = if i = x.1 then _ else _
  by_cases hi2 : i = x.1
  · rw [if_pos hi2, if_pos hi2]
  · rw [if_neg hi2, if_neg hi2]
    have hi3 : i < x.1 + 1 := hi
    exact h3 f i hf (by omega)
theorem bH_tm {v : VV} {k : Nat} {x : Bv} {a b c d : Int32} (h : bH v k x) : bH (tm v k a b c d) k (tmV x a b c d) := by
  obtain ⟨h1, h2, h3, -⟩ := h
  exact ⟨by rw [tm_cnt]; exact h1, h2, fun f i hf hi => by rw [tm_fld hf]; exact h3 f i hf hi, tm_t.1, tm_t.2.1, tm_t.2.2.1, tm_t.2.2.2⟩
theorem bH_cut {v : VV} {k m : Nat} {x : Bv} (h : bH v k x) : bH (u2 v k 5 (nI (x.1 - m))) k (ctV x m) := by
  obtain ⟨h1, h2, h3, h4, h5, h6, h7⟩ := h
  refine ⟨u2_same, by show x.1 - m ≤ 10; omega, fun f i hf hi => ?_, by rw [u2_at (by omega)]; exact h4, by rw [u2_ne (by omega)]; exact h5, by rw [u2_ne (by omega)]; exact h6, by rw [u2_ne (by omega)]; exact h7⟩
  rw [u2_ne (by omega)]
  have hi2 : i < x.1 - m := hi
  exact h3 f i hf (by omega)
theorem bH_clr {v : VV} {k : Nat} : bH (clr v k) k nwV := by
  unfold clr
  refine ⟨by rw [tm_cnt, u2_same]; rfl, by show 0 ≤ 10; omega, fun f i hf hi => absurd hi (by show ¬ i < 0; omega), tm_t.1, tm_t.2.1, tm_t.2.2.1, tm_t.2.2.2⟩
theorem bH_new {v : VV} {p c : Nat} : bH (nwB v p c) (kB p c) nwV := by
  unfold nwB
  exact (bH_clr (v := v)).far (fun q h1 h2 => u2_ne (by unfold kB at h1; omega))
theorem bH_rpJ {v : VV} {k m : Nat} {x : Bv} {t : Int32} (h : bH v k x) : bH (rpJ v k x.1 m t) k (tmV (ctV x m) 0 t 0 0) := by
  unfold rpJ
  exact bH_tm (bH_cut h)
theorem bH_rpP {v : VV} {k m b : Nat} {x : Bv} {t : Int32} (h : bH v k x) (hb : 1 ≤ b) (hbm : b ≤ m) (hm : m ≤ x.1) : bH (rpP v k x.1 m b t) k (apV (tmV (ctV x m) 0 t 0 0) 0 7 (x.2.1 2 (x.1 - b)) 0 (x.2.1 4 (x.1 - b))) := by
  unfold rpP
  have e1 : v (k + 3) (x.1 - b) = x.2.1 2 (x.1 - b) := h.2.2.1 2 _ (by omega) (by omega)
  have e2 : v (k + 5) (x.1 - b) = x.2.1 4 (x.1 - b) := h.2.2.1 4 _ (by omega) (by omega)
  rw [e1, e2]
  exact bH_ap (bH_rpJ h) (by show x.1 - m < 10; have := h.2.1; omega)
/-! what comes of the tail's instructions -/
theorem apL_fld {k k2 f0 : Nat} (hs : k + 6 < k2 ∨ k2 + 6 < k) (hf : f0 < 5) : ∀ (f n i : Nat) (v : VV), (∀ t, t < n → apL k k2 f n i v (k + (1 + f0)) t = v (k + (1 + f0)) t) ∧ ∀ t, t < f → apL k k2 f n i v (k + (1 + f0)) (n + t) = v (k2 + (1 + f0)) (i + t) := by
  intro f
  induction f with
  | zero => intro n i v; exact ⟨fun t _ => rfl, fun t h => by omega⟩
  | succ f ih =>
    intro n i v
    obtain ⟨g1, g2⟩ := ih (n + 1) (i + 1) (ap v k n (v (k2 + 1) i) (v (k2 + 2) i) (v (k2 + 3) i) (v (k2 + 4) i) (v (k2 + 5) i))
    rw [apL]
    refine ⟨fun t ht => ?_, fun t ht => ?_⟩
    · rw [g1 t (by omega), ap_fld hf, if_neg (by omega)]
    · cases t with
      | zero =>
        show apL _ _ _ _ _ _ (k + (1 + f0)) n = v (k2 + (1 + f0)) i
        rw [g1 n (by omega), ap_fld hf, if_pos rfl]
        rcases five hf with rfl | rfl | rfl | rfl | rfl <;> rfl
      | succ t =>
        have := g2 t (by omega)
        rw [show n + (t + 1) = n + 1 + t by omega, show i + (t + 1) = i + 1 + t by omega, this, ap_far (by omega)]
theorem apL_t {k k2 j : Nat} : ∀ (f n i : Nat) (v : VV), apL k k2 f n i v (k + 6) j = v (k + 6) j ∧ apL k k2 f n i v k 6 = v k 6 := by
  intro f
  induction f with
  | zero => intro n i v; exact ⟨rfl, rfl⟩
  | succ f ih => intro n i v; rw [apL]; exact ⟨by rw [(ih _ _ _).1, ap_t.1], by rw [(ih _ _ _).2, (ap_t (j := j)).2]⟩
/-- the tail of length m of a block -/
def tailV (x : Bv) (m : Nat) : Bv := (m, fun f i => x.2.1 f (x.1 - m + i), x.2.2)
theorem bH_apT {v : VV} {k k2 m : Nat} {x : Bv} (h2 : bH v k2 x) (hs : k + 6 < k2 ∨ k2 + 6 < k) (hk : v k 5 = nI 0) (hm : m ≤ x.1) : bH (apT v k k2 0 x.1 m) k (tailV x m) := by
  obtain ⟨g1, g2, g3, g4, g5, g6, g7⟩ := h2
  unfold apT apE
  have far : ∀ q, k2 ≤ q → q ≤ k2 + 6 → apL k k2 m 0 (x.1 - m) v q = v q := fun q a1 a2 => apL_far (by omega) _ _ _ _
  have e0 := far k2 (Nat.le_refl _) (by omega)
  have e6 := far (k2 + 6) (by omega) (by omega)
  refine ⟨by rw [tm_cnt, apL_cnt _ _ _ _ hk, Nat.zero_add]; rfl, by show m ≤ 10; omega, fun f i hf hi => ?_, by rw [tm_t.1, e0]; exact g4, by rw [tm_t.2.1, e6]; exact g5, by rw [tm_t.2.2.1, e6]; exact g6, by rw [tm_t.2.2.2, e6]; exact g7⟩
  have hi2 : i < m := hi
  rw [tm_fld hf]
  have := (apL_fld (v := v) hs hf m 0 (x.1 - m)).2 i hi2
  rw [Nat.zero_add] at this
  rw [this]
  exact g3 f _ hf (by omega)
theorem unF_fld {k k2 n n2 i : Nat} (hs : k + 6 < k2 ∨ k2 + 6 < k) : ∀ (f b : Nat) (v : VV), 1 ≤ b → b + f ≤ n + 1 → unF k k2 n n2 f b v (k + 5) i = if n < i + b + f ∧ i + b ≤ n then v (k + 5) i ||| v (k2 + 5) (n2 - (n - i)) else v (k + 5) i := by
  intro f
  induction f with
  | zero => intro b v _ _; rw [unF, if_neg (by omega)]
  | succ f ih =>
    intro b v hb hbf
    rw [unF, ih (b + 1) _ (by omega) (by omega)]
    by_cases hi : i = n - b
    · rw [if_neg (by omega), if_pos (by omega), hi, u2_same, show n - (n - b) = b by omega]
    · rw [u2_at hi, u2_ne (show k2 + 5 ≠ k + 5 by omega)]
      by_cases hc : n < i + (b + 1) + f ∧ i + (b + 1) ≤ n
      · rw [if_pos hc, if_pos (by omega)]
      · rw [if_neg hc, if_neg (by omega)]
/-- the lines of another block's tail are joined -/
def unV (x y : Bv) : Bv := (x.1, fun f i => if f = 4 then x.2.1 4 i ||| y.2.1 4 (y.1 - x.1 + i) else x.2.1 f i, x.2.2)
theorem bH_unF {v : VV} {k k2 : Nat} {x y : Bv} (h : bH v k x) (h2 : bH v k2 y) (hs : k + 6 < k2 ∨ k2 + 6 < k) (hm : x.1 ≤ y.1) : bH (unF k k2 x.1 y.1 x.1 1 v) k (unV x y) := by
  obtain ⟨h1, hn, h3, h4, h5, h6, h7⟩ := h
  refine ⟨by rw [unF_far (by omega)]; exact h1, hn, fun f i hf hi => ?_, by rw [unF_far (by omega)]; exact h4, by rw [unF_far (by omega)]; exact h5, by rw [unF_far (by omega)]; exact h6, by rw [unF_far (by omega)]; exact h7⟩
  have hi2 : i < x.1 := hi
  show _ = if f = 4 then _ else _
  by_cases hf4 : f = 4
  · subst hf4
    rw [if_pos rfl]
    have e := unF_fld (i := i) (n := x.1) (n2 := y.1) hs x.1 1 v (by omega) (by omega)
    rw [if_pos (by omega)] at e
    show unF k k2 x.1 y.1 x.1 1 v (k + 5) i = _
    rw [e, show y.1 - (x.1 - i) = y.1 - x.1 + i by omega]
    have a1 : v (k + 5) i = x.2.1 4 i := h3 4 i (by omega) hi2
    have a2 : v (k2 + 5) (y.1 - x.1 + i) = y.2.1 4 (y.1 - x.1 + i) := h2.2.2.1 4 _ (by omega) (by omega)
    rw [a1, a2]
  · rw [if_neg hf4, unF_far (by omega)]
    exact h3 f i hf hi2
def tkV (x : Bv) (b : Nat) : Bv := (x.1, fun f i => if i = x.1 - b then (if f = 0 then 1 else if f = 2 then 7 else x.2.1 f i) else x.2.1 f i, x.2.2)
theorem bH_tkP {v : VV} {k b : Nat} {x : Bv} (h : bH v k x) : bH (tkP v k x.1 b) k (tkV x b) := by
  obtain ⟨h1, hn, h3, h4, h5, h6, h7⟩ := h
  refine ⟨by rw [tkP_far (by omega) (by omega)]; exact h1, hn, fun f i hf hi => ?_, by rw [tkP_far (by omega) (by omega)]; exact h4, by rw [tkP_far (by omega) (by omega)]; exact h5, by rw [tkP_far (by omega) (by omega)]; exact h6, by rw [tkP_far (by omega) (by omega)]; exact h7⟩
  have hi2 : i < x.1 := hi
  have e := h3 f i hf hi2
  show _ = if i = x.1 - b then _ else _
  rcases five hf with rfl | rfl | rfl | rfl | rfl <;> by_cases hb : i = x.1 - b <;> simp [tkP, va_up, upd, hb] <;> first | (rw [← hb]; exact e) | exact e
