/-! merging a set: the value that both come to -/
def cutV (B : Nat → Bv) (S m : Nat) (t : Int32) (b : Nat) : Bv := if Nat.testBit S b = true then tmV (ctV (B b) m) 0 t 0 0 else B b
def nN (B : Nat → Bv) (S : Nat) : Nat → Nat → Bv → Bv
  | 0, _, y => y
  | f + 1, b, y => nN B S f (b + 1) (if Nat.testBit S b = true then unV y (B b) else y)
def nC (B : Nat → Bv) (S m : Nat) : Nat → Nat → Bool → Bv → Bv
  | 0, _, _, y => y
  | f + 1, b, fl, y => if Nat.testBit S b = true then nC B S m f (b + 1) true (if fl = true then unV y (B b) else tailV (B b) m) else nC B S m f (b + 1) fl y
theorem un_tail (x : Bv) (m : Nat) : unV (tailV x m) x = tailV x m := by
  unfold unV tailV
  refine Prod.ext rfl (Prod.ext (funext fun f => funext fun i => ?_) rfl)
  show (if f = 4 then _ else _) = _
  by_cases h : f = 4
  · rw [if_pos h, h]; exact Int32.or_self
  · rw [if_neg h]
theorem nC_t {B : Nat → Bv} {S m : Nat} : ∀ (f b : Nat) (y : Bv), nC B S m f b true y = nN B S f b y := by
  intro f
  induction f with
  | zero => intro b y; rfl
  | succ f ih =>
    intro b y
    rw [nC, nN]
    by_cases h : Nat.testBit S b = true
    · rw [if_pos h, if_pos h, ih, if_pos rfl]
    · rw [if_neg h, if_neg h, ih]
theorem nC_f {B : Nat → Bv} {S m a : Nat} (ha : Nat.testBit S a = true) : ∀ (f b : Nat) (y : Bv), b ≤ a → a < b + f → (∀ i, b ≤ i → i < a → ¬ Nat.testBit S i = true) → nC B S m f b false y = nN B S f b (tailV (B a) m) := by
  intro f
  induction f with
  | zero => intro b y h1 h2; omega
  | succ f ih =>
    intro b y h1 h2 h3
    rw [nC, nN]
    by_cases h : Nat.testBit S b = true
    · have hb : b = a := by
        by_cases e : b = a
        · exact e
        · exact absurd h (h3 b (Nat.le_refl b) (by omega))
      subst hb
      rw [if_pos h, if_pos h, if_neg (by simp), nC_t, un_tail]
    · have hb : b ≠ a := fun e => h (by rw [e]; exact ha)
      rw [if_neg h, if_neg h, ih _ _ (by omega) (by omega) (fun i hi hi2 => h3 i (by omega) hi2)]
/-! the blocks of the class -/
def mgI (v : VV) (p c : Nat) (B : Nat → Bv) (S m : Nat) (b : Nat) (fl : Bool) (y : Bv) : Prop := (∀ b', b' < c → bH v (kB p b') (if b' < b then cutV B S m (nI c) b' else B b')) ∧ bH v (kB p c) y ∧ y.1 = (if fl = true then m else 0)
theorem mgI_step {v : VV} {p c : Nat} {B : Nat → Bv} {S m b : Nat} {fl : Bool} {y : Bv} (h : mgI v p c B S m b fl y) (hb : b < c) (hB : Nat.testBit S b = true) (hm : m ≤ (B b).1) : mgI (mgS v p c m b fl) p c B S m (b + 1) true (if fl = true then unV y (B b) else tailV (B b) m) := by
  obtain ⟨h1, h2, h3⟩ := h
  have hbb := h1 b hb
  rw [if_neg (by omega)] at hbb
  have hn : nb v p b = (B b).1 := bH_nb hbb
  have sep : kB p c + 6 < kB p b ∨ kB p b + 6 < kB p c := by unfold kB; omega
  unfold mgS
  rw [hn]
  have key : ∀ w : VV, w = (if fl = true then unF (kB p c) (kB p b) m (B b).1 m 1 v else apT v (kB p c) (kB p b) 0 (B b).1 m) → bH w (kB p c) (if fl = true then unV y (B b) else tailV (B b) m) ∧ ∀ q, (kB p c + 6 < q ∨ q < kB p c) → w q = v q := by
    intro w hw
    cases fl with
    | true =>
      rw [if_pos rfl] at hw h3
      rw [if_pos rfl]
      subst hw
      refine ⟨?_, fun q hq => unF_far (by omega) _ _ _⟩
      have := bH_unF h2 hbb sep (by omega)
      rw [h3] at this
      exact this
    | false =>
      rw [if_neg (by simp)] at hw h3
      rw [if_neg (by simp)]
      subst hw
      exact ⟨bH_apT hbb sep (by rw [h2.1, h3]) hm, fun q hq => apT_far hq⟩
  obtain ⟨k1, k2⟩ := key _ rfl
  refine ⟨fun b' hb' => ?_, k1.far (fun q q1 q2 => rpJ_far (by omega)), ?_⟩
  · by_cases e : b' = b
    · subst e
      rw [if_pos (show b' < b' + 1 by omega)]
      unfold cutV
      rw [if_pos hB]
      exact bH_rpJ (hbb.far (fun q q1 q2 => k2 q (by omega)))
    · have := h1 b' hb'
      have e2 : (if b' < b + 1 then cutV B S m (nI c) b' else B b') = if b' < b then cutV B S m (nI c) b' else B b' := by
        by_cases l : b' < b
        · rw [if_pos l, if_pos (by omega)]
        · rw [if_neg l, if_neg (by omega)]
      rw [e2]
      refine this.far (fun q q1 q2 => ?_)
      rw [rpJ_far (by unfold kB at *; omega)]
      exact k2 q (by unfold kB at *; omega)
  · rw [if_pos rfl]
    cases fl with
    | true => exact h3
    | false => rfl
theorem mgI_all {p c : Nat} {B : Nat → Bv} {S m : Nat} (hm : ∀ b, b < c → Nat.testBit S b = true → m ≤ (B b).1) : ∀ (f b : Nat) (fl : Bool) (y : Bv) (v : VV), b + f = c → mgI v p c B S m b fl y → (∀ b', b' < c → bH (mgF p c S m f b fl v) (kB p b') (cutV B S m (nI c) b')) ∧ bH (mgF p c S m f b fl v) (kB p c) (nC B S m f b fl y) := by
  intro f
  induction f with
  | zero =>
    intro b fl y v hb h
    rw [mgF, nC]
    refine ⟨fun b' hb' => ?_, h.2.1⟩
    have := h.1 b' hb'
    rw [if_pos (by omega)] at this
    exact this
  | succ f ih =>
    intro b fl y v hb h
    rw [mgF, nC]
    by_cases hB : Nat.testBit S b = true
    · rw [if_pos hB, if_pos hB]
      exact ih _ _ _ _ (by omega) (mgI_step h (by omega) hB (hm b (by omega) hB))
    · rw [if_neg hB, if_neg hB]
      refine ih _ _ _ _ (by omega) ⟨fun b' hb' => ?_, h.2.1, h.2.2⟩
      have := h.1 b' hb'
      by_cases e : b' = b
      · subst e
        rw [if_neg (by omega)] at this
        rw [if_pos (by omega)]
        unfold cutV
        rw [if_neg hB]
        exact this
      · by_cases l : b' < b
        · rw [if_pos l] at this; rw [if_pos (by omega)]; exact this
        · rw [if_neg l] at this; rw [if_neg (by omega)]; exact this
theorem mgF_far {p c S m q : Nat} (hq : ∀ b, b ≤ c → kB p b + 6 < q ∨ q < kB p b) : ∀ (f b : Nat) (fl : Bool) (v : VV), b + f = c → mgF p c S m f b fl v q = v q := by
  intro f
  induction f with
  | zero => intro b fl v _; rfl
  | succ f ih =>
    intro b fl v hb
    rw [mgF]
    by_cases hB : Nat.testBit S b = true
    · rw [if_pos hB, ih _ _ _ (by omega), mgS_far (hq b (by omega)) (hq c (by omega))]
    · rw [if_neg hB, ih _ _ _ (by omega)]
/-! the blocks of the reference -/
def mmJ (g : Nat → Int32) (c : Nat) (B : Nat → Bv) (S m : Nat) (b : Nat) (y : Bv) : Prop := (∀ b', b' < c → mH g b' (if b' < b then cutV B S m (nI c) b' else B b')) ∧ mH g c y ∧ y.1 = m
theorem mmJ_step {v : VV} {c : Nat} {B : Nat → Bv} {S m b : Nat} {y : Bv} (h : mmJ (v 271) c B S m b y) (hb : b < c) (hB : Nat.testBit S b = true) (hm : m ≤ (B b).1) : mmJ (mmS v c m b 271) c B S m (b + 1) (unV y (B b)) := by
  obtain ⟨h1, h2, h3⟩ := h
  have hbb := h1 b hb
  rw [if_neg (by omega)] at hbb
  have hn : mnb (v 271) b = (B b).1 := mH_mnb hbb
  have h10 : m ≤ 10 := by have := h2.2.1; omega
  have hn10 := hbb.2.1
  unfold mmS
  rw [hn]
  have k1 := mH_muF h2 hbb (by omega) (by omega)
  rw [h3] at k1
  refine ⟨fun b' hb' => ?_, k1.far (fun i i1 i2 => mcut_at hn10 (by omega)), h3⟩
  by_cases e : b' = b
  · subst e
    rw [if_pos (by omega)]
    unfold cutV
    rw [if_pos hB]
    exact mH_cut (hbb.far (fun i i1 i2 => muF_at (by omega) _ _ _ (by omega)))
  · have := h1 b' hb'
    have e2 : (if b' < b + 1 then cutV B S m (nI c) b' else B b') = if b' < b then cutV B S m (nI c) b' else B b' := by
      by_cases l : b' < b
      · rw [if_pos l, if_pos (by omega)]
      · rw [if_neg l, if_neg (by omega)]
    rw [e2]
    refine this.far (fun i i1 i2 => ?_)
    rw [mcut_at hn10 (by omega), muF_at (by omega) _ _ _ (by omega)]
theorem mmJ_all {c : Nat} {B : Nat → Bv} {S m : Nat} (hm : ∀ b, b < c → Nat.testBit S b = true → m ≤ (B b).1) : ∀ (f b : Nat) (y : Bv) (v : VV), b + f = c → mmJ (v 271) c B S m b y → (∀ b', b' < c → mH (mmF c S m f b v 271) b' (cutV B S m (nI c) b')) ∧ mH (mmF c S m f b v 271) c (nN B S f b y) := by
  intro f
  induction f with
  | zero =>
    intro b y v hb h
    rw [mmF, nN]
    refine ⟨fun b' hb' => ?_, h.2.1⟩
    have := h.1 b' hb'
    rw [if_pos (by omega)] at this
    exact this
  | succ f ih =>
    intro b y v hb h
    rw [mmF, nN]
    by_cases hB : Nat.testBit S b = true
    · rw [if_pos hB, if_pos hB]
      exact ih _ _ _ (by omega) (mmJ_step h (by omega) hB (hm b (by omega) hB))
    · rw [if_neg hB, if_neg hB]
      refine ih _ _ _ (by omega) ⟨fun b' hb' => ?_, h.2.1, h.2.2⟩
      have := h.1 b' hb'
      by_cases e : b' = b
      · subst e
        rw [if_neg (by omega)] at this
        rw [if_pos (by omega)]
        unfold cutV
        rw [if_neg hB]
        exact this
      · by_cases l : b' < b
        · rw [if_pos l] at this; rw [if_pos (by omega)]; exact this
        · rw [if_neg l] at this; rw [if_neg (by omega)]; exact this
