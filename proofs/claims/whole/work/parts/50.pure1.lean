/-! PURE: common tails of sets of blocks -/
def tfB (B : Nat → Bv) (S a : Nat) : Nat → Nat → Int32 → Int32
  | 0, _, x => x
  | f + 1, b, x => tfB B S a f (b + 1) (if Nat.testBit S b = true then (if x ≤ tl (B a) (B b) then x else tl (B a) (B b)) else x)
def tfV (B : Nat → Bv) (c S : Nat) : Int32 := tfN (tfB B S (low S) (c - (low S + 1)) (low S + 1) 10)
theorem tfF_B (g : Nat → Int32) (S a : Nat) : ∀ (f b : Nat) (x : Int32), tfF g S a f b x = tfB (mw g) S a f b x := by
  intro f
  induction f with
  | zero => intro b x; rfl
  | succ f ih => intro b x; rw [tfF, tfB, ih]
theorem tfR_V (g : Nat → Int32) (c S : Nat) : tfR g c S = tfV (mw g) c S := by
  unfold tfR tfV
  rw [tfF_B]
theorem mn_le (x y : Int32) : mn x y = if x ≤ y then x else y := by
  unfold mn
  by_cases h : y < x
  · rw [if_pos h, if_neg (Int32.not_le.mpr h)]
  · rw [if_neg h, if_pos (Int32.not_lt.mp h)]
theorem tsF_some (v : VV) (p S a : Nat) : ∀ (f b : Nat) (x : Int32), tsF v p S f b (some a) x = tfB (pv v p) S a f b x := by
  intro f
  induction f with
  | zero => intro b x; rfl
  | succ f ih =>
    intro b x
    rw [tsF, tfB]
    by_cases h : Nat.testBit S b = true
    · rw [if_pos h, if_pos h]
      show tsF v p S f (b + 1) (some a) (mn x (tl (pv v p a) (pv v p b))) = _
      rw [ih, mn_le]
    · rw [if_neg h, if_neg h, ih]
theorem tsF_none (v : VV) (p S a : Nat) (ha : Nat.testBit S a = true) : ∀ (f b : Nat) (x : Int32), b ≤ a → a < b + f → (∀ i, b ≤ i → i < a → ¬ Nat.testBit S i = true) → tsF v p S f b none x = tsF v p S (b + f - (a + 1)) (a + 1) (some a) (v (kB p a) 5) := by
  intro f
  induction f with
  | zero => intro b x h1 h2; omega
  | succ f ih =>
    intro b x h1 h2 h3
    by_cases hb : b = a
    · subst hb
      rw [tsF, if_pos ha]
      show tsF v p S f (b + 1) (some b) (v (kB p b) 5) = _
      rw [show b + (f + 1) - (b + 1) = f by omega]
    · rw [tsF, if_neg (h3 b (Nat.le_refl b) (by omega)), ih (b + 1) x (by omega) (by omega) (fun i hi1 hi2 => h3 i (by omega) hi2), show b + 1 + f - (a + 1) = b + (f + 1) - (a + 1) by omega]
theorem tlF_le (x y : Bv) : ∀ (f t : Nat), t ≤ tlF x y f t ∧ tlF x y f t ≤ t + f := by
  intro f
  induction f with
  | zero => intro t; exact ⟨Nat.le_refl t, Nat.le_refl t⟩
  | succ f ih =>
    intro t
    unfold tlF
    split
    · have := ih (t + 1)
      omega
    · omega
theorem tl_cases (x y : Bv) : (tl x y = -1005 ∧ ¬ eqTb x y = true) ∨ (eqTb x y = true ∧ ∃ t, t ≤ x.1 ∧ t ≤ y.1 ∧ tl x y = nI t) := by
  by_cases h : eqTb x y = true
  · refine Or.inr ⟨h, tlF x y (min x.1 y.1) 0, ?_, ?_, by rw [tl, if_pos h]⟩
    · have := (tlF_le x y (min x.1 y.1) 0).2
      have := Nat.min_le_left x.1 y.1
      omega
    · have := (tlF_le x y (min x.1 y.1) 0).2
      have := Nat.min_le_right x.1 y.1
      omega
  · exact Or.inl ⟨by rw [tl, if_neg h], h⟩
theorem neg_le {t : Nat} (h : t ≤ 10) : (-1005 : Int32) ≤ nI t := by
  have : ∀ t, t < 11 → (-1005 : Int32) ≤ nI t := by decide +kernel
  exact this t (by omega)
theorem neg_nle {t : Nat} (h : t ≤ 10) : ¬ nI t ≤ (-1005 : Int32) := by
  have : ∀ t, t < 11 → ¬ nI t ≤ (-1005 : Int32) := by decide +kernel
  exact this t (by omega)
theorem nI_ne1005 {t : Nat} (h : t ≤ 10) : ¬ nI t = (-1005 : Int32) := by
  have : ∀ t, t < 11 → ¬ nI t = (-1005 : Int32) := by decide +kernel
  exact this t (by omega)
theorem n1005 : ¬ (0 : Int32) ≤ -1005 := by decide
theorem nI_ge0 {t : Nat} (h : t ≤ 10) : (0 : Int32) ≤ nI t := nI_pos' (by omega)
theorem fo_neg (B : Nat → Bv) (S a : Nat) (ha : (B a).1 ≤ 10) : ∀ (f b : Nat), tfB B S a f b (-1005) = -1005 := by
  intro f
  induction f with
  | zero => intro b; rfl
  | succ f ih =>
    intro b
    rw [tfB]
    have e : (if Nat.testBit S b = true then (if (-1005 : Int32) ≤ tl (B a) (B b) then (-1005 : Int32) else tl (B a) (B b)) else -1005) = -1005 := by
      by_cases h : Nat.testBit S b = true
      · rw [if_pos h]
        rcases tl_cases (B a) (B b) with h1 | ⟨-, t, h1, -, h2⟩
        · rw [h1.1]; rfl
        · rw [h2, if_pos (neg_le (by omega))]
      · rw [if_neg h]
    rw [e, ih]
/-- what a set's fold says: none, or a length that all members bear -/
theorem fo_ok (B : Nat → Bv) (S a : Nat) (ha : (B a).1 ≤ 10) : ∀ (f b m0 : Nat), m0 ≤ 10 → tfB B S a f b (nI m0) = -1005 ∨ ∃ m, m ≤ m0 ∧ tfB B S a f b (nI m0) = nI m ∧ ∀ i, b ≤ i → i < b + f → Nat.testBit S i = true → ∃ t, tl (B a) (B i) = nI t ∧ m ≤ t ∧ t ≤ (B i).1 ∧ t ≤ (B a).1 := by
  intro f
  induction f with
  | zero => intro b m0 h; exact Or.inr ⟨m0, Nat.le_refl _, rfl, fun i h1 h2 => by omega⟩
  | succ f ih =>
    intro b m0 h
    rw [tfB]
    by_cases hb : Nat.testBit S b = true
    · rw [if_pos hb]
      rcases tl_cases (B a) (B b) with h1 | ⟨-, t, h1, h3, h2⟩
      · rw [h1.1, if_neg (neg_nle h), fo_neg B S a ha]
        exact Or.inl rfl
      · rw [h2]
        have hmin : ∃ m1, m1 ≤ m0 ∧ m1 ≤ t ∧ (if nI m0 ≤ nI t then nI m0 else nI t) = nI m1 := by
          by_cases h4 : m0 ≤ t
          · exact ⟨m0, Nat.le_refl _, h4, if_pos ((nI_leI (by omega) (by omega)).mpr h4)⟩
          · exact ⟨t, by omega, Nat.le_refl _, if_neg (fun e => h4 ((nI_leI (by omega) (by omega)).mp e))⟩
        obtain ⟨m1, g1, g2, g3⟩ := hmin
        rw [g3]
        rcases ih (b + 1) m1 (by omega) with h5 | ⟨m, h5, h6, h7⟩
        · exact Or.inl h5
        · refine Or.inr ⟨m, by omega, h6, fun i hi1 hi2 hi3 => ?_⟩
          by_cases hib : i = b
          · subst hib
            exact ⟨t, h2, by omega, h3, h1⟩
          · exact h7 i (by omega) (by omega) hi3
    · rw [if_neg hb]
      rcases ih (b + 1) m0 h with h5 | ⟨m, h5, h6, h7⟩
      · exact Or.inl h5
      · refine Or.inr ⟨m, h5, h6, fun i hi1 hi2 hi3 => ?_⟩
        by_cases hib : i = b
        · subst hib; exact absurd hi3 hb
        · exact h7 i (by omega) (by omega) hi3
/-- if all members bear l, so does the fold -/
theorem fo_ge (B : Nat → Bv) (S a l : Nat) (ha : (B a).1 ≤ 10) : ∀ (f b m0 : Nat), m0 ≤ 10 → l ≤ m0 → (∀ i, b ≤ i → i < b + f → Nat.testBit S i = true → ∃ t, tl (B a) (B i) = nI t ∧ l ≤ t ∧ t ≤ 10) → ∃ m, l ≤ m ∧ m ≤ m0 ∧ tfB B S a f b (nI m0) = nI m := by
  intro f
  induction f with
  | zero => intro b m0 h hl _; exact ⟨m0, hl, Nat.le_refl _, rfl⟩
  | succ f ih =>
    intro b m0 h hl hall
    rw [tfB]
    by_cases hb : Nat.testBit S b = true
    · rw [if_pos hb]
      obtain ⟨t, h2, h3, h4⟩ := hall b (Nat.le_refl b) (by omega) hb
      rw [h2]
      have hmin : ∃ m1, m1 ≤ m0 ∧ l ≤ m1 ∧ (if nI m0 ≤ nI t then nI m0 else nI t) = nI m1 := by
        by_cases h4 : m0 ≤ t
        · exact ⟨m0, Nat.le_refl _, hl, if_pos ((nI_leI (by omega) (by omega)).mpr h4)⟩
        · exact ⟨t, by omega, h3, if_neg (fun e => h4 ((nI_leI (by omega) (by omega)).mp e))⟩
      obtain ⟨m1, g1, g2, g3⟩ := hmin
      rw [g3]
      obtain ⟨m, k1, k2, k3⟩ := ih (b + 1) m1 (by omega) g2 (fun i hi1 hi2 hi3 => hall i (by omega) (by omega) hi3)
      exact ⟨m, k1, by omega, k3⟩
    · rw [if_neg hb]
      exact ih (b + 1) m0 h hl (fun i hi1 hi2 hi3 => hall i (by omega) (by omega) hi3)
/-- with a member ahead, the start doesn't matter, if it is no less than every tail -/
theorem fo_start (B : Nat → Bv) (S a : Nat) (ha : (B a).1 ≤ 10) : ∀ (f b m0 m1 : Nat), (B a).1 ≤ m0 → (B a).1 ≤ m1 → m0 ≤ 10 → m1 ≤ 10 → (∃ i, b ≤ i ∧ i < b + f ∧ Nat.testBit S i = true) → tfB B S a f b (nI m0) = tfB B S a f b (nI m1) := by
  intro f
  induction f with
  | zero => intro b m0 m1 _ _ _ _ h; obtain ⟨i, h1, h2, -⟩ := h; omega
  | succ f ih =>
    intro b m0 m1 h0 h1 g0 g1 hex
    rw [tfB, tfB]
    by_cases hb : Nat.testBit S b = true
    · rw [if_pos hb, if_pos hb]
      congr 1
      rcases tl_cases (B a) (B b) with h2 | ⟨-, t, h2, -, h3⟩
      · rw [h2.1, if_neg (neg_nle g0), if_neg (neg_nle g1)]
      · rw [h3]
        by_cases e0 : m0 = t
        · by_cases e1 : m1 = t
          · rw [e0, e1]
          · rw [e0, if_pos (Int32.le_refl _), if_neg (fun e => by have := (nI_leI (by omega) (by omega)).mp e; omega)]
        · by_cases e1 : m1 = t
          · rw [e1, if_neg (fun e => by have := (nI_leI (by omega) (by omega)).mp e; omega), if_pos (Int32.le_refl _)]
          · rw [if_neg (fun e => by have := (nI_leI (by omega) (by omega)).mp e; omega), if_neg (fun e => by have := (nI_leI (by omega) (by omega)).mp e; omega)]
    · rw [if_neg hb, if_neg hb]
      obtain ⟨i, i1, i2, i3⟩ := hex
      have : i ≠ b := fun e => hb (e ▸ i3)
      exact ih (b + 1) m0 m1 h0 h1 g0 g1 ⟨i, by omega, by omega, i3⟩
/-! a set with two members -/
theorem popF_zero (S : Nat) : ∀ (f b n : Nat), (∀ i, b ≤ i → i < b + f → ¬ Nat.testBit S i = true) → popF S f b n = n := by
  intro f
  induction f with
  | zero => intro b n _; rfl
  | succ f ih =>
    intro b n h
    have h1 : S / 2 ^ b % 2 = 0 := by
      have := mt tb_iff.mpr (h b (Nat.le_refl b) (by omega))
      omega
    rw [popF, h1, Nat.add_zero]
    exact ih (b + 1) n (fun i h1 h2 => h i (by omega) (by omega))
theorem popF_one (S a : Nat) : ∀ (f b n : Nat), (∀ i, b ≤ i → i < b + f → i ≠ a → ¬ Nat.testBit S i = true) → popF S f b n ≤ n + 1 := by
  intro f
  induction f with
  | zero => intro b n _; unfold popF; omega
  | succ f ih =>
    intro b n h
    rw [popF]
    by_cases hb : b = a
    · have h2 : S / 2 ^ b % 2 < 2 := Nat.mod_lt _ (by omega)
      rw [popF_zero S f (b + 1) _ (fun i h1 h2 => h i (by omega) (by omega) (by omega))]
      omega
    · have h1 : S / 2 ^ b % 2 = 0 := by
        have := mt tb_iff.mpr (h b (Nat.le_refl b) (by omega) hb)
        omega
      rw [h1, Nat.add_zero]
      exact ih (b + 1) n (fun i h1 h2 => h i (by omega) (by omega))
theorem two_ex {S c : Nat} (hp : 2 ≤ pop S) (h : S < 2 ^ c) (hc : c ≤ 12) : ∃ i, low S < i ∧ i < c ∧ Nat.testBit S i = true := by
  have h0 := pop_0 (S := S) (by omega)
  have hL := low_ok h0 h hc
  by_cases hex : ∃ i, low S < i ∧ i < c ∧ Nat.testBit S i = true
  · exact hex
  · have h1 : pop S ≤ 0 + 1 := popF_one S (low S) 12 0 0 (fun i _ hi hne hb => by
      rcases Nat.lt_or_ge i (low S) with h2 | h2
      · exact hL.2.2 i h2 hb
      · rcases Nat.lt_or_ge i c with h3 | h3
        · exact hex ⟨i, by omega, h3, hb⟩
        · have : S < 2 ^ i := Nat.lt_of_lt_of_le h (Nat.pow_le_pow_right (by omega) h3)
          rw [Nat.testBit_lt_two_pow this] at hb
          cases hb)
    omega
/-- the class's fold is the same -/
theorem tsF_V {v : VV} {p c S : Nat} (hW : PW v p c) (hp : 2 ≤ pop S) (h : S < 2 ^ c) : tsF v p S c 0 none (-1005) = tfV (pv v p) c S := by
  have h0 := pop_0 (S := S) (by omega)
  have hL := low_ok h0 h hW.2.1
  have hna := hW.2.2 _ hL.1
  obtain ⟨i, i1, i2, i3⟩ := two_ex hp h hW.2.1
  rw [tsF_none v p S (low S) hL.2.1 c 0 _ (by omega) (by omega) (fun i _ hi => hL.2.2 i hi), Nat.zero_add, tsF_some, hna.1]
  have e := fo_start (pv v p) S (low S) hna.2 (c - (low S + 1)) (low S + 1) (nb v p (low S)) 10 (Nat.le_refl _) hna.2 hna.2 (by omega) ⟨i, by omega, by omega, i3⟩
  rw [e]
  unfold tfV tfN
  rcases fo_ok (pv v p) S (low S) hna.2 (c - (low S + 1)) (low S + 1) 10 (by omega) with h1 | ⟨m, h1, h2, -⟩
  · rw [show (10 : Int32) = nI 10 from rfl, h1, if_neg n1005]
  · rw [show (10 : Int32) = nI 10 from rfl, h2, if_pos (nI_ge0 (by omega))]
/-- what a set's common tail length says -/
theorem tfV_ok {B : Nat → Bv} {c S : Nat} (hN : ∀ b, b < c → (B b).1 ≤ 10) (hp : 2 ≤ pop S) (h : S < 2 ^ c) (hc : c ≤ 12) : tfV B c S = -1005 ∨ ∃ m, m ≤ 10 ∧ tfV B c S = nI m ∧ (∀ b, b < c → Nat.testBit S b = true → m ≤ (B b).1 ∧ (b ≠ low S → ∃ t, tl (B (low S)) (B b) = nI t ∧ m ≤ t ∧ t ≤ 10)) := by
  have h0 := pop_0 (S := S) (by omega)
  have hL := low_ok h0 h hc
  obtain ⟨i, i1, i2, i3⟩ := two_ex hp h hc
  unfold tfV tfN
  rw [show (10 : Int32) = nI 10 from rfl]
  rcases fo_ok B S (low S) (hN _ hL.1) (c - (low S + 1)) (low S + 1) 10 (by omega) with h1 | ⟨m, h1, h2, h3⟩
  · rw [h1, if_neg n1005]
    exact Or.inl rfl
  · rw [h2, if_pos (nI_ge0 (by omega))]
    refine Or.inr ⟨m, h1, rfl, fun b hb hbS => ?_⟩
    by_cases hbl : b = low S
    · obtain ⟨t, -, t2, -, t4⟩ := h3 i (by omega) (by omega) i3
      rw [hbl]
      exact ⟨by omega, fun e => absurd rfl e⟩
    · have hlt : low S < b := by
        rcases Nat.lt_or_ge (low S) b with g | g
        · exact g
        · exact absurd hbS (hL.2.2 b (by omega))
      obtain ⟨t, t1, t2, t3, -⟩ := h3 b (by omega) (by omega) hbS
      have := hN b hb
      exact ⟨by omega, fun _ => ⟨t, t1, t2, by omega⟩⟩
theorem inb_toInt {x : Int32} {n : Nat} (hn : n < 2 ^ 31) : inb x n = true ↔ 0 ≤ x.toInt ∧ x.toInt < (n : Int) := by
  rw [inb_iff, Int32.lt_iff_toInt_lt, Int32.le_iff_toInt_le, nI_toInt hn]
  have : (0 : Int32).toInt = 0 := rfl
  omega
theorem shr0 {x : Int32} {c : Nat} (hc : c ≤ 12) : (x >>> (nI c &&& 31)) = 0 ↔ inb x (2 ^ c) = true := by
  have hp := pow12 hc
  rw [inb_toInt (by omega)]
  have h1 : ∀ c, c < 13 → ((nI c &&& 31).toBitVec.smod 32).toNat = c := by decide +kernel
  have h2 := pk_shr x (nI c &&& 31) c (h1 c (by omega))
  have h3 : (x >>> (nI c &&& 31)) = 0 ↔ (x >>> (nI c &&& 31)).toInt = 0 := ⟨fun e => by rw [e]; rfl, fun e => Int32.toInt_inj.mp e⟩
  rw [h3, h2, Int.shiftRight_eq_div_pow]
  have hcs : c = 0 ∨ c = 1 ∨ c = 2 ∨ c = 3 ∨ c = 4 ∨ c = 5 ∨ c = 6 ∨ c = 7 ∨ c = 8 ∨ c = 9 ∨ c = 10 ∨ c = 11 ∨ c = 12 := by omega
  rcases hcs with rfl | rfl | rfl | rfl | rfl | rfl | rfl | rfl | rfl | rfl | rfl | rfl | rfl <;> (first | omega | (simp; omega))
