/-! PURE: savings as whole numbers; the best set -/
theorem ofI_toInt {z : Int} (h1 : -1000 ≤ z) (h2 : z ≤ 1000) : (Int32.ofInt z).toInt = z := Int32.toInt_ofInt_of_le (by omega) (by omega)
theorem ofI_lt {x y : Int} (h1 : -1000 ≤ x) (h2 : x ≤ 1000) (h3 : -1000 ≤ y) (h4 : y ≤ 1000) : Int32.ofInt x < Int32.ofInt y ↔ x < y := by rw [Int32.lt_iff_toInt_lt, ofI_toInt h1 h2, ofI_toInt h3 h4]
theorem ofI_eq {x y : Int} (h1 : -1000 ≤ x) (h2 : x ≤ 1000) (h3 : -1000 ≤ y) (h4 : y ≤ 1000) : Int32.ofInt x = Int32.ofInt y ↔ x = y := ⟨fun e => by have := congrArg Int32.toInt e; rw [ofI_toInt h1 h2, ofI_toInt h3 h4] at this; exact this, fun e => by rw [e]⟩
theorem nI_ofI (n : Nat) : nI n = Int32.ofInt (n : Int) := (Int32.ofInt_eq_ofNat (n := n)).symm
def sI (m l t j : Nat) : Int := (m : Int) * ((l : Int) + t - j) - (l + t)
theorem sv_I (m l t j : Nat) : sv (nI m) (nI l) (nI t) (nI j) = Int32.ofInt (sI m l t j) := by
  unfold sv sI
  rw [nI_ofI, nI_ofI, nI_ofI, nI_ofI, show (1 : Int32) = Int32.ofInt 1 from rfl, ← Int32.ofInt_sub, ← Int32.ofInt_add, ← Int32.ofInt_mul, ← Int32.ofInt_mul, ← Int32.ofInt_sub]
  congr 1
  rw [Int.sub_mul, Int.mul_sub]
  omega
theorem mul_b {m d : Int} (h1 : 0 ≤ m) (h2 : m ≤ 12) (h3 : -5 ≤ d) (h4 : d ≤ 15) : -60 ≤ m * d ∧ m * d ≤ 180 := by
  have hm : m = 0 ∨ m = 1 ∨ m = 2 ∨ m = 3 ∨ m = 4 ∨ m = 5 ∨ m = 6 ∨ m = 7 ∨ m = 8 ∨ m = 9 ∨ m = 10 ∨ m = 11 ∨ m = 12 := by omega
  rcases hm with h | h | h | h | h | h | h | h | h | h | h | h | h <;> (rw [h]; omega)
theorem sI_b {m l t j : Nat} (hm : m ≤ 12) (hl : l ≤ 10) (ht : t ≤ 5) (hj : j ≤ 5) : -1000 ≤ sI m l t j ∧ sI m l t j ≤ 1000 := by
  unfold sI
  have := mul_b (m := (m : Int)) (d := (l : Int) + t - j) (by omega) (by omega) (by omega) (by omega)
  omega
/-- a merge that saves gains with each further member -/
theorem sI_mono {m m' l t j : Nat} (h : 0 < sI m l t j) (hm : m < m') : sI m l t j < sI m' l t j := by
  unfold sI at *
  have hd : (0 : Int) < (l : Int) + t - j := by
    by_cases h1 : (0 : Int) < (l : Int) + t - j
    · exact h1
    · have := Int.mul_nonneg (show (0 : Int) ≤ (m : Int) by omega) (show (0 : Int) ≤ -((l : Int) + t - j) by omega)
      rw [Int.mul_neg] at this
      omega
  have := Int.mul_lt_mul_of_pos_right (show (m : Int) < (m' : Int) by omega) hd
  omega
theorem sI_len {m l l' t j : Nat} (hm : 1 ≤ m) (hl : l ≤ l') : sI m l t j ≤ sI m l' t j := by
  unfold sI
  obtain ⟨k, rfl⟩ : ∃ k, m = k + 1 := ⟨m - 1, by omega⟩
  have e : ∀ z : Int, ((k + 1 : Nat) : Int) * z = (k : Int) * z + z := fun z => by
    rw [show ((k + 1 : Nat) : Int) = (k : Int) + 1 by omega, Int.add_mul, Int.one_mul]
  rw [e, e]
  have := Int.mul_le_mul_of_nonneg_left (show (l : Int) + t - j ≤ (l' : Int) + t - j by omega) (show (0 : Int) ≤ (k : Int) by omega)
  omega
theorem sI_one {l t j : Nat} : sI 1 l t j ≤ 0 := by unfold sI; omega
/-! ones of sets -/
theorem popF_mono (S T : Nat) : ∀ (f b n k : Nat), n ≤ k → (∀ i, b ≤ i → i < b + f → Nat.testBit S i = true → Nat.testBit T i = true) → popF S f b n ≤ popF T f b k := by
  intro f
  induction f with
  | zero => intro b n k h _; exact h
  | succ f ih =>
    intro b n k h hs
    rw [popF, popF]
    refine ih (b + 1) _ _ ?_ (fun i h1 h2 => hs i (by omega) (by omega))
    have h2 : S / 2 ^ b % 2 < 2 := Nat.mod_lt _ (by omega)
    by_cases hb : Nat.testBit S b = true
    · have := tb_iff.mp (hs b (Nat.le_refl b) (by omega) hb)
      omega
    · have := mt tb_iff.mpr hb
      omega
theorem popF_lt (S T a : Nat) (ha : Nat.testBit T a = true) (hna : ¬ Nat.testBit S a = true) : ∀ (f b n k : Nat), n ≤ k → b ≤ a → a < b + f → (∀ i, b ≤ i → i < b + f → Nat.testBit S i = true → Nat.testBit T i = true) → popF S f b n < popF T f b k := by
  intro f
  induction f with
  | zero => intro b n k _ h1 h2; omega
  | succ f ih =>
    intro b n k h h1 h2 hs
    rw [popF, popF]
    have h3 : S / 2 ^ b % 2 < 2 := Nat.mod_lt _ (by omega)
    by_cases hb : b = a
    · subst hb
      have e1 := tb_iff.mp ha
      have e2 := mt tb_iff.mpr hna
      have := popF_mono S T f (b + 1) (n + S / 2 ^ b % 2 + 1) (k + T / 2 ^ b % 2) (by omega) (fun i h1 h2 => hs i (by omega) (by omega))
      have e3 : ∀ (f b n : Nat), popF S f b (n + 1) = popF S f b n + 1 := by
        intro f
        induction f with
        | zero => intro b n; rfl
        | succ f ih2 => intro b n; rw [popF, popF, show n + 1 + S / 2 ^ b % 2 = (n + S / 2 ^ b % 2) + 1 by omega, ih2]
      rw [e3] at this
      omega
    · refine ih (b + 1) _ _ ?_ (by omega) (by omega) (fun i h1 h2 => hs i (by omega) (by omega))
      by_cases hbs : Nat.testBit S b = true
      · have := tb_iff.mp (hs b (Nat.le_refl b) (by omega) hbs)
        omega
      · have := mt tb_iff.mpr hbs
        omega
theorem bit_lt {S c i : Nat} (h : S < 2 ^ c) (hb : Nat.testBit S i = true) : i < c := by
  rcases Nat.lt_or_ge i c with h1 | h1
  · exact h1
  · have : S < 2 ^ i := Nat.lt_of_lt_of_le h (Nat.pow_le_pow_right (by omega) h1)
    rw [Nat.testBit_lt_two_pow this] at hb
    cases hb
theorem sub_cases {S T c : Nat} (hS : S < 2 ^ c) (hT : T < 2 ^ c) (hc : c ≤ 12) (h : ∀ i, Nat.testBit S i = true → Nat.testBit T i = true) : S = T ∨ pop S < pop T := by
  by_cases he : ∃ a, Nat.testBit T a = true ∧ ¬ Nat.testBit S a = true
  · obtain ⟨a, h1, h2⟩ := he
    have := bit_lt hT h1
    exact Or.inr (popF_lt S T a h1 h2 12 0 0 0 (Nat.le_refl 0) (by omega) (by omega) (fun i _ _ hi => h i hi))
  · refine Or.inl (Nat.eq_of_testBit_eq fun i => ?_)
    cases hs : Nat.testBit S i with
    | true => rw [h i hs]
    | false =>
      cases ht : Nat.testBit T i with
      | false => rfl
      | true => exact absurd ⟨i, ht, by rw [hs]; decide⟩ he
/-! all blocks from a on that share a tail of length l with it -/
def shB (B : Nat → Bv) (a l : Nat) : Nat → Nat → Nat → Nat
  | 0, _, S => S
  | f + 1, b, S => shB B a l f (b + 1) (if tl (B a) (B b) < nI l then S else S ||| 2 ^ b)
def sbS (B : Nat → Bv) (c a l : Nat) : Nat := shB B a l (c - (a + 1)) (a + 1) (2 ^ a)
theorem shB_bit (B : Nat → Bv) (a l i : Nat) : ∀ (f b S : Nat), Nat.testBit (shB B a l f b S) i = true ↔ (Nat.testBit S i = true ∨ (b ≤ i ∧ i < b + f ∧ ¬ tl (B a) (B i) < nI l)) := by
  intro f
  induction f with
  | zero => intro b S; rw [shB]; constructor <;> intro h; exact Or.inl h; rcases h with h | h; exact h; omega
  | succ f ih =>
    intro b S
    rw [shB, ih]
    by_cases hb : tl (B a) (B b) < nI l
    · rw [if_pos hb]
      constructor
      · rintro (h | h)
        · exact Or.inl h
        · exact Or.inr ⟨by omega, by omega, h.2.2⟩
      · rintro (h | h)
        · exact Or.inl h
        · by_cases hib : i = b
          · subst hib; exact absurd hb h.2.2
          · exact Or.inr ⟨by omega, by omega, h.2.2⟩
    · rw [if_neg hb, Nat.testBit_or, Nat.testBit_two_pow]
      constructor
      · rintro (h | h)
        · rw [Bool.or_eq_true, decide_eq_true_iff] at h
          rcases h with h | h
          · exact Or.inl h
          · subst h; exact Or.inr ⟨by omega, by omega, hb⟩
        · exact Or.inr ⟨by omega, by omega, h.2.2⟩
      · rintro (h | h)
        · exact Or.inl (by rw [h]; rfl)
        · by_cases hib : i = b
          · subst hib; exact Or.inl (by simp)
          · exact Or.inr ⟨by omega, by omega, h.2.2⟩
theorem nlt_tl {x y : Bv} {l : Nat} (hx : x.1 ≤ 10) (hl : l ≤ 10) : (¬ tl x y < nI l) ↔ ∃ t, tl x y = nI t ∧ l ≤ t ∧ t ≤ x.1 ∧ t ≤ y.1 := by
  rcases tl_cases x y with h | ⟨-, t, h1, h2, h3⟩
  · rw [h.1]
    constructor
    · intro e
      exact absurd (Int32.not_lt.mp e) (neg_nle hl)
    · rintro ⟨t, e, -, h4, -⟩
      exact absurd e.symm (nI_ne1005 (by omega))
  · rw [h3]
    constructor
    · intro e
      refine ⟨t, rfl, ?_, h1, h2⟩
      have := (nI_leI (by omega) (by omega)).mp (Int32.not_lt.mp e)
      exact this
    · rintro ⟨t', e, h4, h5, -⟩
      have := (nI_eq (by omega) (by omega)).mp e
      subst this
      exact Int32.not_lt.mpr ((nI_leI (by omega) (by omega)).mpr h4)
theorem sbS_bit {B : Nat → Bv} {c a l i : Nat} (hac : a < c) : Nat.testBit (sbS B c a l) i = true ↔ (i = a ∨ (a < i ∧ i < c ∧ ¬ tl (B a) (B i) < nI l)) := by
  unfold sbS
  rw [shB_bit, Nat.testBit_two_pow, decide_eq_true_iff]
  constructor
  · rintro (h | h)
    · exact Or.inl h.symm
    · exact Or.inr ⟨by omega, by omega, h.2.2⟩
  · rintro (h | h)
    · exact Or.inl h.symm
    · exact Or.inr ⟨by omega, by omega, h.2.2⟩
theorem sbS_lt {B : Nat → Bv} {c a l : Nat} (hac : a < c) : sbS B c a l < 2 ^ c := by
  refine Nat.lt_pow_two_of_testBit _ (fun i hi => ?_)
  cases h : Nat.testBit (sbS B c a l) i with
  | false => rfl
  | true =>
    rcases (sbS_bit hac).mp h with h1 | h1
    · omega
    · omega
theorem sbS_pos {B : Nat → Bv} {c a l : Nat} (hac : a < c) : 0 < sbS B c a l := by
  rcases Nat.eq_zero_or_pos (sbS B c a l) with h | h
  · have := (sbS_bit (B := B) (l := l) (i := a) hac).mpr (Or.inl rfl)
    rw [h, Nat.zero_testBit] at this
    cases this
  · exact h
theorem sbS_low {B : Nat → Bv} {c a l : Nat} (hac : a < c) (hc : c ≤ 12) : low (sbS B c a l) = a := by
  have hL := low_ok (sbS_pos (B := B) (l := l) hac) (sbS_lt hac) hc
  have h1 : Nat.testBit (sbS B c a l) a = true := (sbS_bit hac).mpr (Or.inl rfl)
  rcases Nat.lt_trichotomy (low (sbS B c a l)) a with h | h | h
  · rcases (sbS_bit hac).mp hL.2.1 with h2 | h2
    · exact h2
    · omega
  · exact h
  · exact absurd h1 (hL.2.2 a h)
theorem sbS_pop {B : Nat → Bv} {c a l : Nat} (hac : a < c) (hc : c ≤ 12) : 1 ≤ pop (sbS B c a l) := by
  have h0 : pop 0 = 0 := by decide
  rcases sub_cases (S := 0) (T := sbS B c a l) (c := c) (Nat.pow_pos (by omega)) (sbS_lt hac) hc (fun i hi => by rw [Nat.zero_testBit] at hi; cases hi) with h | h
  · have := sbS_pos (B := B) (l := l) hac
    omega
  · omega
