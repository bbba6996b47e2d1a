/-! PURE: the class's best set is the reference's -/
def wA (B : Nat → Bv) (c : Nat) (tk : Nat → Nat) (j a l : Nat) : Int := sI (pop (sbS B c a l)) l (tk a) j
def gd (B : Nat → Bv) (c S k : Nat) : Prop := 2 ≤ pop S ∧ S < 2 ^ c ∧ tfV B c S = nI k ∧ k ≤ 10
def vS (tk : Nat → Nat) (j S k : Nat) : Int := sI (pop S) k (tk (low S)) j
theorem cand_good {B : Nat → Bv} {c j a l : Nat} {tk : Nat → Nat} (hN : ∀ b, b < c → (B b).1 ≤ 10) (hc : c ≤ 12) (hac : a < c) (hl : l ≤ (B a).1) (hw : 0 < wA B c tk j a l) : ∃ k, gd B c (sbS B c a l) k ∧ low (sbS B c a l) = a ∧ wA B c tk j a l ≤ vS tk j (sbS B c a l) k := by
  have hna := hN a hac
  have hlow := sbS_low (B := B) (l := l) hac hc
  have hp1 := sbS_pop (B := B) (l := l) hac hc
  have hp2 : 2 ≤ pop (sbS B c a l) := by
    rcases Nat.lt_or_ge (pop (sbS B c a l)) 2 with h | h
    · have e : pop (sbS B c a l) = 1 := by omega
      unfold wA at hw
      rw [e] at hw
      have := sI_one (l := l) (t := tk a) (j := j)
      omega
    · exact h
  obtain ⟨k, k1, k2, k3⟩ := fo_ge B (sbS B c a l) a l hna (c - (a + 1)) (a + 1) 10 (by omega) (by omega) (fun i h1 h2 h3 => by
    rcases (sbS_bit hac).mp h3 with h4 | h4
    · omega
    · obtain ⟨t, t1, t2, t3, -⟩ := (nlt_tl hna (by omega)).mp h4.2.2
      exact ⟨t, t1, t2, by omega⟩)
  refine ⟨k, ⟨hp2, sbS_lt hac, ?_, k2⟩, hlow, ?_⟩
  · unfold tfV tfN
    rw [hlow, show (10 : Int32) = nI 10 from rfl, k3, if_pos (nI_ge0 k2)]
  · unfold wA vS
    rw [hlow]
    exact sI_len hp1 k1
theorem good_cand {B : Nat → Bv} {c j S k : Nat} {tk : Nat → Nat} (hN : ∀ b, b < c → (B b).1 ≤ 10) (hc : c ≤ 12) (hg : gd B c S k) (hv : 0 < vS tk j S k) : low S < c ∧ k ≤ (B (low S)).1 ∧ (S = sbS B c (low S) k ∨ vS tk j S k < wA B c tk j (low S) k) ∧ vS tk j S k ≤ wA B c tk j (low S) k := by
  obtain ⟨h1, h2, h3, h4⟩ := hg
  have hL := low_ok (pop_0 (S := S) (by omega)) h2 hc
  have hna := hN _ hL.1
  rcases tfV_ok hN h1 h2 hc with h5 | ⟨m, h5, h6, h7⟩
  · rw [h5] at h3; exact absurd h3.symm (nI_ne1005 h4)
  · have hmk : m = k := (nI_eq (by omega) (by omega)).mp (h6.symm.trans h3)
    subst hmk
    have hsub : ∀ i, Nat.testBit S i = true → Nat.testBit (sbS B c (low S) m) i = true := by
      intro i hi
      have hic := bit_lt h2 hi
      rw [sbS_bit hL.1]
      by_cases he : i = low S
      · exact Or.inl he
      · obtain ⟨t, t1, t2, t3⟩ := (h7 i hic hi).2 he
        have hlt : low S < i := by
          rcases Nat.lt_or_ge (low S) i with g | g
          · exact g
          · exact absurd hi (hL.2.2 i (by omega))
        refine Or.inr ⟨hlt, hic, ?_⟩
        rw [t1]
        exact Int32.not_lt.mpr ((nI_leI (by omega) (by omega)).mpr t2)
    refine ⟨hL.1, (h7 _ hL.1 hL.2.1).1, ?_, ?_⟩
    · rcases sub_cases h2 (sbS_lt hL.1) hc hsub with e | e
      · exact Or.inl e
      · exact Or.inr (sI_mono hv e)
    · rcases sub_cases h2 (sbS_lt hL.1) hc hsub with e | e
      · unfold vS wA
        rw [← e]
        exact Int.le_refl _
      · exact Int.le_of_lt (sI_mono hv e)
/-! what the class's loops come to -/
def CB (B : Nat → Bv) (c : Nat) (tk : Nat → Nat) (j : Nat) (D : Nat → Nat → Prop) (x y : Int32) : Prop := (x = -1008 ∧ y = 0 ∧ ∀ a l, D a l → wA B c tk j a l ≤ 0) ∨ ∃ a l, D a l ∧ x = nI (sbS B c a l) ∧ y = Int32.ofInt (wA B c tk j a l) ∧ 0 < wA B c tk j a l ∧ ∀ a' l', D a' l' → wA B c tk j a' l' ≤ wA B c tk j a l ∧ (wA B c tk j a' l' = wA B c tk j a l → sbS B c a l ≤ sbS B c a' l')
theorem wA_b {B : Nat → Bv} {c j a l : Nat} {tk : Nat → Nat} (hl : l ≤ 10) (ht : tk a ≤ 5) (hj : j ≤ 5) : -1000 ≤ wA B c tk j a l ∧ wA B c tk j a l ≤ 1000 := sI_b (pop_le _) hl ht hj
theorem neg1008 (n : Nat) (h : n < 2 ^ 31) : (-1008 : Int32) ≤ nI n := by
  rw [Int32.le_iff_toInt_le, nI_toInt h]
  have : (-1008 : Int32).toInt = -1008 := rfl
  omega
theorem CB_step {B : Nat → Bv} {c j a l : Nat} {tk : Nat → Nat} {D D' : Nat → Nat → Prop} {x y : Int32} (hc : c ≤ 12) (hj : j ≤ 5) (ht : ∀ b, b < c → tk b ≤ 5) (hD : ∀ a l, D a l → a < c ∧ l ≤ 10) (hac : a < c) (hl : l ≤ 10) (hD' : ∀ a' l', D' a' l' ↔ (D a' l' ∨ (a' = a ∧ l' = l))) (h : CB B c tk j D x y) :
    CB B c tk j D' (if y < Int32.ofInt (wA B c tk j a l) ∨ (Int32.ofInt (wA B c tk j a l) = y ∧ ¬ x ≤ nI (sbS B c a l)) then nI (sbS B c a l) else x) (if y < Int32.ofInt (wA B c tk j a l) ∨ (Int32.ofInt (wA B c tk j a l) = y ∧ ¬ x ≤ nI (sbS B c a l)) then Int32.ofInt (wA B c tk j a l) else y) := by
  have hp := pow12 hc
  have hb := wA_b (B := B) (c := c) (a := a) hl (ht a hac) hj
  have hS := sbS_lt (B := B) (l := l) hac
  rcases h with ⟨rfl, rfl, h⟩ | ⟨a0, l0, h1, rfl, rfl, h3, h4⟩
  · have e0 : (0 : Int32) = Int32.ofInt 0 := rfl
    by_cases hw : 0 < wA B c tk j a l
    · rw [if_pos (Or.inl (by rw [e0, ofI_lt (by omega) (by omega) hb.1 hb.2]; exact hw)), if_pos (Or.inl (by rw [e0, ofI_lt (by omega) (by omega) hb.1 hb.2]; exact hw))]
      refine Or.inr ⟨a, l, (hD' a l).mpr (Or.inr ⟨rfl, rfl⟩), rfl, rfl, hw, fun a' l' hd => ?_⟩
      rcases (hD' a' l').mp hd with hd | ⟨rfl, rfl⟩
      · have := h a' l' hd
        exact ⟨by omega, fun e => by omega⟩
      · exact ⟨Int.le_refl _, fun _ => Nat.le_refl _⟩
    · have hn : ¬ ((0 : Int32) < Int32.ofInt (wA B c tk j a l) ∨ (Int32.ofInt (wA B c tk j a l) = 0 ∧ ¬ (-1008 : Int32) ≤ nI (sbS B c a l))) := by
        rintro (e | e)
        · rw [e0, ofI_lt (by omega) (by omega) hb.1 hb.2] at e
          exact hw e
        · exact e.2 (neg1008 _ (by omega))
      rw [if_neg hn, if_neg hn]
      refine Or.inl ⟨rfl, rfl, fun a' l' hd => ?_⟩
      rcases (hD' a' l').mp hd with hd | ⟨rfl, rfl⟩
      · exact h a' l' hd
      · omega
  · obtain ⟨g1, g2⟩ := hD a0 l0 h1
    have hb0 := wA_b (B := B) (c := c) (a := a0) g2 (ht a0 g1) hj
    have hS0 := sbS_lt (B := B) (l := l0) g1
    have key : (Int32.ofInt (wA B c tk j a0 l0) < Int32.ofInt (wA B c tk j a l) ∨ (Int32.ofInt (wA B c tk j a l) = Int32.ofInt (wA B c tk j a0 l0) ∧ ¬ nI (sbS B c a0 l0) ≤ nI (sbS B c a l))) ↔ (wA B c tk j a0 l0 < wA B c tk j a l ∨ (wA B c tk j a l = wA B c tk j a0 l0 ∧ sbS B c a l < sbS B c a0 l0)) := by
      rw [ofI_lt hb0.1 hb0.2 hb.1 hb.2, ofI_eq hb.1 hb.2 hb0.1 hb0.2, nI_leI (by omega) (by omega)]
      omega
    by_cases hn : wA B c tk j a0 l0 < wA B c tk j a l ∨ (wA B c tk j a l = wA B c tk j a0 l0 ∧ sbS B c a l < sbS B c a0 l0)
    · rw [if_pos (key.mpr hn), if_pos (key.mpr hn)]
      refine Or.inr ⟨a, l, (hD' a l).mpr (Or.inr ⟨rfl, rfl⟩), rfl, rfl, by omega, fun a' l' hd => ?_⟩
      rcases (hD' a' l').mp hd with hd | ⟨rfl, rfl⟩
      · have h5 := h4 a' l' hd
        refine ⟨by omega, fun e => ?_⟩
        rcases hn with hn | hn
        · omega
        · have := h5.2 (by omega)
          omega
      · exact ⟨Int.le_refl _, fun _ => Nat.le_refl _⟩
    · rw [if_neg (fun e => hn (key.mp e)), if_neg (fun e => hn (key.mp e))]
      refine Or.inr ⟨a0, l0, (hD' a0 l0).mpr (Or.inl h1), rfl, rfl, h3, fun a' l' hd => ?_⟩
      rcases (hD' a' l').mp hd with hd | ⟨rfl, rfl⟩
      · exact h4 a' l' hd
      · exact ⟨by omega, fun e => by omega⟩
def Dn (B : Nat → Bv) (c a l a' l' : Nat) : Prop := a' < c ∧ l' ≤ (B a').1 ∧ (a' < a ∨ (a' = a ∧ l' < l))
/-! what the reference's loop comes to -/
def MB (B : Nat → Bv) (c : Nat) (tk : Nat → Nat) (j N : Nat) (x y : Int32) : Prop := (x = -1008 ∧ y = 0 ∧ ∀ S k, S < N → gd B c S k → vS tk j S k ≤ 0) ∨ ∃ S k, S < N ∧ gd B c S k ∧ x = nI S ∧ y = Int32.ofInt (vS tk j S k) ∧ 0 < vS tk j S k ∧ ∀ S' k', S' < N → gd B c S' k' → vS tk j S' k' ≤ vS tk j S k ∧ (vS tk j S' k' = vS tk j S k → S ≤ S')
theorem best_eq {B : Nat → Bv} {c j : Nat} {tk : Nat → Nat} {x1 y1 x2 y2 : Int32} (hN : ∀ b, b < c → (B b).1 ≤ 10) (hc : c ≤ 12) (h1 : CB B c tk j (fun a l => a < c ∧ l ≤ (B a).1) x1 y1) (h2 : MB B c tk j (2 ^ c) x2 y2) : x1 = x2 := by
  rcases h1 with ⟨e1, -, h1⟩ | ⟨a, l, ⟨a1, a2⟩, e1, -, h3, h4⟩
  · rcases h2 with ⟨e2, -, -⟩ | ⟨S, k, s1, s2, e2, -, s3, s4⟩
    · rw [e1, e2]
    · obtain ⟨g1, g2, -, g4⟩ := good_cand hN hc s2 s3
      have := h1 (low S) k ⟨g1, g2⟩
      omega
  · obtain ⟨k1, q1, q2, q3⟩ := cand_good hN hc a1 a2 h3
    rcases h2 with ⟨-, -, h2⟩ | ⟨S, k, s1, s2, e2, -, s3, s4⟩
    · have := h2 _ _ q1.2.1 q1
      omega
    · obtain ⟨g1, g2, g3, g4⟩ := good_cand hN hc s2 s3
      have m1 := h4 (low S) k ⟨g1, g2⟩
      have m2 := s4 _ _ q1.2.1 q1
      have eS : S = sbS B c (low S) k := by
        rcases g3 with g3 | g3
        · exact g3
        · omega
      have o1 := m1.2 (by omega)
      have o2 := m2.2 (by omega)
      have : sbS B c a l = S := by omega
      rw [e1, e2, this]
