/-! the tail of a set, its saving, and merging it: both answer alike -/
def eE (P : Pg) (x : Int32) : Int32 := if inb x (2 ^ P.1) = true then (if pop (tn x) < 2 then -1003 else tfV P.2.2.1 P.1 (tn x)) else -1001
def sE (P : Pg) (x : Int32) : Int32 := sv (nI (pop (tn x))) (tfV P.2.2.1 P.1 (tn x)) (nI (tkk P.2.1 (P.2.2.1 (low (tn x))))) (nI P.2.1)
def mtP (P : Pg) (x : Int32) : Pg := if 0 ≤ eE P x ∧ 0 < sE P x ∧ P.1 < 12 then mgP P (tn x) (tn (eE P x)) else P
def mtA (P : Pg) (x : Int32) : Int32 := if 0 ≤ eE P x then (if 0 < sE P x then (if P.1 < 12 then nI P.1 else -1004) else -1006) else eE P x
def tsA (P : Pg) (x : Int32) : Int32 := if 0 ≤ eE P x then sE P x else eE P x
theorem PA.n {v : VV} {p : Nat} {P : Pg} (h : PA v p P) : ∀ b, b < P.1 → (P.2.2.1 b).1 ≤ 10 := fun b hb => (h.2.2.2.2 b hb).2.1
theorem MA.n {g : Nat → Int32} {P : Pg} (h : MA g P) : ∀ b, b < P.1 → (P.2.2.1 b).1 ≤ 10 := fun b hb => (h.2.2.2 b hb).2.1
theorem eE_ok {P : Pg} {x : Int32} (hn : ∀ b, b < P.1 → (P.2.2.1 b).1 ≤ 10) (hc : P.1 ≤ 12) (h : 0 ≤ eE P x) : x = nI (tn x) ∧ tn x < 2 ^ P.1 ∧ 2 ≤ pop (tn x) ∧ eE P x = tfV P.2.2.1 P.1 (tn x) ∧ ∃ m, m ≤ 10 ∧ tfV P.2.2.1 P.1 (tn x) = nI m ∧ (∀ b, b < P.1 → Nat.testBit (tn x) b = true → m ≤ (P.2.2.1 b).1 ∧ (b ≠ low (tn x) → ∃ t, tl (P.2.2.1 (low (tn x))) (P.2.2.1 b) = nI t ∧ m ≤ t ∧ t ≤ 10)) := by
  have hp := pow12 hc
  unfold eE at h ⊢
  by_cases h1 : inb x (2 ^ P.1) = true
  · rw [if_pos h1] at h ⊢
    obtain ⟨e1, e2⟩ := inb_tn (by omega) h1
    by_cases h2 : pop (tn x) < 2
    · rw [if_pos h2] at h; exact absurd h (by decide)
    · rw [if_neg h2] at h ⊢
      refine ⟨e1, e2, by omega, rfl, ?_⟩
      rcases tfV_ok hn (by omega) e2 hc with g | g
      · rw [g] at h; exact absurd h n1005
      · exact g
  · rw [if_neg h1] at h; exact absurd h (by decide)
theorem pop_pos {S : Nat} (h : 2 ≤ pop S) : 0 < S := pop_0 (by omega)
theorem cE {v : VV} {P : Pg} {x : Int32} (h : PA v 1 P) (hF : WF P) : tE v P.1 x = eE P x := by
  have hp := pow12 hF.1
  unfold tE eE
  by_cases h1 : inb x (2 ^ P.1) = true
  · rw [if_pos h1, if_pos h1]
    by_cases h2 : pop (tn x) < 2
    · rw [if_pos h2, if_pos h2]
    · rw [if_neg h2, if_neg h2, tfV_cg h.bq (pop_pos (by omega)) (inb_tn (by omega) h1).2 hF.1]
  · rw [if_neg h1, if_neg h1]
theorem am_bit (S : Nat) : ∀ (f b a : Nat), (∃ i, b ≤ i ∧ i < b + f ∧ Nat.testBit S i = true) ∨ Nat.testBit S a = true → Nat.testBit S (amF S f b a) = true ∧ (amF S f b a = a ∨ amF S f b a < b + f) := by
  intro f
  induction f with
  | zero =>
    intro b a h
    rcases h with ⟨i, h1, h2, _⟩ | h
    · omega
    · exact ⟨h, Or.inl rfl⟩
  | succ f ih =>
    intro b a h
    rw [amF]
    by_cases hb : Nat.testBit S b = true
    · rw [if_pos hb]
      obtain ⟨g1, g2⟩ := ih (b + 1) b (Or.inr hb)
      exact ⟨g1, by omega⟩
    · rw [if_neg hb]
      have : (∃ i, b + 1 ≤ i ∧ i < b + 1 + f ∧ Nat.testBit S i = true) ∨ Nat.testBit S a = true := by
        rcases h with ⟨i, h1, h2, h3⟩ | h
        · refine Or.inl ⟨i, ?_, by omega, h3⟩
          by_cases e : i = b
          · rw [e] at h3; exact absurd h3 hb
          · omega
        · exact Or.inr h
      obtain ⟨g1, g2⟩ := ih (b + 1) a this
      exact ⟨g1, by omega⟩
theorem eqT_k {j : Nat} {x y : Bv} (h : eqTb x y = true) : tkk j x = tkk j y := by
  unfold tkk
  rw [(eqTb_iff.mp h).1]
theorem cS {v : VV} {P : Pg} {x : Int32} (h : PA v 1 P) (hF : WF P) (h0 : 0 ≤ eE P x) : svC v P.1 (tn x) (tE v P.1 x) = sE P x := by
  obtain ⟨e1, e2, e3, e4, m, e5, e6, e7⟩ := eE_ok h.n hF.1 h0
  unfold svC sE
  rw [cE h hF, e4, h.2.1]
  obtain ⟨i, i1, i2⟩ := bit_ex (pop_pos e3) e2
  obtain ⟨a1, a2⟩ := am_bit (tn x) P.1 0 0 (Or.inl ⟨i, by omega, by omega, i2⟩)
  have a3 : amF (tn x) P.1 0 0 < P.1 := by omega
  rw [tc_k h _ a3]
  have : tkk P.2.1 (P.2.2.1 (amF (tn x) P.1 0 0)) = tkk P.2.1 (P.2.2.1 (low (tn x))) := by
    by_cases e : amF (tn x) P.1 0 0 = low (tn x)
    · rw [e]
    · obtain ⟨t, t1, t2, t3⟩ := (e7 _ a3 a1).2 e
      rcases tl_cases (P.2.2.1 (low (tn x))) (P.2.2.1 (amF (tn x) P.1 0 0)) with g | g
      · rw [g.1] at t1; exact absurd t1.symm (nI_ne1005 t3)
      · exact (eqT_k g.1).symm
  rw [this]
theorem c_ts {v : VV} {P : Pg} {x : Int32} (h : PA v 1 P) (hF : WF P) : (if 0 ≤ tE v P.1 x then svC v P.1 (tn x) (tE v P.1 x) else tE v P.1 x) = tsA P x := by
  unfold tsA
  rw [cE h hF]
  by_cases h0 : 0 ≤ eE P x
  · rw [if_pos h0, if_pos h0, ← cE h hF, cS h hF h0]
  · rw [if_neg h0, if_neg h0]
theorem mg_m {P : Pg} {x : Int32} (hn : ∀ b, b < P.1 → (P.2.2.1 b).1 ≤ 10) (hc : P.1 ≤ 12) (h : 0 ≤ eE P x) : 0 < tn x ∧ tn x < 2 ^ P.1 ∧ ∀ b, b < P.1 → Nat.testBit (tn x) b = true → tn (eE P x) ≤ (P.2.2.1 b).1 := by
  obtain ⟨e1, e2, e3, e4, m, e5, e6, e7⟩ := eE_ok hn hc h
  refine ⟨pop_pos e3, e2, fun b hb hB => ?_⟩
  rw [e4, e6, tn_nI (by omega)]
  exact (e7 b hb hB).1
theorem c_mt {v : VV} {P : Pg} {x : Int32} (h : PA v 1 P) (hF : WF P) : mtR v P.1 x = mtA P x ∧ PA (mtV v P.1 x) 1 (mtP P x) := by
  unfold mtR mtV mtA mtP
  rw [cE h hF]
  by_cases h0 : 0 ≤ eE P x
  · have hs := cS h hF h0
    rw [cE h hF] at hs
    rw [hs, if_pos h0]
    refine ⟨rfl, ?_⟩
    by_cases h1 : 0 ≤ eE P x ∧ 0 < sE P x ∧ P.1 < 12
    · rw [if_pos h1, if_pos h1]
      obtain ⟨g1, g2, g3⟩ := mg_m h.n hF.1 h0
      exact PA_mg h hF h1.2.2 g1 g2 g3
    · rw [if_neg h1, if_neg h1]; exact h
  · rw [if_neg h0, if_neg h0]
    refine ⟨rfl, ?_⟩
    rw [if_neg (fun e => h0 e.1), if_neg (fun e => h0 e.1)]; exact h
theorem WF_mt {P : Pg} {x : Int32} (hn : ∀ b, b < P.1 → (P.2.2.1 b).1 ≤ 10) (hF : WF P) : WF (mtP P x) := by
  unfold mtP
  by_cases h1 : 0 ≤ eE P x ∧ 0 < sE P x ∧ P.1 < 12
  · rw [if_pos h1]
    obtain ⟨g1, g2, g3⟩ := mg_m hn hF.1 h1.1
    exact WF_mg hF h1.2.2 g1 g2 g3
  · rw [if_neg h1]; exact hF
theorem mE {g : Nat → Int32} {P : Pg} {x : Int32} (h : MA g P) (hF : WF P) : wsR g P.1 x = (if 0 ≤ eE P x then 0 else eE P x) := by
  have hp := pow12 hF.1
  unfold wsR eE
  by_cases h1 : inb x (2 ^ P.1) = true
  · rw [if_pos h1, if_pos h1]
    by_cases h2 : pop (tn x) < 2
    · rw [if_pos h2, if_pos h2]; rfl
    · rw [if_neg h2, if_neg h2, tfR_V, tfV_cg h.bq (pop_pos (by omega)) (inb_tn (by omega) h1).2 hF.1]
      rcases tfV_ok h.n (show 2 ≤ pop (tn x) by omega) (inb_tn (by omega) h1).2 hF.1 with g | ⟨m, g1, g2, _⟩
      · rw [g, if_neg n1005]
      · rw [g2, if_pos (nI_ge0 g1), if_pos (nI_ge0 g1)]
  · rw [if_neg h1, if_neg h1]; rfl
theorem ws_iff {g : Nat → Int32} {P : Pg} {x : Int32} (h : MA g P) (hF : WF P) : wsR g P.1 x = 0 ↔ 0 ≤ eE P x := by
  rw [mE h hF]
  by_cases h0 : 0 ≤ eE P x
  · rw [if_pos h0]; exact ⟨fun _ => h0, fun _ => rfl⟩
  · rw [if_neg h0]; exact ⟨fun e => by rw [e] at h0; exact absurd (Int32.le_refl 0) h0, fun e => absurd e h0⟩
theorem mT {g : Nat → Int32} {P : Pg} {x : Int32} (h : MA g P) (hF : WF P) (h0 : 0 ≤ eE P x) : tfR g P.1 (tn x) = eE P x := by
  obtain ⟨e1, e2, e3, e4, m, e5, e6, e7⟩ := eE_ok h.n hF.1 h0
  rw [tfR_V, tfV_cg h.bq (pop_pos e3) e2 hF.1, e4]
theorem mS {g : Nat → Int32} {P : Pg} {x : Int32} (h : MA g P) (hF : WF P) (h0 : 0 ≤ eE P x) : svg g P.1 (tn x) = sE P x := by
  obtain ⟨e1, e2, e3, e4, m, e5, e6, e7⟩ := eE_ok h.n hF.1 h0
  unfold svg sE
  rw [mT h hF h0, e4, h.2.1, tcm_k h hF _ (low_ok (pop_pos e3) e2 hF.1).1]
theorem m_ts {g : Nat → Int32} {P : Pg} {x : Int32} (h : MA g P) (hF : WF P) : tsR g P.1 x = tsA P x := by
  unfold tsR tsA
  by_cases h0 : 0 ≤ eE P x
  · rw [if_pos ((ws_iff h hF).mpr h0), if_pos h0, mS h hF h0]
  · rw [if_neg (fun e => h0 ((ws_iff h hF).mp e)), if_neg h0, mE h hF, if_neg h0]
theorem m_mt {v : VV} {P : Pg} {x : Int32} (h : MA (v 271) P) (hF : WF P) : mtR2 (v 271) P.1 x = mtA P x ∧ MA (mtV2 v P.1 x 271) (mtP P x) := by
  unfold mtR2 mtV2 mtA mtP
  by_cases h0 : 0 ≤ eE P x
  · have hw := (ws_iff h hF).mpr h0
    have hs := mS h hF h0
    rw [hs, if_pos hw, if_pos h0]
    refine ⟨rfl, ?_⟩
    by_cases h1 : 0 < sE P x ∧ P.1 < 12
    · rw [if_pos ⟨hw, h1⟩, if_pos ⟨h0, h1⟩, mT h hF h0]
      obtain ⟨g1, g2, g3⟩ := mg_m h.n hF.1 h0
      exact MA_mg h hF h1.2 g1 g2 g3
    · rw [if_neg (fun e => h1 e.2), if_neg (fun e => h1 e.2)]; exact h
  · have hw : ¬ wsR (v 271) P.1 x = 0 := fun e => h0 ((ws_iff h hF).mp e)
    rw [if_neg hw, if_neg h0, if_neg (fun e => hw e.1), if_neg (fun e => h0 e.1)]
    exact ⟨by rw [mE h hF, if_neg h0], h⟩
/-! the best set -/
theorem best_same {v : VV} {g : Nat → Int32} {p : Nat} {P : Pg} (h : PA v p P) (hM : MA g P) (hF : WF P) : (boF p P.1 P.1 0 (-1008) 0 v).1 = fbR g P.1 := by
  have hW := hM.mW hF
  have hk : ∀ b, b < P.1 → tkk P.2.1 (P.2.2.1 b) ≤ 5 := fun b _ => tkk_le hF.2.1
  obtain ⟨y1, h1⟩ := bo_all (B := mw g) (p := p) (tk := fun b => tkk P.2.1 (P.2.2.1 b)) (v := v) (fun b hb => hW.n b hb) hF.1 hF.2.1 hk (fun b hb => (h.bq b hb).trans (hM.bq b hb).sym) (tc_k h) h.2.1
  obtain ⟨y2, h2⟩ := fb_all (tk := fun b => tkk P.2.1 (P.2.2.1 b)) hW hF.2.1 hk (tcm_k hM hF) hM.2.1
  exact best_eq (fun b hb => hW.n b hb) hF.1 h1 h2
theorem best_good {g : Nat → Int32} {P : Pg} (hM : MA g P) (hF : WF P) : fbR g P.1 = -1008 ∨ (0 ≤ eE P (fbR g P.1) ∧ ∃ S, S < 2 ^ P.1 ∧ fbR g P.1 = nI S) := by
  have hW := hM.mW hF
  have hk : ∀ b, b < P.1 → tkk P.2.1 (P.2.2.1 b) ≤ 5 := fun b _ => tkk_le hF.2.1
  have hp := pow12 hF.1
  obtain ⟨y2, h2⟩ := fb_all (tk := fun b => tkk P.2.1 (P.2.2.1 b)) hW hF.2.1 hk (tcm_k hM hF) hM.2.1
  rcases h2 with h2 | ⟨S, k, s1, s2, s3, _⟩
  · exact Or.inl h2.1
  · refine Or.inr ⟨?_, S, s1, s3⟩
    obtain ⟨g1, g2, g3, g4⟩ := s2
    rw [s3]
    unfold eE
    rw [if_pos (inb_nI (by omega) s1), tn_nI (by omega), if_neg (by omega), ← tfV_cg hM.bq (pop_pos g1) s1 hF.1, g3]
    exact nI_ge0 g4
theorem PA_bo {v : VV} {p : Nat} {P : Pg} (h : PA v p P) (hF : WF P) : PA (boF p P.1 P.1 0 (-1008) 0 v).2 p P := h.far hF (fun q _ q2 => bo_far (by omega) _ _ _ _ _)
/-! what all blocks cost -/
theorem sz_same {v : VV} {g : Nat → Int32} {p : Nat} {P : Pg} (h : PA v p P) (hM : MA g P) (hF : WF P) : ∀ (f b : Nat) (s : Int32), b + f = P.1 → szF v p f b s = szm g f b s := by
  intro f
  induction f with
  | zero => intro b s _; rfl
  | succ f ih =>
    intro b s hb
    have hb2 : b < P.1 := by omega
    rw [szF, szm, ih _ _ (by omega), (h.2.2.2.2 b hb2).1, (hM.2.2.2 b hb2).1, tc_k h b hb2, tcm_k hM hF b hb2]
