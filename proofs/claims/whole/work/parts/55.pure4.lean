/-! PURE: blocks that read alike -/
def beq (x y : Bv) : Prop := x.1 = y.1 ∧ (∀ f i, f < 5 → i < x.1 → x.2.1 f i = y.2.1 f i) ∧ ∀ j, j < 4 → x.2.2 j = y.2.2 j
theorem beq.rf (x : Bv) : beq x x := ⟨rfl, fun _ _ _ _ => rfl, fun _ _ => rfl⟩
theorem beq.sym {x y : Bv} (h : beq x y) : beq y x := ⟨h.1.symm, fun f i h1 h2 => (h.2.1 f i h1 (by rw [h.1]; exact h2)).symm, fun j hj => (h.2.2 j hj).symm⟩
theorem beq.trans {x y z : Bv} (h : beq x y) (g : beq y z) : beq x z := ⟨h.1.trans g.1, fun f i h1 h2 => (h.2.1 f i h1 h2).trans (g.2.1 f i h1 (by rw [← h.1]; exact h2)), fun j hj => (h.2.2 j hj).trans (g.2.2 j hj)⟩
section BQ
variable {x x' y y' : Bv}
theorem eqA_cg (hx : beq x x') (hy : beq y y') {t : Nat} (h1 : 1 ≤ t) (h2 : t ≤ x.1) (h3 : t ≤ y.1) : eqAb x y t = eqAb x' y' t := by
  rw [Bool.eq_iff_iff, eqAb_iff, eqAb_iff]
  unfold eqA
  rw [← hx.1, ← hy.1, hx.2.1 0 _ (by omega) (by omega), hx.2.1 1 _ (by omega) (by omega), hx.2.1 2 _ (by omega) (by omega), hx.2.1 3 _ (by omega) (by omega), hy.2.1 0 _ (by omega) (by omega), hy.2.1 1 _ (by omega) (by omega), hy.2.1 2 _ (by omega) (by omega), hy.2.1 3 _ (by omega) (by omega)]
theorem eqT_cg (hx : beq x x') (hy : beq y y') : eqTb x y = eqTb x' y' := by
  rw [Bool.eq_iff_iff, eqTb_iff, eqTb_iff]
  unfold eqT
  rw [hx.2.2 0 (by omega), hx.2.2 1 (by omega), hx.2.2 2 (by omega), hx.2.2 3 (by omega), hy.2.2 0 (by omega), hy.2.2 1 (by omega), hy.2.2 2 (by omega), hy.2.2 3 (by omega)]
theorem sct_cg (hx : beq x x') (hy : beq y y') {t : Nat} (h1 : 1 ≤ t) (h2 : t ≤ x.1) (h3 : t ≤ y.1) : sctb x y t = sctb x' y' t := by
  rw [Bool.eq_iff_iff, sctb_iff, sctb_iff]
  unfold sct
  rw [← hx.1, ← hy.1, hx.2.1 0 _ (by omega) (by omega), hx.2.1 1 _ (by omega) (by omega), hy.2.1 0 _ (by omega) (by omega), hy.2.1 1 _ (by omega) (by omega)]
theorem us7_cg (hx : beq x x') {t : Nat} (h1 : 1 ≤ t) (h2 : t ≤ x.1) : us7b x t = us7b x' t := by
  rw [Bool.eq_iff_iff, us7b_iff, us7b_iff]
  unfold us7
  rw [← hx.1, hx.2.1 0 _ (by omega) (by omega), hx.2.1 1 _ (by omega) (by omega), hx.2.1 2 _ (by omega) (by omega), hx.2.1 3 _ (by omega) (by omega)]
theorem tlF_cg (hx : beq x x') (hy : beq y y') : ∀ (f t : Nat), t + f ≤ min x.1 y.1 → tlF x y f t = tlF x' y' f t := by
  intro f
  induction f with
  | zero => intro t _; rfl
  | succ f ih =>
    intro t h
    have h5 := Nat.min_le_left x.1 y.1
    have h6 := Nat.min_le_right x.1 y.1
    rw [tlF, tlF, eqA_cg hx hy (t := t + 1) (by omega) (by omega) (by omega), ih (t + 1) (by omega)]
theorem tl_cg (hx : beq x x') (hy : beq y y') : tl x y = tl x' y' := by
  unfold tl
  rw [eqT_cg hx hy, tlF_cg hx hy _ 0 (by omega), hx.1, hy.1]
theorem pfit_cg (hx : beq x x') (hy : beq y y') {t : Nat} {df : Bool} (h1 : 1 ≤ t) (h2 : t ≤ x.1) (h3 : t ≤ y.1) : pfit x y t df = pfit x' y' t df := by
  unfold pfit
  rw [us7_cg hx h1 h2, us7_cg hy h1 h3, eqA_cg hx hy h1 h2 h3, sct_cg hx hy h1 h2 h3]
theorem ptF_cg (hx : beq x x') (hy : beq y y') : ∀ (f t : Nat) (df : Bool), t + f ≤ min x.1 y.1 → ptF x y f t df = ptF x' y' f t df := by
  intro f
  induction f with
  | zero => intro t df _; rfl
  | succ f ih =>
    intro t df h
    have h5 := Nat.min_le_left x.1 y.1
    have h6 := Nat.min_le_right x.1 y.1
    rw [ptF, ptF, eqA_cg hx hy (t := t + 1) (by omega) (by omega) (by omega), pfit_cg hx hy (t := t + 1) (by omega) (by omega) (by omega), ih (t + 1) _ (by omega)]
theorem pt_cg (hx : beq x x') (hy : beq y y') : pt x y = pt x' y' := by
  unfold pt
  rw [eqT_cg hx hy, ptF_cg hx hy _ 0 _ (by omega), hx.1, hy.1, hx.2.2 0 (by omega)]
theorem hsI_cg (hx : beq x x') : ∀ (f i : Nat) (h : Int32), i + f ≤ x.1 → hsI x f i h = hsI x' f i h := by
  intro f
  induction f with
  | zero => intro i h _; rfl
  | succ f ih =>
    intro i h hi
    rw [hsI, hsI, hx.2.1 0 i (by omega) (by omega), hx.2.1 1 i (by omega) (by omega), hx.2.1 2 i (by omega) (by omega), hx.2.1 3 i (by omega) (by omega), ih (i + 1) _ (by omega)]
theorem hsh_cg (hx : beq x x') {m : Nat} (h : m ≤ x.1) : hsh x m = hsh x' m := by
  unfold hsh hsT
  rw [hsI_cg hx _ _ _ (by omega), hx.1, hx.2.2 0 (by omega), hx.2.2 1 (by omega), hx.2.2 2 (by omega), hx.2.2 3 (by omega)]
end BQ
/-- a program's block reads alike where its cells are the same -/
theorem pv_far {v w : VV} {p b : Nat} (h : ∀ q, kB p b ≤ q → q ≤ kB p b + 6 → w q = v q) : beq (pv w p b) (pv v p b) := by
  have h0 := h (kB p b) (Nat.le_refl _) (by omega)
  refine ⟨nb_eq h0, fun f i hf _ => ?_, fun j hj => ?_⟩
  · show w (kB p b + (1 + f)) i = v (kB p b + (1 + f)) i
    rw [h _ (by omega) (by omega)]
  · show (if j = 0 then w (kB p b) 6 else w (kB p b + 6) (j - 1)) = (if j = 0 then v (kB p b) 6 else v (kB p b + 6) (j - 1))
    rw [h0, h _ (by omega) (by omega)]
theorem shB_cg {B B' : Nat → Bv} {a l c : Nat} (h : ∀ b, b < c → tl (B a) (B b) = tl (B' a) (B' b)) : ∀ (f b S : Nat), b + f ≤ c → shB B a l f b S = shB B' a l f b S := by
  intro f
  induction f with
  | zero => intro b S _; rfl
  | succ f ih => intro b S hb; rw [shB, shB, h b (by omega), ih _ _ (by omega)]
theorem tfB_cg {B B' : Nat → Bv} {S a c : Nat} (h : ∀ b, b < c → tl (B a) (B b) = tl (B' a) (B' b)) : ∀ (f b : Nat) (x : Int32), b + f ≤ c → tfB B S a f b x = tfB B' S a f b x := by
  intro f
  induction f with
  | zero => intro b x _; rfl
  | succ f ih => intro b x hb; rw [tfB, tfB, h b (by omega), ih _ _ (by omega)]
theorem tfV_cg {B B' : Nat → Bv} {c S : Nat} (h : ∀ b, b < c → beq (B b) (B' b)) (h0 : 0 < S) (hS : S < 2 ^ c) (hc : c ≤ 12) : tfV B c S = tfV B' c S := by
  have hL := low_ok h0 hS hc
  unfold tfV
  rw [tfB_cg (fun b hb => tl_cg (h _ hL.1) (h b hb)) _ _ _ (by omega)]
/-! the class's loops -/
theorem cwF_far {p a q : Nat} (h : q ≠ p + 87) : ∀ (f b : Nat) (v : VV), cwF p a f b v q = v q := by
  intro f
  induction f with
  | zero => intro b v; rfl
  | succ f ih => intro b v; rw [cwF, ih, u2_ne h]
theorem cwF_keep {p a i : Nat} : ∀ (f b : Nat) (v : VV), i < b → cwF p a f b v (p + 87) i = v (p + 87) i := by
  intro f
  induction f with
  | zero => intro b v _; rfl
  | succ f ih => intro b v h; rw [cwF, ih _ _ (by omega), u2_at (by omega)]
theorem pv_87 {v : VV} {p b j : Nat} {x : Int32} (hb : b < 12) : beq (pv (u2 v (p + 87) j x) p b) (pv v p b) := pv_far (fun q h1 h2 => u2_ne (by unfold kB at h2; omega))
theorem cwF_val {p a c i : Nat} (hc : c ≤ 12) (hac : a < c) : ∀ (f b : Nat) (v : VV), b + f ≤ c → b ≤ i → i < b + f → cwF p a f b v (p + 87) i = tl (pv v p a) (pv v p i) := by
  intro f
  induction f with
  | zero => intro b v _ h1 h2; omega
  | succ f ih =>
    intro b v hb h1 h2
    rw [cwF]
    by_cases hib : i = b
    · subst hib
      rw [cwF_keep _ _ _ (by omega), u2_same]
    · rw [ih (b + 1) _ (by omega) (by omega) (by omega)]
      exact tl_cg (pv_87 (by omega)) (pv_87 (by omega))
theorem shF_B {w : VV} {p a l : Nat} {B : Nat → Bv} : ∀ (f b S : Nat), (∀ i, b ≤ i → i < b + f → w (p + 87) i = tl (B a) (B i)) → shF w p (nI l) f b S = shB B a l f b S := by
  intro f
  induction f with
  | zero => intro b S _; rfl
  | succ f ih => intro b S h; rw [shF, shB, h b (Nat.le_refl b) (by omega), ih _ _ (fun i h1 h2 => h i (by omega) (by omega))]
theorem CB.congr {B : Nat → Bv} {c j : Nat} {tk : Nat → Nat} {D D' : Nat → Nat → Prop} {x y : Int32} (h : CB B c tk j D x y) (e : ∀ a l, D' a l ↔ D a l) : CB B c tk j D' x y := by
  rcases h with ⟨h1, h2, h3⟩ | ⟨a, l, h1, h2, h3, h4, h5⟩
  · exact Or.inl ⟨h1, h2, fun a l hd => h3 a l ((e a l).mp hd)⟩
  · exact Or.inr ⟨a, l, (e a l).mpr h1, h2, h3, h4, fun a' l' hd => h5 a' l' ((e a' l').mp hd)⟩
theorem bs_CB {w : VV} {B : Nat → Bv} {p c a j : Nat} {tk : Nat → Nat} (hN : ∀ b, b < c → (B b).1 ≤ 10) (hc : c ≤ 12) (hac : a < c) (hj : j ≤ 5) (ht : ∀ b, b < c → tk b ≤ 5) (hS : ∀ i, a + 1 ≤ i → i < c → w (p + 87) i = tl (B a) (B i)) (hjj : w p 2 = nI j) : ∀ (f l : Nat) (x y : Int32), l + f ≤ (B a).1 + 1 → CB B c tk j (Dn B c a l) x y → CB B c tk j (Dn B c a (l + f)) (bsI w p c a (nI (tk a)) f l x y).1 (bsI w p c a (nI (tk a)) f l x y).2 := by
  intro f
  induction f with
  | zero => intro l x y _ h; exact h
  | succ f ih =>
    intro l x y hl h
    have e1 : shS w p c a l = sbS B c a l := shF_B _ _ _ (fun i h1 h2 => hS i h1 (by omega))
    have e2 : sv (nI (pop (shS w p c a l))) (nI l) (nI (tk a)) (w p 2) = Int32.ofInt (wA B c tk j a l) := by rw [e1, hjj, sv_I]; rfl
    have hna := hN a hac
    have hs := CB_step (D' := Dn B c a (l + 1)) hc hj ht (fun a' l' hd => ⟨hd.1, by have := hN a' hd.1; have := hd.2.1; omega⟩) hac (by omega : l ≤ 10) (fun a' l' => by
      unfold Dn
      constructor
      · rintro ⟨h1, h2, h3⟩
        by_cases q : a' = a ∧ l' = l
        · exact Or.inr q
        · exact Or.inl ⟨h1, h2, by omega⟩
      · rintro (⟨h1, h2, h3⟩ | ⟨rfl, rfl⟩)
        · exact ⟨h1, h2, by omega⟩
        · exact ⟨hac, by omega, by omega⟩) h
    rw [bsI, e2, e1]
    rw [show l + (f + 1) = l + 1 + f by omega]
    by_cases hcnd : y < Int32.ofInt (wA B c tk j a l) ∨ (Int32.ofInt (wA B c tk j a l) = y ∧ ¬ x ≤ nI (sbS B c a l))
    · rw [if_pos hcnd, if_pos hcnd] at hs
      rw [if_pos hcnd]
      exact ih (l + 1) _ _ (by omega) hs
    · rw [if_neg hcnd, if_neg hcnd] at hs
      rw [if_neg hcnd]
      exact ih (l + 1) _ _ (by omega) hs
theorem bo_far {p c q : Nat} (h : q ≠ p + 87) : ∀ (f a : Nat) (x y : Int32) (v : VV), (boF p c f a x y v).2 q = v q := by
  intro f
  induction f with
  | zero => intro a x y v; rfl
  | succ f ih => intro a x y v; rw [boF, ih, cwF_far h]
theorem bo_CB {B : Nat → Bv} {p c j : Nat} {tk : Nat → Nat} (hN : ∀ b, b < c → (B b).1 ≤ 10) (hc : c ≤ 12) (hj : j ≤ 5) (ht : ∀ b, b < c → tk b ≤ 5) : ∀ (f a : Nat) (x y : Int32) (v : VV), a + f = c → (∀ b, b < c → beq (pv v p b) (B b)) → (∀ b, b < c → tc v p b = nI (tk b)) → v p 2 = nI j → CB B c tk j (Dn B c a 0) x y → ∃ y', CB B c tk j (Dn B c c 0) (boF p c f a x y v).1 y' := by
  intro f
  induction f with
  | zero =>
    intro a x y v haf hB htc hjj h
    have : a = c := by omega
    subst this
    exact ⟨y, h⟩
  | succ f ih =>
    intro a x y v haf hB htc hjj h
    have hac : a < c := by omega
    rw [boF]
    have ew : ∀ q, q ≠ p + 87 → cwF p a (c - (a + 1)) (a + 1) v q = v q := fun q hq => cwF_far hq _ _ _
    have hB2 : ∀ b, b < c → beq (pv (cwF p a (c - (a + 1)) (a + 1) v) p b) (B b) := fun b hb => (pv_far (fun q h1 h2 => ew q (by unfold kB at h2; omega))).trans (hB b hb)
    have htc2 : ∀ b, b < c → tc (cwF p a (c - (a + 1)) (a + 1) v) p b = nI (tk b) := fun b hb => by
      have := htc b hb
      unfold tc at this ⊢
      rw [ew _ (by unfold kB; omega), ew _ (by omega)]
      exact this
    have hjj2 : cwF p a (c - (a + 1)) (a + 1) v p 2 = nI j := by rw [ew _ (by omega)]; exact hjj
    have hnb : nb (cwF p a (c - (a + 1)) (a + 1) v) p a = (B a).1 := (hB2 a hac).1
    rw [htc2 a hac, hnb]
    have hs := bs_CB (w := cwF p a (c - (a + 1)) (a + 1) v) (p := p) (a := a) hN hc hac hj ht (fun i h1 h2 => by
      rw [cwF_val hc hac _ _ _ (by omega) h1 (by omega)]
      exact tl_cg (hB a hac) (hB i h2)) hjj2 ((B a).1 + 1) 0 x y (by omega) h
    refine ih (a + 1) _ _ _ (by omega) hB2 htc2 hjj2 (hs.congr fun a' l' => ?_)
    unfold Dn
    constructor
    · rintro ⟨h1, h2, h3⟩
      refine ⟨h1, h2, ?_⟩
      by_cases q : a' = a
      · subst q; exact Or.inr ⟨rfl, by omega⟩
      · exact Or.inl (by omega)
    · rintro ⟨h1, h2, h3⟩
      exact ⟨h1, h2, Or.inl (by omega)⟩
theorem bo_all {B : Nat → Bv} {p c j : Nat} {tk : Nat → Nat} {v : VV} (hN : ∀ b, b < c → (B b).1 ≤ 10) (hc : c ≤ 12) (hj : j ≤ 5) (ht : ∀ b, b < c → tk b ≤ 5) (hB : ∀ b, b < c → beq (pv v p b) (B b)) (htc : ∀ b, b < c → tc v p b = nI (tk b)) (hjj : v p 2 = nI j) : ∃ y, CB B c tk j (fun a l => a < c ∧ l ≤ (B a).1) (boF p c c 0 (-1008) 0 v).1 y := by
  obtain ⟨y, h⟩ := bo_CB (p := p) hN hc hj ht c 0 (-1008) 0 v (by omega) hB htc hjj (Or.inl ⟨rfl, rfl, fun a l hd => by unfold Dn at hd; omega⟩)
  exact ⟨y, h.congr fun a l => ⟨fun h => ⟨h.1, h.2, Or.inl h.1⟩, fun h => ⟨h.1, h.2.1⟩⟩⟩
/-! the reference's loop -/
theorem fb_MB {g : Nat → Int32} {c j : Nat} {tk : Nat → Nat} (hM : MW g c) (hj : j ≤ 5) (ht : ∀ b, b < c → tk b ≤ 5) (htc : ∀ b, b < c → tcm g b = nI (tk b)) (hjj : g 1 = nI j) : ∀ (f S : Nat) (x y : Int32), f = 2 ^ c - S → MB (mw g) c tk j S x y → ∃ y', MB (mw g) c tk j (S + f) (fbF g c f S x y) y' := by
  have hc := hM.2.1
  have hp := pow12 hc
  intro f
  induction f with
  | zero => intro S x y _ h; exact ⟨y, h⟩
  | succ f ih =>
    intro S x y hf h
    have hS : S < 2 ^ c := by omega
    rw [fbF, show S + (f + 1) = S + 1 + f by omega]
    have hpl := pop_le S
    by_cases hg : ∃ k, gd (mw g) c S k
    · obtain ⟨k, hk⟩ := hg
      obtain ⟨k1, k2, k3, k4⟩ := hk
      have hL := low_ok (pop_0 (S := S) (by omega)) hS hc
      have hb : -1000 ≤ vS tk j S k ∧ vS tk j S k ≤ 1000 := sI_b (m := pop S) (l := k) (t := tk (low S)) (j := j) (by omega) k4 (ht _ hL.1) hj
      have esv : svg g c S = Int32.ofInt (vS tk j S k) := by
        unfold svg vS
        rw [tfR_V, k3, htc _ hL.1, hjj, sv_I]
      have et : (0 : Int32) ≤ tfR g c S := by rw [tfR_V, k3]; exact nI_ge0 k4
      have uniq : ∀ k', gd (mw g) c S k' → k' = k := fun k' h' => (nI_eq (by have := h'.2.2.2; omega) (by omega)).mp (h'.2.2.1.symm.trans k3)
      rw [esv]
      rcases h with ⟨rfl, rfl, h⟩ | ⟨S0, j0, h1, h2, rfl, rfl, h3, h4⟩
      · have e0 : (0 : Int32) = Int32.ofInt 0 := rfl
        by_cases hw : 0 < vS tk j S k
        · rw [if_pos ⟨by omega, et, by rw [e0, ofI_lt (by omega) (by omega) hb.1 hb.2]; exact hw⟩]
          refine ih (S + 1) _ _ (by omega) (Or.inr ⟨S, k, by omega, ⟨k1, k2, k3, k4⟩, rfl, rfl, hw, fun S' k' h5 h6 => ?_⟩)
          by_cases q : S' = S
          · subst q
            rw [uniq k' h6]
            exact ⟨Int.le_refl _, fun _ => Nat.le_refl _⟩
          · have := h S' k' (by omega) h6
            exact ⟨by omega, fun _ => by omega⟩
        · rw [if_neg (fun e => hw (by have := e.2.2; rw [e0, ofI_lt (by omega) (by omega) hb.1 hb.2] at this; exact this))]
          refine ih (S + 1) _ _ (by omega) (Or.inl ⟨rfl, rfl, fun S' k' h5 h6 => ?_⟩)
          by_cases q : S' = S
          · subst q
            rw [uniq k' h6]
            omega
          · exact h S' k' (by omega) h6
      · have hL0 := low_ok (pop_0 (S := S0) (by have := h2.1; omega)) h2.2.1 hc
        have hb0 : -1000 ≤ vS tk j S0 j0 ∧ vS tk j S0 j0 ≤ 1000 := sI_b (m := pop S0) (l := j0) (t := tk (low S0)) (j := j) (pop_le _) h2.2.2.2 (ht _ hL0.1) hj
        by_cases hw : vS tk j S0 j0 < vS tk j S k
        · rw [if_pos ⟨by omega, et, (ofI_lt hb0.1 hb0.2 hb.1 hb.2).mpr hw⟩]
          refine ih (S + 1) _ _ (by omega) (Or.inr ⟨S, k, by omega, ⟨k1, k2, k3, k4⟩, rfl, rfl, by omega, fun S' k' h5 h6 => ?_⟩)
          by_cases q : S' = S
          · subst q
            rw [uniq k' h6]
            exact ⟨Int.le_refl _, fun _ => Nat.le_refl _⟩
          · have := h4 S' k' (by omega) h6
            exact ⟨by omega, fun _ => by omega⟩
        · rw [if_neg (fun e => hw ((ofI_lt hb0.1 hb0.2 hb.1 hb.2).mp e.2.2))]
          refine ih (S + 1) _ _ (by omega) (Or.inr ⟨S0, j0, by omega, h2, rfl, rfl, h3, fun S' k' h5 h6 => ?_⟩)
          by_cases q : S' = S
          · subst q
            rw [uniq k' h6]
            exact ⟨by omega, fun _ => by omega⟩
          · exact h4 S' k' (by omega) h6
    · have hn : ¬ (1 < pop S ∧ 0 ≤ tfR g c S ∧ y < svg g c S) := by
        rintro ⟨h1, h2, -⟩
        obtain ⟨m, m1, m2, -⟩ := tfR_ok hM (by omega) hS h2
        exact hg ⟨m, by omega, hS, by rw [← tfR_V]; exact m2, m1⟩
      rw [if_neg hn]
      refine ih (S + 1) x y (by omega) ?_
      have ne : ∀ S' k', S' < S + 1 → gd (mw g) c S' k' → S' < S := fun S' k' h1 h2 => by
        by_cases q : S' = S
        · subst q; exact absurd ⟨k', h2⟩ hg
        · omega
      rcases h with ⟨h1, h2, h⟩ | ⟨S0, j0, h1, h2, h3, h4, h5, h6⟩
      · exact Or.inl ⟨h1, h2, fun S' k' a1 a2 => h S' k' (ne S' k' a1 a2) a2⟩
      · exact Or.inr ⟨S0, j0, by omega, h2, h3, h4, h5, fun S' k' a1 a2 => h6 S' k' (ne S' k' a1 a2) a2⟩
theorem pop3 : ∀ S, S < 3 → pop S < 2 := by decide +kernel
theorem fb_all {g : Nat → Int32} {c j : Nat} {tk : Nat → Nat} (hM : MW g c) (hj : j ≤ 5) (ht : ∀ b, b < c → tk b ≤ 5) (htc : ∀ b, b < c → tcm g b = nI (tk b)) (hjj : g 1 = nI j) : ∃ y, MB (mw g) c tk j (2 ^ c) (fbR g c) y := by
  have h0 : MB (mw g) c tk j 3 (-1008) 0 := Or.inl ⟨rfl, rfl, fun S k h1 h2 => by have := pop3 S h1; have := h2.1; omega⟩
  obtain ⟨y, h⟩ := fb_MB hM hj ht htc hjj (2 ^ c - 3) 3 (-1008) 0 rfl h0
  refine ⟨y, ?_⟩
  have ne : ∀ S k, gd (mw g) c S k → S < 2 ^ c := fun S k h => h.2.1
  rcases h with ⟨h1, h2, h⟩ | ⟨S0, j0, h1, h2, h3, h4, h5, h6⟩
  · exact Or.inl ⟨h1, h2, fun S' k' a1 a2 => h S' k' (by omega) a2⟩
  · exact Or.inr ⟨S0, j0, h2.2.1, h2, h3, h4, h5, fun S' k' a1 a2 => h6 S' k' (by omega) a2⟩
