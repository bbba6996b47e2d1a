set_option maxRecDepth 100000 in
set_option maxHeartbeats 4000000 in
theorem whole_start {p : Program} {e : Env} {s : State} {m : MethodId} {below : List Frame} {meth : Method} {c : Code} (l : Launch) (hflags : l.flags = flags0) {b L : Nat} {xs : Nat → Int32} (hL : L ≤ 3584) (C0 : lw_At p s m meth c b L xs) : W p l e room_1 s m #[Value.ref b] below meth c s.heap [] 0 0 (lw_Z below #[Value.ref b] s) (entryFrame m ([Value.ref b] : List Value).toArray 4) := by
  obtain ⟨hx, hb, hr, hml, hown, hts, hX, hbl, hlocks, hgv⟩ := id C0
  have htl : ∀ w ∈ wsL_law, w.before #[Value.ref b] s = true := fun w hw => hts w (wsL_law_in w hw)
  have f3 : ∀ w ∈ wsX3_init, w ∈ wsL_law := fun w hw => (ggL_law_X3_init w hw).1
  have f4 : ∀ w ∈ wsX4_init, w ∈ wsL_law := fun w hw => (ggL_law_X4_init w hw).1
  have j_X0 : ∀ w ∈ wsX00, w ∈ wsL_law := fun w hw => f3 w ((by decide +kernel : ∀ w ∈ wsX00, w ∈ wsX3_init) w hw)
  have j_X1 : ∀ w ∈ wsX10, w ∈ wsL_law := fun w hw => f3 w ((by decide +kernel : ∀ w ∈ wsX10, w ∈ wsX3_init) w hw)
  have j_X2 : ∀ w ∈ wsX20, w ∈ wsL_law := fun w hw => f3 w ((by decide +kernel : ∀ w ∈ wsX20, w ∈ wsX3_init) w hw)
  have j_X3 : ∀ w ∈ wsX30, w ∈ wsL_law := fun w hw => f3 w ((by decide +kernel : ∀ w ∈ wsX30, w ∈ wsX3_init) w hw)
  have j_X4 : ∀ w ∈ wsX40, w ∈ wsL_law := fun w hw => f4 w ((by decide +kernel : ∀ w ∈ wsX40, w ∈ wsX4_init) w hw)
  obtain ⟨c0, i0, k0⟩ := u_known (C := RX0) (T := TX0) (N := 8) (n := 8) htl j_X0 (htl (.instantiable RX0 8) (f3 _ (by decide +kernel)))
  obtain ⟨c1, i1, k1⟩ := u_known (C := RX1) (T := TX1) (N := 3) (n := 3) htl j_X1 (htl (.instantiable RX1 3) (f3 _ (by decide +kernel)))
  obtain ⟨c2, i2, k2⟩ := u_known (C := RX2) (T := TX2) (N := 5) (n := 5) htl j_X2 (htl (.instantiable RX2 5) (f3 _ (by decide +kernel)))
  obtain ⟨c3, i3, k3⟩ := u_known (C := RX3) (T := TX3) (N := 4) (n := 4) htl j_X3 (htl (.instantiable RX3 4) (by decide +kernel))
  obtain ⟨c4, i4, k4⟩ := u_known (C := RX4) (T := TX4) (N := 7) (n := 7) htl j_X4 (htl (.instantiable RX4 7) (by decide +kernel))
  obtain ⟨D, hKc⟩ : ∃ D : va_G, ∀ (k : Nat) (q : vw_C), vwCl[k]? = some q → u_Kn s q.1 q.2.1 q.2.2 (D.1 k) (D.2 k) := by
    refine ⟨(fun k => if k = 0 then c0 else if k = 1 then c1 else if k = 2 then c2 else if k = 3 then c3 else c4, fun k => if k = 0 then i0 else if k = 1 then i1 else if k = 2 then i2 else if k = 3 then i3 else i4), ?_⟩
    intro k q hq
    match k, hq with
    | 0, hq => cases hq; exact k0
    | 1, hq => cases hq; exact k1
    | 2, hq => cases hq; exact k2
    | 3, hq => cases hq; exact k3
    | 4, hq => cases hq; exact k4
    | k + 5, hq => simp at hq
  have hs : ∀ w ∈ tables_1, w.before #[Value.ref b] s = true := fun w hw => hts w (List.mem_append_right _ hw)
  have o0 : va_AO RX0 s := va_AO.of (hs (.arrayOver (.object RX0)) (by decide +kernel))
  have o2 : va_AO RX2 s := va_AO.of (hs (.arrayOver (.object RX2)) (by decide +kernel))
  have hN : NW s := by
    refine ⟨fun q hq => va_Nw.of rfl (hs _ ?_), fun q hq => va_Nw.of rfl (hs _ ?_)⟩
    · revert q hq; decide +kernel
    · revert q hq; decide +kernel
  obtain ⟨cI, kI, mI, a1, a2, a3⟩ := Cond.arrayClass_spec (htl (.arrayClass .int) (f3 _ (by decide +kernel)))
  obtain ⟨cZ, kZ, mZ, z1, z2, z3⟩ := Cond.arrayClass_spec (htl (.arrayClass .boolean) (f3 _ (by decide +kernel)))
  obtain ⟨mB, cB, kB1, b1, b2, b3, b4, b5⟩ := Cond.arrayOver_spec o0
  obtain ⟨mP, cP, kP, p1, p2, p3, p4, p5⟩ := Cond.arrayOver_spec o2
  have hK : va_K D vwCl (tys4 (cI, cZ, cB, cP)) s := by
    refine ⟨hKc, fun k q hq => ?_⟩
    match k, hq with
    | 0, hq => cases hq; exact ⟨fun N z => ⟨fun k h => (by cases h), kI, a2, mI, a3⟩, a1⟩
    | 1, hq => cases hq; exact ⟨fun N z => ⟨fun k h => (by cases h), kZ, z2, mZ, z3⟩, z1⟩
    | 2, hq => cases hq; exact ⟨fun N z => ⟨fun k h => (by cases h), kB1, b3, mB, b4⟩, kB1, mB, b3, b4, b1, b5⟩
    | 3, hq => cases hq; exact ⟨fun N z => ⟨fun k h => (by cases h), kP, p3, mP, p4⟩, kP, mP, p3, p4, p1, p5⟩
    | k + 4, hq => simp [tys4] at hq
  have hC : Cg (p, l, e, room_1, s, m, #[Value.ref b], below, meth, c, 276, 6353, lw_Z below #[Value.ref b] s) D (fun q => s.heap.size ≤ q) (cI, cZ, cB, cP) cL_law RL 4 wsL_law 10 370 600000 7302250 := ⟨hx, hb, hml, hown, htl, hK, hN, ⟨o0, o2⟩, fun _ h => h, rfl, rfl, rfl, rfl⟩
  have key : Wg (p, l, e, room_1, s, m, #[Value.ref b], below, meth, c, 276, 6353, lw_Z below #[Value.ref b] s) D (fun q => s.heap.size ≤ q) 0 (fun _ => 0) (fun _ => .inl (cI, 0, .inl z0)) 0 0 0 [some (.ref b), none, none, none] [] := by
    refine w_new hC (q := 3) (ci := 3) (fs := [.null, .null, .null, .null]) tyX3 rfl j_X3 tyX3_ok (by decide +kernel) (by decide +kernel) (by decide +kernel) (fun j hj => by rcases (show j = 0 ∨ j = 1 ∨ j = 2 ∨ j = 3 by omega) with rfl | rfl | rfl | rfl <;> rfl) (by omega) (by omega) dL_law_0 rfl (fun a => ?_)
    refine w_dup hC (q := 4) rfl dL_law_3 rfl ?_
    refine w_cD hC (q := 7) (fun l => c_X3_init l (va_up_self _ _ _) (va_up_self _ _ _)) ggL_law_X3_init rfl (by decide +kernel) (by decide +kernel) (by decide +kernel) rfl (by decide +kernel) ⟨by decide, by decide⟩ (by omega) (by omega) rfl (Nat.le_of_ble_eq_true rfl) dL_law_4 rfl ?_
    rintro ⟨n1, U1, ent1⟩ ⟨w1, w2, w3, w4, w5, w6, w7, w8⟩
    have e1 : n1 = 270 := w1
    subst e1
    show Wg _ D _ 270 U1 ent1 _ _ _ _ _
    refine w_astore_n hC (q := 8) (L' := [_, _, _, _]) dL_law_7 (Nat.le_of_ble_eq_true rfl) rfl rfl ?_
    refine w_new hC (q := 11) (ci := 4) (fs := [.null, .null, .null, .int 0, .null, .null, .int 0]) tyX4 rfl j_X4 tyX4_ok (by decide +kernel) (by decide +kernel) (by decide +kernel) (fun j hj => by rcases (show j = 0 ∨ j = 1 ∨ j = 2 ∨ j = 3 ∨ j = 4 ∨ j = 5 ∨ j = 6 by omega) with rfl | rfl | rfl | rfl | rfl | rfl | rfl <;> rfl) (by omega) (by omega) dL_law_8 rfl (fun a4 => ?_)
    refine w_dup hC (q := 12) rfl dL_law_11 rfl ?_
    refine w_cD hC (q := 15) (fun l => c_X4_init l (n0 := 270) (va_up_self _ _ _) (va_up_self _ _ _)) ggL_law_X4_init rfl (by decide +kernel) (by decide +kernel) (by decide +kernel) rfl (by decide +kernel) ⟨by decide, by decide⟩ (by omega) (by omega) rfl (Nat.le_of_ble_eq_true rfl) dL_law_12 rfl ?_
    rintro ⟨n2, U2, ent2⟩ ⟨x1, x2, x3, x4⟩
    have e2 : n2 = 276 := x1
    subst e2
    show Wg _ D _ 276 U2 ent2 _ _ _ _ _
    refine w_astore_n hC (q := 16) (L' := [_, _, _, _]) dL_law_15 (Nat.le_of_ble_eq_true rfl) rfl rfl ?_
    refine w_iconst hC (x := 0) (q := 17) dL_law_16 (by decide) rfl ?_
    refine w_istore_n hC (q := 18) (L' := [_, _, _, _]) dL_law_17 (Nat.le_of_ble_eq_true rfl) rfl rfl ?_
    have u1 : ∀ k, k < 270 → U2 k = U1 k := fun k hk => by
      have := x2 k (by omega)
      rw [show U2 k = _ from this, va_up_ne _ _ (by omega)]
    have u2 : U2 270 = a4 := by
      have := x2 270 (by omega)
      rw [show U2 270 = _ from this]; exact va_up_self _ _ _
    have t1 : ∀ k, k < 270 → ent2 k = ent1 k := fun k hk => by
      have := x3 k hk
      rw [show ent2 k = _ from this, va_up_ne _ _ (by omega)]
    have x4' : ∀ i, i < 6 → ent2 (270 + i) = eR (cI, cZ, cB, cP) 270 U2 i := x4
    have v2 : U1 0 = a := w2
    have v3 : ent1 0 = .inr (3, [.ref (U1 1), .ref (U1 89), .ref (U1 266), .ref (U1 267)]) := w3
    have v4 : ∀ o, o < 88 → ent1 (1 + o) = eP (cI, cZ, cB, cP) 1 U1 o := w4
    have v5 : ent1 89 = qE cP 2 (fA 88 90 U1 2) := w5
    have v6 : ∀ b' o, b' < 2 → o < 88 → ent1 (90 + 88 * b' + o) = eP (cI, cZ, cB, cP) (90 + 88 * b') U1 o := w6
    have v7 : ent1 266 = .inl (cZ, 2, .inl z0) := w7
    have v8 : ∀ i, i < 3 → ent1 (267 + i) = eM (cI, cZ, cB, cP) 267 U1 i := w8
    have hpW : pW (cI, cZ, cB, cP) U2 ent2 := by
      refine ⟨?_, fun o ho => ?_, ?_, fun b' o hb' ho => ?_, ?_, fun i hi => ?_, x4'⟩
      · rw [t1 0 (by omega), v3, u1 1 (by omega), u1 89 (by omega), u1 266 (by omega), u1 267 (by omega)]
      · rw [t1 _ (by omega), v4 o ho]; exact eP_cg ho (fun k k1 k2 => u1 k (by omega))
      · rw [t1 _ (by omega), v5, fA_cg (U := U1) (U' := U2) (fun i hi => u1 _ (by omega))]
      · rw [t1 _ (by omega), v6 b' o hb' ho]; exact eP_cg ho (fun k k1 k2 => u1 k (by omega))
      · rw [t1 _ (by omega), v7]
      · rw [t1 _ (by omega), v8 i hi]
        unfold eM
        rw [u1 (267 + 1) (by omega), u1 (267 + 2) (by omega)]
    intro H locs ls hP hD hS hl
    have u0 : U2 0 = a := by rw [u1 0 (by omega), v2]
    have hl2 : lk_ok ls [some (.ref b), some (.ref a), some (.ref a4), some (.int 0)] := hl
    rw [← u0, ← u2] at hl2
    have hC2 : Cx (p, l, e, room_1, s, m, #[Value.ref b], below, meth, c, 276, 6353, lw_Z below #[Value.ref b] s) (U2, D, (cI, cZ, cB, cP), fun q => s.heap.size ≤ q) cL_law RL 4 wsL_law 10 370 := ⟨hx, hb, hml, hown, htl, hK, wl_ok hD, hN, by decide, by decide, rfl, rfl⟩
    refine law_loop hC2 (b := b) (N := L) (xs := xs) ⟨hX, hbl, Nat.not_le.mpr hbl⟩ hL (fun v L' => ?_) (L + 1) 0 v0 (by omega) (by omega) Rel_0 H locs ls (wl_P hpW hP) hS hl2
    intro H locs ls hP hS hl
    refine va_forget hS.2.2 ?_
    refine W.widen (k := 600000) (n := 7302250) (by omega) (by omega) ?_
    exact lw_ret hx hb hr hlocks dL_law_1081
  have hl := lv_entry [Value.ref b] (n := 4) (Nat.le_of_ble_eq_true rfl)
  rw [lg_entry_eq]
  exact key s.heap [] _ (fun k q h => by simp [wlU] at h) ⟨fun i j p q h => by simp [wlU] at h, fun k q h => by simp [wlU] at h⟩ va_S.rf (lk_entry (by simp [Value.category]) rfl (Nat.le_of_ble_eq_true rfl) hl)
