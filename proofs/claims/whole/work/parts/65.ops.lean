/-! each call of the law, on both sides -/
def Two (G : GG) (v : VV) (y1 : MethodName) (ws1 : List Cond) (fr1 lo1 : Nat) (as1 : List Value) (y2 : MethodName) (ws2 : List Cond) (fr2 lo2 : Nat) (as2 : List Value) : Prop := ∃ post1, (∀ l, MtI l G y1 ws1 fr1 lo1 as1 v post1) ∧ ∀ r1 v1, post1 r1 v1 → ∃ post2, (∀ l, MtI l G y2 ws2 fr2 lo2 as2 v1 post2) ∧ ∀ r2 v2, post2 r2 v2 → r1 = r2 ∧ Rel v2
theorem RelP.pw {v : VV} {P : Pg} (h : RelP v P) : PW v 1 P.1 := h.2.1.pw h.1
theorem RelP.mW {v : VV} {P : Pg} (h : RelP v P) : MW (v 271) P.1 := h.2.2.1.mW h.1
theorem RelP.bq {v : VV} {P : Pg} (h : RelP v P) : ∀ b, b < P.1 → beq (pv v 1 b) (mw (v 271) b) := fun b hb => (h.2.1.bq b hb).trans (h.2.2.1.bq b hb).sym
theorem RelP.n {v : VV} {P : Pg} (h : RelP v P) : ∀ b, b < P.1 → (pv v 1 b).1 ≤ 10 := h.pw.n
theorem k_blockCount {G : GG} {v : VV} (h : Rel v) : Two G v yX3_blockCount wsX3_blockCount 0 0 [.ref (G.1 0)] yX4_blockCount wsX4_blockCount 0 0 [.ref (G.1 270)] := by
  obtain ⟨P, hP⟩ := h
  refine ⟨_, fun l => c_X3_blockCount l hP.pw, fun r1 v1 h1 => ?_⟩
  obtain ⟨e1, e2⟩ := h1
  subst e2
  refine ⟨_, fun l => c_X4_blockCount l hP.mW, fun r2 v2 h2 => ?_⟩
  obtain ⟨e3, e4⟩ := h2
  subst e4
  refine ⟨?_, P, hP⟩
  rw [e1, e3]
theorem k_instructionCount {G : GG} {v : VV} {x : Int32} (h : Rel v) : Two G v yX3_instructionCount wsX3_instructionCount 1 21 [.ref (G.1 0), .int x] yX4_instructionCount wsX4_instructionCount 2 43 [.ref (G.1 270), .int x] := by
  obtain ⟨P, hP⟩ := h
  refine ⟨_, fun l => c_X3_instructionCount l hP.pw, fun r1 v1 h1 => ?_⟩
  obtain ⟨e1, e2⟩ := h1
  subst e2
  refine ⟨_, fun l => c_X4_instructionCount l hP.mW, fun r2 v2 h2 => ?_⟩
  obtain ⟨e3, e4⟩ := h2
  subst e4
  refine ⟨?_, P, hP⟩
  rw [e1, e3]; exact qc_cnt hP.1.1 hP.bq
theorem k_opcode {G : GG} {v : VV} {x y : Int32} (h : Rel v) : Two G v yX3_opcode wsX3_opcode 2 43 [.ref (G.1 0), .int x, .int y] yX4_opcode wsX4_opcode 3 66 [.ref (G.1 270), .int x, .int y] := by
  obtain ⟨P, hP⟩ := h
  refine ⟨_, fun l => c_X3_opcode l hP.pw, fun r1 v1 h1 => ?_⟩
  obtain ⟨e1, e2⟩ := h1
  subst e2
  refine ⟨_, fun l => c_X4_opcode l hP.mW, fun r2 v2 h2 => ?_⟩
  obtain ⟨e3, e4⟩ := h2
  subst e4
  refine ⟨?_, P, hP⟩
  rw [e1, e3]; exact qc_fld (by omega) hP.1.1 hP.n hP.bq
theorem k_destination {G : GG} {v : VV} {x y : Int32} (h : Rel v) : Two G v yX3_destination wsX3_destination 2 43 [.ref (G.1 0), .int x, .int y] yX4_destination wsX4_destination 3 66 [.ref (G.1 270), .int x, .int y] := by
  obtain ⟨P, hP⟩ := h
  refine ⟨_, fun l => c_X3_destination l hP.pw, fun r1 v1 h1 => ?_⟩
  obtain ⟨e1, e2⟩ := h1
  subst e2
  refine ⟨_, fun l => c_X4_destination l hP.mW, fun r2 v2 h2 => ?_⟩
  obtain ⟨e3, e4⟩ := h2
  subst e4
  refine ⟨?_, P, hP⟩
  rw [e1, e3]; exact qc_fld (by omega) hP.1.1 hP.n hP.bq
theorem k_operandA {G : GG} {v : VV} {x y : Int32} (h : Rel v) : Two G v yX3_operandA wsX3_operandA 2 43 [.ref (G.1 0), .int x, .int y] yX4_operandA wsX4_operandA 3 66 [.ref (G.1 270), .int x, .int y] := by
  obtain ⟨P, hP⟩ := h
  refine ⟨_, fun l => c_X3_operandA l hP.pw, fun r1 v1 h1 => ?_⟩
  obtain ⟨e1, e2⟩ := h1
  subst e2
  refine ⟨_, fun l => c_X4_operandA l hP.mW, fun r2 v2 h2 => ?_⟩
  obtain ⟨e3, e4⟩ := h2
  subst e4
  refine ⟨?_, P, hP⟩
  rw [e1, e3]; exact qc_fld (by omega) hP.1.1 hP.n hP.bq
theorem k_operandB {G : GG} {v : VV} {x y : Int32} (h : Rel v) : Two G v yX3_operandB wsX3_operandB 2 43 [.ref (G.1 0), .int x, .int y] yX4_operandB wsX4_operandB 3 66 [.ref (G.1 270), .int x, .int y] := by
  obtain ⟨P, hP⟩ := h
  refine ⟨_, fun l => c_X3_operandB l hP.pw, fun r1 v1 h1 => ?_⟩
  obtain ⟨e1, e2⟩ := h1
  subst e2
  refine ⟨_, fun l => c_X4_operandB l hP.mW, fun r2 v2 h2 => ?_⟩
  obtain ⟨e3, e4⟩ := h2
  subst e4
  refine ⟨?_, P, hP⟩
  rw [e1, e3]; exact qc_fld (by omega) hP.1.1 hP.n hP.bq
theorem k_lines {G : GG} {v : VV} {x y : Int32} (h : Rel v) : Two G v yX3_lines wsX3_lines 2 43 [.ref (G.1 0), .int x, .int y] yX4_lines wsX4_lines 3 66 [.ref (G.1 270), .int x, .int y] := by
  obtain ⟨P, hP⟩ := h
  refine ⟨_, fun l => c_X3_lines l hP.pw, fun r1 v1 h1 => ?_⟩
  obtain ⟨e1, e2⟩ := h1
  subst e2
  refine ⟨_, fun l => c_X4_lines l hP.mW, fun r2 v2 h2 => ?_⟩
  obtain ⟨e3, e4⟩ := h2
  subst e4
  refine ⟨?_, P, hP⟩
  rw [e1, e3]; exact qc_fld (by omega) hP.1.1 hP.n hP.bq
theorem k_terminatorKind {G : GG} {v : VV} {x : Int32} (h : Rel v) : Two G v yX3_terminatorKind wsX3_terminatorKind 1 21 [.ref (G.1 0), .int x] yX4_terminatorKind wsX4_terminatorKind 2 43 [.ref (G.1 270), .int x] := by
  obtain ⟨P, hP⟩ := h
  refine ⟨_, fun l => c_X3_terminatorKind l hP.pw, fun r1 v1 h1 => ?_⟩
  obtain ⟨e1, e2⟩ := h1
  subst e2
  refine ⟨_, fun l => c_X4_terminatorKind l hP.mW, fun r2 v2 h2 => ?_⟩
  obtain ⟨e3, e4⟩ := h2
  subst e4
  refine ⟨?_, P, hP⟩
  rw [e1, e3]; exact qc_kind hP.1.1 hP.bq
theorem k_terminatorOperand {G : GG} {v : VV} {x y : Int32} (h : Rel v) : Two G v yX3_terminatorOperand wsX3_terminatorOperand 1 21 [.ref (G.1 0), .int x, .int y] yX4_terminatorOperand wsX4_terminatorOperand 2 43 [.ref (G.1 270), .int x, .int y] := by
  obtain ⟨P, hP⟩ := h
  refine ⟨_, fun l => c_X3_terminatorOperand l hP.pw, fun r1 v1 h1 => ?_⟩
  obtain ⟨e1, e2⟩ := h1
  subst e2
  refine ⟨_, fun l => c_X4_terminatorOperand l hP.mW, fun r2 v2 h2 => ?_⟩
  obtain ⟨e3, e4⟩ := h2
  subst e4
  refine ⟨?_, P, hP⟩
  rw [e1, e3]; exact qc_opd hP.1.1 hP.bq
theorem k_tailHash {G : GG} {v : VV} {x y : Int32} (h : Rel v) : Two G v yX3_tailHash wsX3_tailHash 1 23 [.ref (G.1 0), .int x, .int y] yX4_tailHash wsX4_tailHash 2 43 [.ref (G.1 270), .int x, .int y] := by
  obtain ⟨P, hP⟩ := h
  refine ⟨_, fun l => c_X3_tailHash l hP.pw, fun r1 v1 h1 => ?_⟩
  obtain ⟨e1, e2⟩ := h1
  subst e2
  refine ⟨_, fun l => c_X4_tailHash l hP.mW, fun r2 v2 h2 => ?_⟩
  obtain ⟨e3, e4⟩ := h2
  subst e4
  refine ⟨?_, P, hP⟩
  rw [e1, e3]; exact qc_hash hP.1.1 hP.n hP.bq
theorem k_commonTail {G : GG} {v : VV} {x y : Int32} (h : Rel v) : Two G v yX3_commonTail wsX3_commonTail 2 47 [.ref (G.1 0), .int x, .int y] yX4_commonTail wsX4_commonTail 4 91 [.ref (G.1 270), .int x, .int y] := by
  obtain ⟨P, hP⟩ := h
  refine ⟨_, fun l => c_X3_commonTail l hP.pw, fun r1 v1 h1 => ?_⟩
  obtain ⟨e1, e2⟩ := h1
  subst e2
  refine ⟨_, fun l => c_X4_commonTail l hP.mW, fun r2 v2 h2 => ?_⟩
  obtain ⟨e3, e4⟩ := h2
  subst e4
  refine ⟨?_, P, hP⟩
  rw [e1, e3]; exact qc_two (fun _ _ _ _ a b => tl_cg a b) hP.1.1 hP.bq
theorem k_codeSize {G : GG} {v : VV} (h : Rel v) : Two G v yX3_codeSize wsX3_codeSize 2 43 [.ref (G.1 0)] yX4_codeSize wsX4_codeSize 3 62 [.ref (G.1 270)] := by
  obtain ⟨P, hP⟩ := h
  refine ⟨_, fun l => c_X3_codeSize l hP.pw, fun r1 v1 h1 => ?_⟩
  obtain ⟨e1, e2⟩ := h1
  subst e2
  refine ⟨_, fun l => c_X4_codeSize l hP.mW, fun r2 v2 h2 => ?_⟩
  obtain ⟨e3, e4⟩ := h2
  subst e4
  refine ⟨?_, P, hP⟩
  rw [e1, e3]; exact sz_same hP.2.1 hP.2.2.1 hP.1 _ _ _ (by omega)
theorem k_tailSaving {G : GG} {v : VV} {x : Int32} (h : Rel v) : Two G v yX3_tailSaving wsX3_tailSaving 4 92 [.ref (G.1 0), .int x] yX4_tailSaving wsX4_tailSaving 6 138 [.ref (G.1 270), .int x] := by
  obtain ⟨P, hP⟩ := h
  refine ⟨_, fun l => c_X3_tailSaving l hP.pw, fun r1 v1 h1 => ?_⟩
  obtain ⟨e1, e2⟩ := h1
  subst e2
  refine ⟨_, fun l => c_X4_tailSaving l hP.mW, fun r2 v2 h2 => ?_⟩
  obtain ⟨e3, e4⟩ := h2
  subst e4
  refine ⟨?_, P, hP⟩
  rw [e1, e3]; rw [c_ts hP.2.1 hP.1, m_ts hP.2.2.1 hP.1]
theorem k_traceLength {G : GG} {v : VV} (h : Rel v) : Two G v yX3_traceLength wsX3_traceLength 0 0 [.ref (G.1 0)] yX4_traceLength wsX4_traceLength 0 0 [.ref (G.1 270)] := by
  obtain ⟨P, hP⟩ := h
  obtain ⟨e, he, hn1, hn2, hn3, hn4⟩ := hP.2.2.2.1
  refine ⟨_, fun l => c_X3_traceLength l , fun r1 v1 h1 => ?_⟩
  obtain ⟨e1, e2⟩ := h1
  subst e2
  refine ⟨_, fun l => c_X4_traceLength l , fun r2 v2 h2 => ?_⟩
  obtain ⟨e3, e4⟩ := h2
  subst e4
  refine ⟨?_, P, hP⟩
  rw [e1, e3]; rw [hn1, hn2]
theorem k_trace {G : GG} {v : VV} {x : Int32} (h : Rel v) : Two G v yX3_trace wsX3_trace 0 0 [.ref (G.1 0), .int x] yX4_trace wsX4_trace 1 22 [.ref (G.1 270), .int x] := by
  obtain ⟨P, hP⟩ := h
  obtain ⟨e, he, hn1, hn2, hn3, hn4⟩ := hP.2.2.2.1
  refine ⟨_, fun l => c_X3_trace l hn1 he, fun r1 v1 h1 => ?_⟩
  obtain ⟨e1, e2⟩ := h1
  subst e2
  refine ⟨_, fun l => c_X4_trace l hn2 he, fun r2 v2 h2 => ?_⟩
  obtain ⟨e3, e4⟩ := h2
  subst e4
  refine ⟨?_, P, hP⟩
  rw [e1, e3]
  by_cases hi : inb x e = true
  · rw [if_pos hi, if_pos hi]; exact hn4 _ (inb_tn (by omega) hi).2
  · rw [if_neg hi, if_neg hi]
theorem k_register {G : GG} {v : VV} {x : Int32} (h : Rel v) : Two G v yX3_register wsX3_register 0 0 [.ref (G.1 0), .int x] yX4_register wsX4_register 1 22 [.ref (G.1 270), .int x] := by
  obtain ⟨P, hP⟩ := h
  obtain ⟨e, he, hn1, hn2, hn3, hn4⟩ := hP.2.2.2.1
  refine ⟨_, fun l => c_X3_register l , fun r1 v1 h1 => ?_⟩
  obtain ⟨e1, e2⟩ := h1
  subst e2
  refine ⟨_, fun l => c_X4_register l , fun r2 v2 h2 => ?_⟩
  obtain ⟨e3, e4⟩ := h2
  subst e4
  refine ⟨?_, P, hP⟩
  rw [e1, e3]
  by_cases hi : inb x 8 = true
  · rw [if_pos hi, if_pos hi]; exact hn3 _ (inb_tn (by omega) hi).2
  · rw [if_neg hi, if_neg hi]
theorem st_far {q b c : Nat} (hb : b < c) (hc : c ≤ 12) (hq : 89 ≤ q) : kB 1 b + 6 < q ∨ q < kB 1 b := by unfold kB; omega
theorem Rel_st {v v1 v2 : VV} {P : Pg} {b : Nat} {x : Bv} (hP : RelP v P) (hb : b < P.1) (hW : BW x P.1) (f1 : ∀ q, (kB 1 b + 6 < q ∨ q < kB 1 b) → v1 q = v q) (h1 : bH v1 (kB 1 b) x) (f2 : ∀ q, q ≠ 271 → v2 q = v1 q) (f3 : ∀ i, (i < 10 + 55 * b ∨ 10 + 55 * b + 54 < i) → v2 271 i = v1 271 i) (h2 : mH (v2 271) b x) : Rel v2 := by
  have hc := hP.1.1
  refine Rel_op hP (fun q hq => f1 q (st_far hb hc hq)) (fun q a _ => f2 q a) (by rw [f2 _ (by omega)]) (WF_set hP.1 hW) (PA_set hP.2.1 hP.1 hb f1 h1) (MA_set hP.2.2.1 (fun i hi => ?_) h2)
  rw [f3 i hi, f1 _ (st_far hb hc (by omega))]
theorem bH_at {v v1 : VV} {P : Pg} {b : Nat} (hP : RelP v P) (hb : b < P.1) (f1 : v1 271 = v 271) : mH (v1 271) b (P.2.2.1 b) := by
  rw [f1]; exact hP.2.2.1.2.2.2 b hb
theorem k_addBlock {G : GG} {v : VV} (h : Rel v) : Two G v yX3_addBlock wsX3_addBlock 3 66 [.ref (G.1 0)] yX4_addBlock wsX4_addBlock 4 87 [.ref (G.1 270)] := by
  obtain ⟨P, hP⟩ := h
  refine ⟨_, fun l => c_X3_addBlock l hP.pw, fun r1 v1 h1 => ?_⟩
  obtain ⟨e1, e2⟩ := h1
  have f1 : ∀ q, 89 ≤ q → v1 q = v q := fun q hq => by
    rw [e2]
    by_cases hc : P.1 < 12
    · rw [if_pos hc]; exact nwB_far (by unfold kB; omega) (by omega)
    · rw [if_neg hc]
  refine ⟨_, fun l => c_X4_addBlock l (c := P.1) (by rw [f1 _ (by omega)]; exact hP.mW.1) hP.1.1, fun r2 v2 h2 => ?_⟩
  obtain ⟨e3, e4⟩ := h2
  refine ⟨by rw [e1, e3], ?_⟩
  by_cases hc : P.1 < 12
  · rw [if_pos hc] at e2 e4
    refine Rel_op hP f1 (fun q a _ => by rw [e4]; exact mnw_ne a) (by rw [e4, mnw_ne (by omega)]) (WF_new hP.1 hc) (by rw [e2]; exact PA_new hP.2.1 hc) ?_
    rw [e4]
    exact MA_new (by rw [f1 _ (by omega)]; exact hP.2.2.1)
  · rw [if_neg hc] at e2 e4
    rw [e4, e2]; exact ⟨P, hP⟩
theorem k_addInstruction {G : GG} {v : VV} {x o d a b w : Int32} (h : Rel v) : Two G v yX3_addInstruction wsX3_addInstruction 2 43 [.ref (G.1 0), .int x, .int o, .int d, .int a, .int b, .int w] yX4_addInstruction wsX4_addInstruction 3 68 [.ref (G.1 270), .int x, .int o, .int d, .int a, .int b, .int w] := by
  obtain ⟨P, hP⟩ := h
  have hc := hP.1.1
  refine ⟨_, fun l => c_X3_addInstruction l hP.pw, fun r1 v1 h1 => ?_⟩
  obtain ⟨e1, e2⟩ := h1
  have f1 : ∀ q, 89 ≤ q → v1 q = v q := fun q hq => by
    rw [e2]
    split
    · rename_i hcond
      simp only [Bool.and_eq_true] at hcond
      exact ap_far (st_far (inb_tn (by omega) hcond.1.1.1).2 hc hq)
    · rfl
  refine ⟨_, fun l => c_X4_addInstruction l (c := P.1) (by rw [f1 _ (by omega)]; exact hP.mW), fun r2 v2 h2 => ?_⟩
  obtain ⟨e3, e4⟩ := h2
  rw [f1 271 (by omega)] at e3 e4
  refine ⟨by rw [e1, e3]; exact qc_ad hc hP.bq, ?_⟩
  by_cases hx : inb x P.1 = true
  · have hb := (inb_tn (by omega) hx).2
    have nB := bH_nb (hP.2.1.2.2.2.2 _ hb)
    have nM := mH_mnb (hP.2.2.1.2.2.2 _ hb)
    rw [nB] at e2
    rw [nM] at e4
    by_cases hcond : (inb x P.1 && opF o d a b && lnF w && decide ((P.2.2.1 (tn x)).1 < 10)) = true
    · rw [if_pos hcond] at e2 e4
      simp only [Bool.and_eq_true, decide_eq_true_eq] at hcond
      refine Rel_st (v1 := v1) hP hb (BW_ap (l := 1 <<< (w &&& 31)) (hP.1.2.2 _ hb) (opF_ok hcond.1.1.2)) (fun q hq => by rw [e2]; exact ap_far hq) (by rw [e2]; exact bH_ap (hP.2.1.2.2.2.2 _ hb) hcond.2) (fun q hq => by rw [e4]; exact map5_ne hq) (fun i hi => by rw [e4]; exact map5_at hcond.2 (by omega)) (by rw [e4]; exact mH_ap (bH_at hP hb (f1 _ (by omega))) hcond.2)
    · rw [if_neg hcond] at e2 e4
      rw [e4, e2]; exact ⟨P, hP⟩
  · have n1 : ∀ z : Bool, ¬ (inb x P.1 && opF o d a b && lnF w && z) = true := fun z e => by
      simp only [Bool.and_eq_true] at e
      exact hx e.1.1.1
    rw [if_neg (n1 _)] at e2 e4
    rw [e4, e2]; exact ⟨P, hP⟩
theorem k_setJump {G : GG} {v : VV} {x y : Int32} (h : Rel v) : Two G v yX3_setJump wsX3_setJump 1 25 [.ref (G.1 0), .int x, .int y] yX4_setJump wsX4_setJump 3 65 [.ref (G.1 270), .int x, .int y] := by
  obtain ⟨P, hP⟩ := h
  have hc := hP.1.1
  refine ⟨_, fun l => c_X3_setJump l hP.pw, fun r1 v1 h1 => ?_⟩
  obtain ⟨e1, e2⟩ := h1
  have f1 : ∀ q, 89 ≤ q → v1 q = v q := fun q hq => by
    rw [e2]
    split
    · rename_i hcond
      simp only [Bool.and_eq_true] at hcond
      exact tm_far (st_far (inb_tn (by omega) hcond.1).2 hc hq)
    · rfl
  refine ⟨_, fun l => c_X4_setJump l (c := P.1) (by rw [f1 _ (by omega)]; exact hP.mW), fun r2 v2 h2 => ?_⟩
  obtain ⟨e3, e4⟩ := h2
  rw [f1 271 (by omega)] at e3
  have hk : inb x P.1 = true → v (kB 1 (tn x)) 6 = v 271 (10 + 55 * tn x + 51) := fun hx => by
    have hb := (inb_tn (by omega) hx).2
    have k1 := (hP.2.1.2.2.2.2 _ hb).2.2.2.1
    have k2 : v 271 (10 + 55 * tn x + 51) = (P.2.2.1 (tn x)).2.2 0 := (hP.2.2.1.2.2.2 _ hb).2.2.2 0 (by omega)
    rw [k1, k2]
  refine ⟨?_, ?_⟩
  · rw [e1, e3]
    by_cases hx : inb x P.1 = true
    · rw [hk hx]
    · rw [Bool.eq_false_iff.mpr hx]; rfl
  · by_cases hcond : (inb x P.1 && inb y P.1) = true
    · rw [if_pos hcond] at e2 e4
      simp only [Bool.and_eq_true] at hcond
      have hx := hcond.1
      have hb := (inb_tn (by omega) hx).2
      refine Rel_st (v1 := v1) hP hb (BW_tm (hP.1.2.2 _ hb) (Or.inl ⟨rfl, inb_vp (by omega) hcond.2⟩)) (fun q hq => by rw [e2]; exact tm_far hq) (by rw [e2]; exact bH_tm (hP.2.1.2.2.2.2 _ hb)) (fun q hq => by rw [e4]; exact mtm_ne hq) (fun i hi => by rw [e4]; exact mtm_at (by omega)) (by rw [e4]; exact mH_tm (bH_at hP hb (f1 _ (by omega))))
    · rw [if_neg hcond] at e2 e4
      rw [e4, e2]; exact ⟨P, hP⟩
theorem k_setBranch {G : GG} {v : VV} {x z y w : Int32} (h : Rel v) : Two G v yX3_setBranch wsX3_setBranch 1 25 [.ref (G.1 0), .int x, .int z, .int y, .int w] yX4_setBranch wsX4_setBranch 3 65 [.ref (G.1 270), .int x, .int z, .int y, .int w] := by
  obtain ⟨P, hP⟩ := h
  have hc := hP.1.1
  refine ⟨_, fun l => c_X3_setBranch l hP.pw, fun r1 v1 h1 => ?_⟩
  obtain ⟨e1, e2⟩ := h1
  have f1 : ∀ q, 89 ≤ q → v1 q = v q := fun q hq => by
    rw [e2]
    split
    · rename_i hcond
      simp only [Bool.and_eq_true] at hcond
      exact tm_far (st_far (inb_tn (by omega) hcond.1.1.1).2 hc hq)
    · rfl
  refine ⟨_, fun l => c_X4_setBranch l (c := P.1) (by rw [f1 _ (by omega)]; exact hP.mW), fun r2 v2 h2 => ?_⟩
  obtain ⟨e3, e4⟩ := h2
  rw [f1 271 (by omega)] at e3
  have hk : inb x P.1 = true → v (kB 1 (tn x)) 6 = v 271 (10 + 55 * tn x + 51) := fun hx => by
    have hb := (inb_tn (by omega) hx).2
    have k1 := (hP.2.1.2.2.2.2 _ hb).2.2.2.1
    have k2 : v 271 (10 + 55 * tn x + 51) = (P.2.2.1 (tn x)).2.2 0 := (hP.2.2.1.2.2.2 _ hb).2.2.2 0 (by omega)
    rw [k1, k2]
  refine ⟨?_, ?_⟩
  · rw [e1, e3]
    by_cases hx : inb x P.1 = true
    · rw [hk hx]
    · rw [Bool.eq_false_iff.mpr hx]; rfl
  · by_cases hcond : (inb x P.1 && inb y P.1 && inb w P.1 && isG z) = true
    · rw [if_pos hcond] at e2 e4
      simp only [Bool.and_eq_true] at hcond
      have hx := hcond.1.1.1
      have hb := (inb_tn (by omega) hx).2
      refine Rel_st (v1 := v1) hP hb (BW_tm (hP.1.2.2 _ hb) (Or.inr (Or.inl ⟨rfl, vp_mono (inb_vp (by omega) hcond.2) (by omega), inb_vp (by omega) hcond.1.1.2, inb_vp (by omega) hcond.1.2⟩))) (fun q hq => by rw [e2]; exact tm_far hq) (by rw [e2]; exact bH_tm (hP.2.1.2.2.2.2 _ hb)) (fun q hq => by rw [e4]; exact mtm_ne hq) (fun i hi => by rw [e4]; exact mtm_at (by omega)) (by rw [e4]; exact mH_tm (bH_at hP hb (f1 _ (by omega))))
    · rw [if_neg hcond] at e2 e4
      rw [e4, e2]; exact ⟨P, hP⟩
theorem k_setReturn {G : GG} {v : VV} {x z : Int32} (h : Rel v) : Two G v yX3_setReturn wsX3_setReturn 1 25 [.ref (G.1 0), .int x, .int z] yX4_setReturn wsX4_setReturn 3 65 [.ref (G.1 270), .int x, .int z] := by
  obtain ⟨P, hP⟩ := h
  have hc := hP.1.1
  refine ⟨_, fun l => c_X3_setReturn l hP.pw, fun r1 v1 h1 => ?_⟩
  obtain ⟨e1, e2⟩ := h1
  have f1 : ∀ q, 89 ≤ q → v1 q = v q := fun q hq => by
    rw [e2]
    split
    · rename_i hcond
      simp only [Bool.and_eq_true] at hcond
      exact tm_far (st_far (inb_tn (by omega) hcond.1).2 hc hq)
    · rfl
  refine ⟨_, fun l => c_X4_setReturn l (c := P.1) (by rw [f1 _ (by omega)]; exact hP.mW), fun r2 v2 h2 => ?_⟩
  obtain ⟨e3, e4⟩ := h2
  rw [f1 271 (by omega)] at e3
  have hk : inb x P.1 = true → v (kB 1 (tn x)) 6 = v 271 (10 + 55 * tn x + 51) := fun hx => by
    have hb := (inb_tn (by omega) hx).2
    have k1 := (hP.2.1.2.2.2.2 _ hb).2.2.2.1
    have k2 : v 271 (10 + 55 * tn x + 51) = (P.2.2.1 (tn x)).2.2 0 := (hP.2.2.1.2.2.2 _ hb).2.2.2 0 (by omega)
    rw [k1, k2]
  refine ⟨?_, ?_⟩
  · rw [e1, e3]
    by_cases hx : inb x P.1 = true
    · rw [hk hx]
    · rw [Bool.eq_false_iff.mpr hx]; rfl
  · by_cases hcond : (inb x P.1 && isG z) = true
    · rw [if_pos hcond] at e2 e4
      simp only [Bool.and_eq_true] at hcond
      have hx := hcond.1
      have hb := (inb_tn (by omega) hx).2
      refine Rel_st (v1 := v1) hP hb (BW_tm (hP.1.2.2 _ hb) (Or.inr (Or.inr rfl))) (fun q hq => by rw [e2]; exact tm_far hq) (by rw [e2]; exact bH_tm (hP.2.1.2.2.2.2 _ hb)) (fun q hq => by rw [e4]; exact mtm_ne hq) (fun i hi => by rw [e4]; exact mtm_at (by omega)) (by rw [e4]; exact mH_tm (bH_at hP hb (f1 _ (by omega))))
    · rw [if_neg hcond] at e2 e4
      rw [e4, e2]; exact ⟨P, hP⟩
theorem k_setJumpCost {G : GG} {v : VV} {x : Int32} (h : Rel v) : Two G v yX3_setJumpCost wsX3_setJumpCost 0 0 [.ref (G.1 0), .int x] yX4_setJumpCost wsX4_setJumpCost 1 22 [.ref (G.1 270), .int x] := by
  obtain ⟨P, hP⟩ := h
  have hc := hP.1.1
  refine ⟨_, fun l => c_X3_setJumpCost l, fun r1 v1 h1 => ?_⟩
  obtain ⟨e1, e2⟩ := h1
  have f1 : ∀ q, 89 ≤ q → v1 q = v q := fun q hq => by
    rw [e2]
    split
    · exact u2_ne (by omega)
    · rfl
  refine ⟨_, fun l => c_X4_setJumpCost l, fun r2 v2 h2 => ?_⟩
  obtain ⟨e3, e4⟩ := h2
  refine ⟨by rw [e1, e3, f1 271 (by omega), hP.2.1.2.1, hP.2.2.1.2.1], ?_⟩
  by_cases hx : inb x 6 = true
  · rw [if_pos hx] at e2 e4
    obtain ⟨x1, x2⟩ := inb_tn (by omega) hx
    refine Rel_op (P' := (P.1, tn x, P.2.2.1, P.2.2.2)) hP f1 (fun q a _ => by rw [e4]; exact u2_ne a) (by rw [e4, u2_ne (by omega)]) ⟨hc, by show tn x ≤ 5; omega, hP.1.2.2⟩ ?_ ?_
    · obtain ⟨g1, g2, g3, g4, g5⟩ := hP.2.1
      rw [e2]
      exact ⟨by rw [u2_at (by omega)]; exact g1, by rw [u2_same]; exact x1, by rw [u2_ne (by omega)]; exact g3, by rw [u2_ne (by omega)]; exact g4, fun b hb => (g5 b hb).far (fun q q1 q2 => u2_ne (by unfold kB at q1; omega))⟩
    · obtain ⟨g1, g2, g3, g4⟩ := hP.2.2.1
      rw [← f1 271 (by omega)] at g1 g3 g4
      rw [e4]
      exact ⟨by rw [u2_at (by omega)]; exact g1, by rw [u2_same]; exact x1, fun r hr => by rw [u2_at (by omega)]; exact g3 r hr, fun b hb => (g4 b hb).far (fun i i1 i2 => u2_at (by omega))⟩
  · rw [if_neg hx] at e2 e4
    rw [e4, e2]; exact ⟨P, hP⟩
theorem k_setRegister {G : GG} {v : VV} {x y : Int32} (h : Rel v) : Two G v yX3_setRegister wsX3_setRegister 1 20 [.ref (G.1 0), .int x, .int y] yX4_setRegister wsX4_setRegister 2 42 [.ref (G.1 270), .int x, .int y] := by
  obtain ⟨P, hP⟩ := h
  have hc := hP.1.1
  refine ⟨_, fun l => c_X3_setRegister l, fun r1 v1 h1 => ?_⟩
  obtain ⟨e1, e2⟩ := h1
  have f1 : ∀ q, 89 ≤ q → v1 q = v q := fun q hq => by
    rw [e2]
    split
    · exact u2_ne (by omega)
    · rfl
  refine ⟨_, fun l => c_X4_setRegister l, fun r2 v2 h2 => ?_⟩
  obtain ⟨e3, e4⟩ := h2
  refine ⟨by rw [e1, e3], ?_⟩
  by_cases hx : isG x = true
  · rw [if_pos hx] at e2 e4
    obtain ⟨x1, x2⟩ := inb_tn (c := 7) (by omega) hx
    refine Rel_op (P' := (P.1, P.2.1, P.2.2.1, fun r => if r = tn x then y else P.2.2.2 r)) hP f1 (fun q a _ => by rw [e4]; exact u2_ne a) (by rw [e4, u2_ne (by omega)]) ⟨hc, hP.1.2.1, hP.1.2.2⟩ ?_ ?_
    · obtain ⟨g1, g2, g3, g4, g5⟩ := hP.2.1
      rw [e2]
      refine ⟨by rw [u2_ne (by omega)]; exact g1, by rw [u2_ne (by omega)]; exact g2, fun r hr => ?_, ?_, fun b hb => (g5 b hb).far (fun q q1 q2 => u2_ne (by have hb2 : b < P.1 := hb; unfold kB at q2; omega))⟩
      · show u2 v 87 (tn x) y 87 r = if r = tn x then y else P.2.2.2 r
        rw [u2_i]
        by_cases er : r = tn x
        · rw [if_pos er, if_pos er]
        · rw [if_neg er, if_neg er]; exact g3 r hr
      · show u2 v 87 (tn x) y 87 7 = 0
        rw [u2_at (by omega)]; exact g4
    · obtain ⟨g1, g2, g3, g4⟩ := hP.2.2.1
      rw [← f1 271 (by omega)] at g1 g2 g3 g4
      rw [e4]
      refine ⟨by rw [u2_at (by omega)]; exact g1, by rw [u2_at (by omega)]; exact g2, fun r hr => ?_, fun b hb => (g4 b hb).far (fun i i1 i2 => u2_at (by omega))⟩
      rw [u2_i]
      show _ = if r = tn x then y else P.2.2.2 r
      by_cases er : r = tn x
      · rw [if_pos er, if_pos (by omega)]
      · rw [if_neg er, if_neg (by omega)]; exact g3 r hr
  · rw [if_neg hx] at e2 e4
    rw [e4, e2]; exact ⟨P, hP⟩
theorem mmF_ne {c S m q : Nat} (h : q ≠ 271) : ∀ (f b : Nat) (v : VV), mmF c S m f b v q = v q := by
  intro f
  induction f with
  | zero => intro b v; rfl
  | succ f ih =>
    intro b v
    rw [mmF, ih]
    split
    · unfold mmS; rw [mcut_ne h, muF_ne h]
    · rfl
theorem mgm_ne {v : VV} {c S m q : Nat} (h : q ≠ 271) : mgm v c S m q = v q := by unfold mgm; rw [mmF_ne h, mcT_ne h, mnw_ne h]
theorem mtV2_ne {v : VV} {c q : Nat} {x : Int32} (h : q ≠ 271) : mtV2 v c x q = v q := by
  unfold mtV2
  split
  · exact mgm_ne h
  · rfl
theorem mtV_far {v : VV} {c q : Nat} {x : Int32} (hc : c ≤ 12) (h : 89 ≤ q) : mtV v c x q = v q := by
  unfold mtV
  split
  · rename_i hh
    have := hh.2.2
    rw [mgF_far (fun b hb => by unfold kB; omega) _ _ _ _ (by omega), nwB_far (by unfold kB; omega) (by omega)]
  · rfl
theorem mpE_far {w : VV} {a b c m na n2 t q : Nat} (ha : a < 12) (hb : b < 12) (hc : c < 12) (h : 89 ≤ q) : mpE w 1 a b c m na n2 t q = w q := by
  unfold mpE
  rw [rpP_far (by unfold kB; omega), rpP_far (by unfold kB; omega), tkP_far (by unfold kB; omega) (by unfold kB; omega), unF_far (by unfold kB; omega), apT_far (by unfold kB; omega)]
theorem mwV_far {v : VV} {c q : Nat} {x y : Int32} (hW : PW v 1 c) (h : 89 ≤ q) : mwV v c x y q = v q := by
  unfold mwV
  split
  · rename_i hh
    have h12 := hh.2
    obtain ⟨-, x2, -, y2, -⟩ := ptc_ok hW hh.1
    unfold mpV
    rw [mpE_far (by omega) (by omega) h12 h, nwB_far (by unfold kB; omega) (by omega)]
  · rfl
theorem mpp_ne {v : VV} {b n m t q : Nat} {x : Int32} (h : q ≠ 271) : mpp v b n m t x q = v q := by unfold mpp; rw [map5_ne h, mcut_ne h]
theorem mpM_ne {w : VV} {c a b m t q : Nat} (h : q ≠ 271) : mpM w c a b m t q = w q := by unfold mpM; rw [mpp_ne h, mpp_ne h, u2_ne h, u2_ne h, u2_ne h, muF_ne h, mcT_ne h, mnw_ne h]
theorem mwV2_ne {v : VV} {c q : Nat} {x y : Int32} (h : q ≠ 271) (h2 : q ≠ 270) : mwV2 v c x y q = v q := by
  unfold mwV2
  split
  · split
    · rw [mpM_ne h, plen_ne h2]
    · exact plen_ne h2
  · rfl
theorem mwV2_6 {v : VV} {c : Nat} {x y : Int32} : mwV2 v c x y 270 6 = v 270 6 := by
  unfold mwV2
  split
  · split
    · rw [mpM_ne (by omega)]; exact plen_6
    · exact plen_6
  · rfl
theorem plS_ne {v : VV} {c q : Nat} {x y : Int32} (h2 : q ≠ 270) : plS v c x y q = v q := by
  unfold plS
  split
  · exact plen_ne h2
  · rfl
theorem plS_6 {v : VV} {c : Nat} {x y : Int32} : plS v c x y 270 6 = v 270 6 := by
  unfold plS
  split
  · exact plen_6
  · rfl
theorem k_bestTail {G : GG} {v : VV} (h : Rel v) : Two G v yX3_bestTail wsX3_bestTail 4 96 [.ref (G.1 0)] yX4_bestTail wsX4_bestTail 7 161 [.ref (G.1 270)] := by
  obtain ⟨P, hP⟩ := h
  refine ⟨_, fun l => c_X3_bestTail l hP.pw, fun r1 v1 h1 => ?_⟩
  obtain ⟨e1, e2⟩ := h1
  have f1 : ∀ q, 89 ≤ q → v1 q = v q := fun q hq => by rw [e2]; exact bo_far (by omega) _ _ _ _ _
  refine ⟨_, fun l => c_X4_bestTail l (c := P.1) (by rw [f1 _ (by omega)]; exact hP.mW), fun r2 v2 h2 => ?_⟩
  obtain ⟨e3, e4⟩ := h2
  subst e4
  refine ⟨by rw [e1, e3, f1 271 (by omega)]; exact best_same hP.2.1 hP.2.2.1 hP.1, ?_⟩
  exact Rel_op hP f1 (fun q _ _ => rfl) rfl hP.1 (by rw [e2]; exact PA_bo hP.2.1 hP.1) (by rw [f1 271 (by omega)]; exact hP.2.2.1)
theorem k_mergeTail {G : GG} {v : VV} {x : Int32} (h : Rel v) : Two G v yX3_mergeTail wsX3_mergeTail 4 92 [.ref (G.1 0), .int x] yX4_mergeTail wsX4_mergeTail 6 141 [.ref (G.1 270), .int x] := by
  obtain ⟨P, hP⟩ := h
  refine ⟨_, fun l => c_X3_mergeTail l hP.pw, fun r1 v1 h1 => ?_⟩
  obtain ⟨e1, e2⟩ := h1
  have f1 : ∀ q, 89 ≤ q → v1 q = v q := fun q hq => by rw [e2]; exact mtV_far hP.1.1 hq
  have hM : MA (v1 271) P := by rw [f1 _ (by omega)]; exact hP.2.2.1
  refine ⟨_, fun l => c_X4_mergeTail l (c := P.1) (hM.mW hP.1), fun r2 v2 h2 => ?_⟩
  obtain ⟨e3, e4⟩ := h2
  have a := c_mt (x := x) hP.2.1 hP.1
  have b := m_mt (x := x) hM hP.1
  exact ⟨by rw [e1, e3, a.1, b.1], Rel_op hP f1 (fun q h _ => by rw [e4]; exact mtV2_ne h) (by rw [e4, mtV2_ne (by omega)]) (WF_mt hP.2.1.n hP.1) (by rw [e2]; exact a.2) (by rw [e4]; exact b.2)⟩
theorem k_mergeWithParameter {G : GG} {v : VV} {x y : Int32} (h : Rel v) : Two G v yX3_mergeWithParameter wsX3_mergeWithParameter 4 97 [.ref (G.1 0), .int x, .int y] yX4_mergeWithParameter wsX4_mergeWithParameter 5 116 [.ref (G.1 270), .int x, .int y] := by
  obtain ⟨P, hP⟩ := h
  refine ⟨_, fun l => c_X3_mergeWithParameter l hP.pw, fun r1 v1 h1 => ?_⟩
  obtain ⟨e1, e2⟩ := h1
  have f1 : ∀ q, 89 ≤ q → v1 q = v q := fun q hq => by rw [e2]; exact mwV_far hP.pw hq
  have hM : MA (v1 271) P := by rw [f1 _ (by omega)]; exact hP.2.2.1
  refine ⟨_, fun l => c_X4_mergeWithParameter l (c := P.1) (hM.mW hP.1), fun r2 v2 h2 => ?_⟩
  obtain ⟨e3, e4⟩ := h2
  have a := c_mw (x := x) (y := y) hP.2.1 hP.1
  have b := m_mw (x := x) (y := y) hM hP.1
  exact ⟨by rw [e1, e3, a.1, b.1], Rel_op hP f1 (fun q h h2 => by rw [e4]; exact mwV2_ne h h2) (by rw [e4, mwV2_6]) (WF_mw hP.2.1.n hP.1) (by rw [e2]; exact a.2) (by rw [e4]; exact b.2)⟩
theorem k_parameterTail {G : GG} {v : VV} {x y : Int32} (h : Rel v) : Two G v yX3_parameterTail wsX3_parameterTail 3 71 [.ref (G.1 0), .int x, .int y] yX4_parameterTail wsX4_parameterTail 4 94 [.ref (G.1 270), .int x, .int y] := by
  obtain ⟨P, hP⟩ := h
  refine ⟨_, fun l => c_X3_parameterTail l hP.pw, fun r1 v1 h1 => ?_⟩
  obtain ⟨e1, e2⟩ := h1
  subst e2
  refine ⟨_, fun l => c_X4_parameterTail l hP.mW, fun r2 v2 h2 => ?_⟩
  obtain ⟨e3, e4⟩ := h2
  exact ⟨by rw [e1, e3, c_pt hP.2.1 hP.1, m_pt hP.2.2.1 hP.1], Rel_op hP (fun q _ => rfl) (fun q h h2 => by rw [e4]; exact plS_ne h2) (by rw [e4, plS_6]) hP.1 hP.2.1 (by rw [e4, plS_ne (by omega)]; exact hP.2.2.1)⟩
theorem k_parameterSaving {G : GG} {v : VV} {x y : Int32} (h : Rel v) : Two G v yX3_parameterSaving wsX3_parameterSaving 4 94 [.ref (G.1 0), .int x, .int y] yX4_parameterSaving wsX4_parameterSaving 4 94 [.ref (G.1 270), .int x, .int y] := by
  obtain ⟨P, hP⟩ := h
  refine ⟨_, fun l => c_X3_parameterSaving l hP.pw, fun r1 v1 h1 => ?_⟩
  obtain ⟨e1, e2⟩ := h1
  subst e2
  refine ⟨_, fun l => c_X4_parameterSaving l hP.mW, fun r2 v2 h2 => ?_⟩
  obtain ⟨e3, e4⟩ := h2
  exact ⟨by rw [e1, e3, c_ps hP.2.1 hP.1, m_ps hP.2.2.1 hP.1], Rel_op hP (fun q _ => rfl) (fun q h h2 => by rw [e4]; exact plS_ne h2) (by rw [e4, plS_6]) hP.1 hP.2.1 (by rw [e4, plS_ne (by omega)]; exact hP.2.2.1)⟩
theorem k_run {G : GG} {v : VV} {x : Int32} (h : Rel v) : Two G v yX3_run wsX3_run 3 85 [.ref (G.1 0), .int x] yX4_run wsX4_run 3 62 [.ref (G.1 270), .int x] := by
  obtain ⟨P, hP⟩ := h
  refine ⟨_, fun l => c_X3_run l (hP.2.1.pf hP.1), fun r1 v1 h1 => ?_⟩
  obtain ⟨e1, e2⟩ := h1
  have hM : MA (v1 271) P := by rw [e2, runV_ne (by omega) (by omega) (by omega)]; exact hP.2.2.1
  refine ⟨_, fun l => c_X4_run l (hM.mf hP.1), fun r2 v2 h2 => ?_⟩
  obtain ⟨e3, e4⟩ := h2
  have := Rel_run (x := x) hP
  rw [← e2] at this
  exact ⟨by rw [e1, e3]; exact this.1, by rw [e4]; exact this.2⟩
theorem k_save {G : GG} {v : VV} {x : Int32} (h : Rel v) : Two G v yX3_save wsX3_save 4 92 [.ref (G.1 0), .int x] yX4_save wsX4_save 1 22 [.ref (G.1 270), .int x] := by
  obtain ⟨P, hP⟩ := h
  refine ⟨_, fun l => c_X3_save l hP.pw, fun r1 v1 h1 => ?_⟩
  obtain ⟨e1, e2⟩ := h1
  refine ⟨_, fun l => c_X4_save l, fun r2 v2 h2 => ?_⟩
  obtain ⟨e3, e4⟩ := h2
  refine ⟨by rw [e1, e3], ?_⟩
  by_cases hx : inb x 2 = true
  · rw [if_pos hx] at e2 e4
    rw [e4, e2]
    exact Rel_save hP (inb_tn (by omega) hx).2
  · rw [if_neg hx] at e2 e4
    rw [e4, e2]; exact ⟨P, hP⟩
theorem SL_at {v : VV} {P : Pg} (hP : RelP v P) : ∀ i, i < 2 → SL v i := by
  intro i hi
  rcases (show i = 0 ∨ i = 1 by omega) with rfl | rfl
  · exact hP.2.2.2.2.1
  · exact hP.2.2.2.2.2
theorem SL_ch {v : VV} {P : Pg} (hP : RelP v P) : ∃ Q : Nat → Pg, ∀ i, i < 2 → ¬ v 266 i = 0 → WF (Q i) ∧ PA v (90 + 88 * i) (Q i) ∧ MA (fun k => v 272 (670 * i + k)) (Q i) := by
  have h : ∀ i, ∃ Q : Pg, i < 2 → ¬ v 266 i = 0 → WF Q ∧ PA v (90 + 88 * i) Q ∧ MA (fun k => v 272 (670 * i + k)) Q := by
    intro i
    by_cases hi : i < 2
    · rcases (SL_at hP i hi).2 with g | ⟨Q, g⟩
      · exact ⟨P, fun _ e => absurd g e⟩
      · exact ⟨Q, fun _ _ => g⟩
    · exact ⟨P, fun e => absurd e hi⟩
  exact ⟨fun i => (h i).choose, fun i hi h0 => (h i).choose_spec hi h0⟩
theorem k_restore {G : GG} {v : VV} {x : Int32} (h : Rel v) : Two G v yX3_restore wsX3_restore 4 92 [.ref (G.1 0), .int x] yX4_restore wsX4_restore 1 22 [.ref (G.1 270), .int x] := by
  obtain ⟨P, hP⟩ := h
  obtain ⟨Q, hQ⟩ := SL_ch hP
  refine ⟨_, fun l => c_X3_restore l (cc := fun i => (Q i).1) (fun i hi h0 => (hQ i hi h0).2.1.pw (hQ i hi h0).1), fun r1 v1 h1 => ?_⟩
  obtain ⟨e1, e2⟩ := h1
  refine ⟨_, fun l => c_X4_restore l, fun r2 v2 h2 => ?_⟩
  obtain ⟨e3, e4⟩ := h2
  by_cases hx : inb x 2 = true
  · have hi := (inb_tn (by omega) hx).2
    rw [if_pos hx] at e1 e2 e3 e4
    have s1 := (SL_at hP _ hi).1
    by_cases h0 : v 266 (tn x) = 0
    · rw [if_pos h0] at e1 e2
      subst e2
      rw [if_pos (by rw [← s1]; exact h0)] at e3 e4
      rw [e4]
      exact ⟨by rw [e1, e3], P, hP⟩
    · rw [if_neg h0] at e1 e2
      obtain ⟨q1, q2, q3⟩ := hQ _ hi h0
      have e273 : v1 273 = v 273 := by rw [e2]; exact cpP_far q1.1 (by omega)
      have n0 : ¬ v1 273 (tn x) = 0 := by rw [e273, ← s1]; exact h0
      rw [if_neg n0] at e3 e4
      rw [e4, e2]
      exact ⟨by rw [e1, e3], Rel_restore hP hi h0 _ q1 q2 q3⟩
  · rw [if_neg hx] at e1 e2 e3 e4
    rw [e4, e2]
    exact ⟨by rw [e1, e3], P, hP⟩
