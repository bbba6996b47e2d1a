/-! what an instruction and a terminator may hold -/
def insOK (o d a b : Int32) : Prop := (o = 0 ∧ vp_in d 8 ∧ b = 0) ∨ (o = 1 ∧ vp_in d 8 ∧ vp_in a 8 ∧ b = 0) ∨ ((o = 2 ∨ o = 3 ∨ o = 4 ∨ o = 5) ∧ vp_in d 8 ∧ vp_in a 8 ∧ vp_in b 8) ∨ (o = 6 ∧ d = 0 ∧ vp_in a 8 ∧ b = 0)
def terOK (c : Nat) (t : Nat → Int32) : Prop := (t 0 = 0 ∧ vp_in (t 1) c) ∨ (t 0 = 1 ∧ vp_in (t 1) 8 ∧ vp_in (t 2) c ∧ vp_in (t 3) c) ∨ t 0 = 2
def BW (x : Bv) (c : Nat) : Prop := (∀ i, i < x.1 → insOK (x.2.1 0 i) (x.2.1 1 i) (x.2.1 2 i) (x.2.1 3 i)) ∧ terOK c x.2.2
def PF (v : VV) (p c : Nat) : Prop := PW v p c ∧ ∀ b, b < c → BW (pv v p b) c
theorem vp_in0 {n : Nat} (h : 0 < n) : vp_in 0 n := by
  rw [vp_in_iff]
  have : (0 : Int32).toInt = 0 := rfl
  omega
theorem insOK.d {o d a b : Int32} (h : insOK o d a b) : vp_in d 8 := by
  rcases h with h | h | h | h
  · exact h.2.1
  · exact h.2.1
  · exact h.2.1
  · rw [h.2.1]; exact vp_in0 (by omega)
theorem insOK.b {o d a b : Int32} (h : insOK o d a b) : vp_in b 8 := by
  rcases h with h | h | h | h
  · rw [h.2.2]; exact vp_in0 (by omega)
  · rw [h.2.2.2]; exact vp_in0 (by omega)
  · exact h.2.2.2
  · rw [h.2.2.2]; exact vp_in0 (by omega)
theorem insOK.a {o d a b : Int32} (h : insOK o d a b) (ho : ¬ o = 0) : vp_in a 8 := by
  rcases h with h | h | h | h
  · exact absurd h.1 ho
  · exact h.2.2.1
  · exact h.2.2.1
  · exact h.2.2.1
theorem sw5_ne {x : Int32} (h : x.toInt < 0 ∨ 5 < x.toInt) : ¬ x = 0 ∧ ¬ x = 1 ∧ ¬ x = 2 ∧ ¬ x = 3 ∧ ¬ x = 4 ∧ ¬ x = 5 := by
  refine ⟨?_, ?_, ?_, ?_, ?_, ?_⟩ <;> (intro e; rw [e] at h; revert h; decide)
abbrev tn (x : Int32) : Nat := x.toNatClampNeg
theorem tn_nI {n : Nat} (h : n < 2 ^ 31) : tn (nI n) = n := nI_clamp h
/-- a value is put behind the trace's e values -/
def em (v : VV) (e : Nat) (x : Int32) : VV := u2 (u2 v 269 e x) 267 2 (nI (e + 1))
/-- an instruction is done -/
def pfm (v : VV) (e : Nat) (o d a b : Int32) : VV :=
  if o = 0 then u2 v 268 (tn d) a
  else if o = 1 then u2 v 268 (tn d) (v 268 (tn a))
  else if o = 2 then u2 v 268 (tn d) (v 268 (tn a) + v 268 (tn b))
  else if o = 3 then u2 v 268 (tn d) (v 268 (tn a) - v 268 (tn b))
  else if o = 4 then u2 v 268 (tn d) (v 268 (tn a) * v 268 (tn b))
  else if o = 5 then u2 v 268 (tn d) (if v 268 (tn b) ≤ v 268 (tn a) then 0 else 1)
  else em v e (v 268 (tn a))

set_option maxRecDepth 100000 in
set_option maxHeartbeats 4000000 in
theorem b_X1_emit {E : TE} {G : GG} {v : VV} {e : Nat} {x : Int32} (hC : Cx E G cX1_emit RX1 2 wsX1_emit 0 0) (hR : RtV E G cX1_emit (fun v' => v' = em v e x)) (he : v 267 2 = nI e) (he2 : e < 1000) : Wv E G v 0 [some (.ref (G.1 267)), some (.int x)] [] := by
  have i_X1 : ∀ w ∈ wsX10, w ∈ wsX1_emit := by decide +kernel
  have l_15 : lnk E RX1 15 (TX1 1) := hC.fl (by decide +kernel)
  have l_18 : lnk E RX1 18 (TX1 2) := hC.fl (by decide +kernel)
  refine r_aload_n hC (q := 1) dX1_emit_0 rfl rfl ?_
  refine g_X1 hC 2 i_X1 l_18 (by decide) (q := 4) dX1_emit_1 rfl rfl ?_
  refine r_top (y := nI e) he ?_
  refine r_sipush hC (x := 1000) (q := 7) dX1_emit_4 (by decide) rfl ?_
  refine r_icmp_geN hC (q := 10) (t := 30) (b := 1000) dX1_emit_7 rfl rfl (by omega) (by omega) (by decide) rfl (fun h7 => ?_) (fun h7 => ?_)
  · skip
    omega
  · skip
    refine r_aload_n hC (q := 11) dX1_emit_10 rfl rfl ?_
    refine g_X1 hC 1 i_X1 l_15 (by decide) (q := 14) dX1_emit_11 rfl rfl ?_
    refine r_aload_n hC (q := 15) dX1_emit_14 rfl rfl ?_
    refine g_X1 hC 2 i_X1 l_18 (by decide) (q := 18) dX1_emit_15 rfl rfl ?_
    refine r_top (y := nI e) he ?_
    refine r_iload_n hC (q := 19) dX1_emit_18 rfl rfl ?_
    refine r_isN hC (q := 20) dX1_emit_19 iA_269 rfl (by omega) rfl ?_
    refine r_aload_n hC (q := 21) dX1_emit_20 rfl rfl ?_
    refine r_dup hC (q := 22) rfl dX1_emit_21 rfl ?_
    refine g_X1 hC 2 i_X1 l_18 (by decide) (q := 25) dX1_emit_22 rfl rfl ?_
    refine r_top (y := nI e) (by rw [va_up_ne _ _ (by omega)]; exact he) ?_
    refine r_iconst hC (x := 1) (q := 26) dX1_emit_25 (by decide) rfl ?_
    refine r_iaddN hC (q := 27) (b := 1) dX1_emit_26 rfl rfl rfl ?_
    refine p_X1_2 hC i_X1 l_18 (q := 30) dX1_emit_27 rfl ?_
    exact hR _ _ _ dX1_emit_30 rfl
theorem c_X1_emit (l : Launch) {G : GG} {v : VV} {e : Nat} {x : Int32} (he : v 267 2 = nI e) (he2 : e < 1000) : MtV l G yX1_emit wsX1_emit 0 0 [.ref (G.1 267), .int x] v (fun v' => v' = em v e x) := mt_void (by decide) rfl (by simp [Value.category]) (Nat.le_of_ble_eq_true rfl) rfl rfl (fun E hC hR => b_X1_emit hC hR he he2)

set_option maxRecDepth 100000 in
set_option maxHeartbeats 4000000 in
theorem b_X1_perform {E : TE} {G : GG} {v : VV} {k i e : Nat} (hC : Cx E G cX1_perform RX1 6 wsX1_perform 1 21) (hR : RtV E G cX1_perform (fun v' => v' = pfm v e (v (k + 1) i) (v (k + 2) i) (v (k + 3) i) (v (k + 4) i))) (hk : isBk k) (hi : i < 10) (hI : insOK (v (k + 1) i) (v (k + 2) i) (v (k + 3) i) (v (k + 4) i)) (he : v 267 2 = nI e) (he2 : e < 1000) : Wv E G v 0 [some (.ref (G.1 267)), some (.ref (G.1 k)), some (.int (nI i)), none, none, none] [] := by
  have i_X0 : ∀ w ∈ wsX00, w ∈ wsX1_perform := by decide +kernel
  have i_X1 : ∀ w ∈ wsX10, w ∈ wsX1_perform := by decide +kernel
  have l_9 : lnk E RX1 9 (TX1 0) := hC.fl (by decide +kernel)
  have l_56 : lnk E RX1 56 (TX0 1) := hC.nf 2 rfl
  have l_59 : lnk E RX1 59 (TX0 2) := hC.nf 4 rfl
  have l_62 : lnk E RX1 62 (TX0 3) := hC.nf 6 rfl
  have l_65 : lnk E RX1 65 (TX0 0) := hC.nf 0 rfl
  refine r_aload_n hC (q := 1) dX1_perform_0 rfl rfl ?_
  refine g_X0 hC 1 i_X0 l_56 (by decide) (q := 4) dX1_perform_1 hk rfl rfl ?_
  refine r_iload_n hC (q := 5) dX1_perform_4 rfl rfl ?_
  refine r_iaN hC (q := 6) dX1_perform_5 (iA_b2 hk) rfl (by omega) rfl ?_
  refine r_istore_n hC (q := 7) (L' := [_, _, _, _, _, _]) dX1_perform_6 (Nat.le_of_ble_eq_true rfl) rfl rfl ?_
  refine r_aload_n hC (q := 8) dX1_perform_7 rfl rfl ?_
  refine g_X0 hC 2 i_X0 l_59 (by decide) (q := 11) dX1_perform_8 hk rfl rfl ?_
  refine r_iload_n hC (q := 12) dX1_perform_11 rfl rfl ?_
  refine r_iaN hC (q := 13) dX1_perform_12 (iA_b3 hk) rfl (by omega) rfl ?_
  refine r_istore hC (q := 15) (L' := [_, _, _, _, _, _]) dX1_perform_13 (Nat.le_of_ble_eq_true rfl) rfl rfl ?_
  refine r_aload_n hC (q := 16) dX1_perform_15 rfl rfl ?_
  refine g_X0 hC 3 i_X0 l_62 (by decide) (q := 19) dX1_perform_16 hk rfl rfl ?_
  refine r_iload_n hC (q := 20) dX1_perform_19 rfl rfl ?_
  refine r_iaN hC (q := 21) dX1_perform_20 (iA_b4 hk) rfl (by omega) rfl ?_
  refine r_istore hC (q := 23) (L' := [_, _, _, _, _, _]) dX1_perform_21 (Nat.le_of_ble_eq_true rfl) rfl rfl ?_
  refine r_aload_n hC (q := 24) dX1_perform_23 rfl rfl ?_
  refine g_X0 hC 0 i_X0 l_65 (by decide) (q := 27) dX1_perform_24 hk rfl rfl ?_
  refine r_iload_n hC (q := 28) dX1_perform_27 rfl rfl ?_
  refine r_iaN hC (q := 29) dX1_perform_28 (iA_b1 hk) rfl (by omega) rfl ?_
  refine r_tsw5 hC (td := 198) (t0 := 68) (t1 := 79) (t2 := 95) (t3 := 119) (t4 := 143) (t5 := 167) dX1_perform_29 (by decide) (by decide) (by decide) (by decide) (by decide) (by decide) (by decide) (fun h29 => ?_) (fun h29 => ?_) (fun h29 => ?_) (fun h29 => ?_) (fun h29 => ?_) (fun h29 => ?_) (fun h29 => ?_)
  · skip
    refine r_aload_n hC (q := 199) dX1_perform_198 rfl rfl ?_
    refine r_aload_n hC (q := 200) dX1_perform_199 rfl rfl ?_
    refine g_X1 hC 0 i_X1 l_9 (by decide) (q := 203) dX1_perform_200 rfl rfl ?_
    refine r_iload hC (q := 205) dX1_perform_203 rfl rfl ?_
    refine r_iaload hC (q := 206) dX1_perform_205 iA_268 (hI.a (sw5_ne h29).1) rfl ?_
    refine r_cVV hC (q := 209) (n := 1) (As := [_]) (fun lch => c_X1_emit lch he he2) gX1_perform_X1_emit rfl (by decide +kernel) ⟨by decide, by decide⟩ ob_267 rfl rfl rfl rfl (Nat.le_of_ble_eq_true rfl) dX1_perform_206 rfl ?_
    rintro _ rfl
    exact hR _ _ _ dX1_perform_209 (by obtain ⟨g0, g1, g2, g3, g4, g5⟩ := sw5_ne h29; rw [pfm, if_neg g0, if_neg g1, if_neg g2, if_neg g3, if_neg g4, if_neg g5])
  · skip
    refine r_aload_n hC (q := 69) dX1_perform_68 rfl rfl ?_
    refine g_X1 hC 0 i_X1 l_9 (by decide) (q := 72) dX1_perform_69 rfl rfl ?_
    refine r_iload_n hC (q := 73) dX1_perform_72 rfl rfl ?_
    refine r_iload hC (q := 75) dX1_perform_73 rfl rfl ?_
    refine r_iastore hC (q := 76) dX1_perform_75 iA_268 hI.d rfl ?_
    refine r_goto hC (t := 209) dX1_perform_76 (by decide) ?_
    exact hR _ _ _ dX1_perform_209 (by rw [pfm, if_pos h29])
  · skip
    refine r_aload_n hC (q := 80) dX1_perform_79 rfl rfl ?_
    refine g_X1 hC 0 i_X1 l_9 (by decide) (q := 83) dX1_perform_80 rfl rfl ?_
    refine r_iload_n hC (q := 84) dX1_perform_83 rfl rfl ?_
    refine r_aload_n hC (q := 85) dX1_perform_84 rfl rfl ?_
    refine g_X1 hC 0 i_X1 l_9 (by decide) (q := 88) dX1_perform_85 rfl rfl ?_
    refine r_iload hC (q := 90) dX1_perform_88 rfl rfl ?_
    refine r_iaload hC (q := 91) dX1_perform_90 iA_268 (hI.a (by rw [h29]; decide)) rfl ?_
    refine r_iastore hC (q := 92) dX1_perform_91 iA_268 hI.d rfl ?_
    refine r_goto hC (t := 209) dX1_perform_92 (by decide) ?_
    exact hR _ _ _ dX1_perform_209 (by rw [pfm, if_neg (by rw [h29]; decide), if_pos h29])
  · skip
    refine r_aload_n hC (q := 96) dX1_perform_95 rfl rfl ?_
    refine g_X1 hC 0 i_X1 l_9 (by decide) (q := 99) dX1_perform_96 rfl rfl ?_
    refine r_iload_n hC (q := 100) dX1_perform_99 rfl rfl ?_
    refine r_aload_n hC (q := 101) dX1_perform_100 rfl rfl ?_
    refine g_X1 hC 0 i_X1 l_9 (by decide) (q := 104) dX1_perform_101 rfl rfl ?_
    refine r_iload hC (q := 106) dX1_perform_104 rfl rfl ?_
    refine r_iaload hC (q := 107) dX1_perform_106 iA_268 (hI.a (by rw [h29]; decide)) rfl ?_
    refine r_aload_n hC (q := 108) dX1_perform_107 rfl rfl ?_
    refine g_X1 hC 0 i_X1 l_9 (by decide) (q := 111) dX1_perform_108 rfl rfl ?_
    refine r_iload hC (q := 113) dX1_perform_111 rfl rfl ?_
    refine r_iaload hC (q := 114) dX1_perform_113 iA_268 hI.b rfl ?_
    refine r_iadd hC (q := 115) dX1_perform_114 rfl ?_
    refine r_iastore hC (q := 116) dX1_perform_115 iA_268 hI.d rfl ?_
    refine r_goto hC (t := 209) dX1_perform_116 (by decide) ?_
    exact hR _ _ _ dX1_perform_209 (by rw [pfm, if_neg (by rw [h29]; decide), if_neg (by rw [h29]; decide), if_pos h29])
  · skip
    refine r_aload_n hC (q := 120) dX1_perform_119 rfl rfl ?_
    refine g_X1 hC 0 i_X1 l_9 (by decide) (q := 123) dX1_perform_120 rfl rfl ?_
    refine r_iload_n hC (q := 124) dX1_perform_123 rfl rfl ?_
    refine r_aload_n hC (q := 125) dX1_perform_124 rfl rfl ?_
    refine g_X1 hC 0 i_X1 l_9 (by decide) (q := 128) dX1_perform_125 rfl rfl ?_
    refine r_iload hC (q := 130) dX1_perform_128 rfl rfl ?_
    refine r_iaload hC (q := 131) dX1_perform_130 iA_268 (hI.a (by rw [h29]; decide)) rfl ?_
    refine r_aload_n hC (q := 132) dX1_perform_131 rfl rfl ?_
    refine g_X1 hC 0 i_X1 l_9 (by decide) (q := 135) dX1_perform_132 rfl rfl ?_
    refine r_iload hC (q := 137) dX1_perform_135 rfl rfl ?_
    refine r_iaload hC (q := 138) dX1_perform_137 iA_268 hI.b rfl ?_
    refine r_isub hC (q := 139) dX1_perform_138 rfl ?_
    refine r_iastore hC (q := 140) dX1_perform_139 iA_268 hI.d rfl ?_
    refine r_goto hC (t := 209) dX1_perform_140 (by decide) ?_
    exact hR _ _ _ dX1_perform_209 (by rw [pfm, if_neg (by rw [h29]; decide), if_neg (by rw [h29]; decide), if_neg (by rw [h29]; decide), if_pos h29])
  · skip
    refine r_aload_n hC (q := 144) dX1_perform_143 rfl rfl ?_
    refine g_X1 hC 0 i_X1 l_9 (by decide) (q := 147) dX1_perform_144 rfl rfl ?_
    refine r_iload_n hC (q := 148) dX1_perform_147 rfl rfl ?_
    refine r_aload_n hC (q := 149) dX1_perform_148 rfl rfl ?_
    refine g_X1 hC 0 i_X1 l_9 (by decide) (q := 152) dX1_perform_149 rfl rfl ?_
    refine r_iload hC (q := 154) dX1_perform_152 rfl rfl ?_
    refine r_iaload hC (q := 155) dX1_perform_154 iA_268 (hI.a (by rw [h29]; decide)) rfl ?_
    refine r_aload_n hC (q := 156) dX1_perform_155 rfl rfl ?_
    refine g_X1 hC 0 i_X1 l_9 (by decide) (q := 159) dX1_perform_156 rfl rfl ?_
    refine r_iload hC (q := 161) dX1_perform_159 rfl rfl ?_
    refine r_iaload hC (q := 162) dX1_perform_161 iA_268 hI.b rfl ?_
    refine r_imul hC (q := 163) dX1_perform_162 rfl ?_
    refine r_iastore hC (q := 164) dX1_perform_163 iA_268 hI.d rfl ?_
    refine r_goto hC (t := 209) dX1_perform_164 (by decide) ?_
    exact hR _ _ _ dX1_perform_209 (by rw [pfm, if_neg (by rw [h29]; decide), if_neg (by rw [h29]; decide), if_neg (by rw [h29]; decide), if_neg (by rw [h29]; decide), if_pos h29])
  · skip
    refine r_aload_n hC (q := 168) dX1_perform_167 rfl rfl ?_
    refine g_X1 hC 0 i_X1 l_9 (by decide) (q := 171) dX1_perform_168 rfl rfl ?_
    refine r_iload_n hC (q := 172) dX1_perform_171 rfl rfl ?_
    refine r_aload_n hC (q := 173) dX1_perform_172 rfl rfl ?_
    refine g_X1 hC 0 i_X1 l_9 (by decide) (q := 176) dX1_perform_173 rfl rfl ?_
    refine r_iload hC (q := 178) dX1_perform_176 rfl rfl ?_
    refine r_iaload hC (q := 179) dX1_perform_178 iA_268 (hI.a (by rw [h29]; decide)) rfl ?_
    refine r_aload_n hC (q := 180) dX1_perform_179 rfl rfl ?_
    refine g_X1 hC 0 i_X1 l_9 (by decide) (q := 183) dX1_perform_180 rfl rfl ?_
    refine r_iload hC (q := 185) dX1_perform_183 rfl rfl ?_
    refine r_iaload hC (q := 186) dX1_perform_185 iA_268 hI.b rfl ?_
    refine r_icmp_ge hC (q := 189) (t := 193) dX1_perform_186 (by decide) rfl (fun h186 => ?_) (fun h186 => ?_)
    · skip
      refine r_iconst hC (x := 0) (q := 194) dX1_perform_193 (by decide) rfl ?_
      refine r_iastore hC (q := 195) dX1_perform_194 iA_268 hI.d rfl ?_
      refine r_goto hC (t := 209) dX1_perform_195 (by decide) ?_
      exact hR _ _ _ dX1_perform_209 (by rw [pfm, if_neg (by rw [h29]; decide), if_neg (by rw [h29]; decide), if_neg (by rw [h29]; decide), if_neg (by rw [h29]; decide), if_neg (by rw [h29]; decide), if_pos h29, if_pos h186])
    · skip
      refine r_iconst hC (x := 1) (q := 190) dX1_perform_189 (by decide) rfl ?_
      refine r_goto hC (t := 194) dX1_perform_190 (by decide) ?_
      refine r_iastore hC (q := 195) dX1_perform_194 iA_268 hI.d rfl ?_
      refine r_goto hC (t := 209) dX1_perform_195 (by decide) ?_
      exact hR _ _ _ dX1_perform_209 (by rw [pfm, if_neg (by rw [h29]; decide), if_neg (by rw [h29]; decide), if_neg (by rw [h29]; decide), if_neg (by rw [h29]; decide), if_neg (by rw [h29]; decide), if_pos h29, if_neg h186])
theorem c_X1_perform (l : Launch) {G : GG} {v : VV} {k i e : Nat} (hk : isBk k) (hi : i < 10) (hI : insOK (v (k + 1) i) (v (k + 2) i) (v (k + 3) i) (v (k + 4) i)) (he : v 267 2 = nI e) (he2 : e < 1000) : MtV l G yX1_perform wsX1_perform 1 21 [.ref (G.1 267), .ref (G.1 k), .int (nI i)] v (fun v' => v' = pfm v e (v (k + 1) i) (v (k + 2) i) (v (k + 3) i) (v (k + 4) i)) := mt_void (by decide) rfl (by simp [Value.category]) (Nat.le_of_ble_eq_true rfl) rfl rfl (fun E hC hR => b_X1_perform hC hR hk hi hI he he2)

/-- where a block that doesn't return goes on -/
def scc (v : VV) (k : Nat) : Int32 := if v k 6 = 0 then v (k + 6) 0 else if v 268 (tn (v (k + 6) 0)) = 0 then v (k + 6) 2 else v (k + 6) 1

set_option maxRecDepth 100000 in
set_option maxHeartbeats 4000000 in
theorem b_X1_successorOf {E : TE} {G : GG} {v : VV} {k : Nat} (hC : Cx E G cX1_successorOf RX1 3 wsX1_successorOf 0 0) (hR : RtI E G cX1_successorOf (fun r v' => r = scc v k ∧ v = v')) (hk : isBk k) (ht : ¬ v k 6 = 0 → vp_in (v (k + 6) 0) 8) : Wv E G v 0 [some (.ref (G.1 267)), some (.ref (G.1 k)), none] [] := by
  have i_X0 : ∀ w ∈ wsX00, w ∈ wsX1_successorOf := by decide +kernel
  have i_X1 : ∀ w ∈ wsX10, w ∈ wsX1_successorOf := by decide +kernel
  have l_9 : lnk E RX1 9 (TX1 0) := hC.fl (by decide +kernel)
  have l_46 : lnk E RX1 46 (TX0 6) := hC.nf 12 rfl
  have l_53 : lnk E RX1 53 (TX0 7) := hC.nf 15 rfl
  refine r_aload_n hC (q := 1) dX1_successorOf_0 rfl rfl ?_
  refine g_X0 hC 7 i_X0 l_53 (by decide) (q := 4) dX1_successorOf_1 hk rfl rfl ?_
  refine r_astore_n hC (q := 5) (L' := [_, _, _]) dX1_successorOf_4 (Nat.le_of_ble_eq_true rfl) rfl rfl ?_
  refine r_aload_n hC (q := 6) dX1_successorOf_5 rfl rfl ?_
  refine g_X0 hC 6 i_X0 l_46 (by decide) (q := 9) dX1_successorOf_6 hk rfl rfl ?_
  refine r_if_ne hC (q := 12) (t := 16) dX1_successorOf_9 (by decide) rfl (fun h9 => ?_) (fun h9 => ?_)
  · skip
    refine r_aload_n hC (q := 17) dX1_successorOf_16 rfl rfl ?_
    refine g_X1 hC 0 i_X1 l_9 (by decide) (q := 20) dX1_successorOf_17 rfl rfl ?_
    refine r_aload_n hC (q := 21) dX1_successorOf_20 rfl rfl ?_
    refine r_iconst hC (x := 0) (q := 22) dX1_successorOf_21 (by decide) rfl ?_
    refine r_iaN hC (q := 23) (i := 0) dX1_successorOf_22 (iA_b6 hk) rfl (by omega) rfl ?_
    refine r_iaload hC (q := 24) dX1_successorOf_23 iA_268 (ht h9) rfl ?_
    refine r_if_eq hC (q := 27) (t := 33) dX1_successorOf_24 (by decide) rfl (fun h24 => ?_) (fun h24 => ?_)
    · skip
      refine r_aload_n hC (q := 34) dX1_successorOf_33 rfl rfl ?_
      refine r_iconst hC (x := 2) (q := 35) dX1_successorOf_34 (by decide) rfl ?_
      refine r_iaN hC (q := 36) (i := 2) dX1_successorOf_35 (iA_b6 hk) rfl (by omega) rfl ?_
      exact hR _ _ _ _ dX1_successorOf_36 ⟨by first | rw [scc, if_neg h9, if_pos h24] | rw [scc, if_neg h9, if_neg h24], rfl⟩
    · skip
      refine r_aload_n hC (q := 28) dX1_successorOf_27 rfl rfl ?_
      refine r_iconst hC (x := 1) (q := 29) dX1_successorOf_28 (by decide) rfl ?_
      refine r_iaN hC (q := 30) (i := 1) dX1_successorOf_29 (iA_b6 hk) rfl (by omega) rfl ?_
      refine r_goto hC (t := 36) dX1_successorOf_30 (by decide) ?_
      exact hR _ _ _ _ dX1_successorOf_36 ⟨by first | rw [scc, if_neg h9, if_pos h24] | rw [scc, if_neg h9, if_neg h24], rfl⟩
  · skip
    refine r_aload_n hC (q := 13) dX1_successorOf_12 rfl rfl ?_
    refine r_iconst hC (x := 0) (q := 14) dX1_successorOf_13 (by decide) rfl ?_
    refine r_iaN hC (q := 15) (i := 0) dX1_successorOf_14 (iA_b6 hk) rfl (by omega) rfl ?_
    exact hR _ _ _ _ dX1_successorOf_15 ⟨by rw [scc, if_pos h9], rfl⟩
theorem c_X1_successorOf (l : Launch) {G : GG} {v : VV} {k : Nat} (hk : isBk k) (ht : ¬ v k 6 = 0 → vp_in (v (k + 6) 0) 8) : MtI l G yX1_successorOf wsX1_successorOf 0 0 [.ref (G.1 267), .ref (G.1 k)] v (fun r v' => r = scc v k ∧ v = v') := mt_int (Or.inl rfl) (by decide) rfl (by simp [Value.category]) (Nat.le_of_ble_eq_true rfl) rfl rfl (fun E hC hR => b_X1_successorOf hC hR hk ht)

def exF (p : Nat) : Nat → Nat → Nat → Nat → VV → Int32 × VV
  | 0, _, _, _, v => (-1007, v)
  | f + 1, s, b, i, v => if i < nb v p b then exF p f (s + 1) b (i + 1) (pfm v (tn (v 267 2)) (v (kB p b + 1) i) (v (kB p b + 2) i) (v (kB p b + 3) i) (v (kB p b + 4) i)) else if v (kB p b) 6 = 2 then (nI s, v) else exF p f (s + 1) (tn (scc v (kB p b))) 0 v
theorem pfm_far {v : VV} {e q : Nat} {o d a b : Int32} (h : q < 267) : pfm v e o d a b q = v q := by
  unfold pfm em
  repeat' split
  all_goals first | rw [u2_ne (by omega), u2_ne (by omega)] | rw [u2_ne (by omega)]
theorem pfm_cnt {v : VV} {e : Nat} {o d a b : Int32} (h : v 267 2 = nI e) : ∃ e', e' ≤ e + 1 ∧ pfm v e o d a b 267 2 = nI e' := by
  unfold pfm em
  repeat' split
  all_goals first | exact ⟨e, by omega, by rw [u2_ne (by omega)]; exact h⟩ | exact ⟨e + 1, Nat.le_refl _, by simp [va_up, upd]⟩
theorem PF.far {v w : VV} {p c : Nat} (h : PF v p c) (hw : ∀ q, p ≤ q → q ≤ p + 87 → w q = v q) : PF w p c := by
  refine ⟨h.1.far hw, fun b hb => ?_⟩
  have h12 := h.1.2.1
  have e1 : ∀ q, kB p b ≤ q → q ≤ kB p b + 6 → w q = v q := fun q h1 h2 => hw q (by unfold kB at h1; omega) (by unfold kB at h2; omega)
  have h2 := h.2 b hb
  have h0 := e1 (kB p b) (Nat.le_refl _) (by omega)
  refine ⟨fun i hi => ?_, ?_⟩
  · have hi2 : i < nb v p b := by rw [← nb_eq h0]; exact hi
    have h3 := h2.1 i hi2
    show insOK (w (kB p b + (1 + 0)) i) (w (kB p b + (1 + 1)) i) (w (kB p b + (1 + 2)) i) (w (kB p b + (1 + 3)) i)
    rw [e1 _ (by omega) (by omega), e1 _ (by omega) (by omega), e1 _ (by omega) (by omega), e1 _ (by omega) (by omega)]
    exact h3
  · have h3 := h2.2
    unfold terOK pv bw at h3 ⊢
    simp only [h0, e1 (kB p b + 6) (by omega) (by omega)]
    exact h3
theorem scc_ok {v : VV} {p c b : Nat} (h : PF v p c) (hb : b < c) (h2 : ¬ v (kB p b) 6 = 2) : (¬ v (kB p b) 6 = 0 → vp_in (v (kB p b + 6) 0) 8) ∧ vp_in (scc v (kB p b)) c := by
  have h3 : (v (kB p b) 6 = 0 ∧ vp_in (v (kB p b + 6) 0) c) ∨ (v (kB p b) 6 = 1 ∧ vp_in (v (kB p b + 6) 0) 8 ∧ vp_in (v (kB p b + 6) 1) c ∧ vp_in (v (kB p b + 6) 2) c) ∨ v (kB p b) 6 = 2 := (h.2 b hb).2
  rcases h3 with h3 | h3 | h3
  · exact ⟨fun e => absurd h3.1 e, by rw [scc, if_pos h3.1]; exact h3.2⟩
  · have e1 : ¬ v (kB p b) 6 = 0 := by intro e; rw [h3.1] at e; exact absurd e (by decide)
    refine ⟨fun _ => h3.2.1, ?_⟩
    rw [scc, if_neg e1]
    split
    · exact h3.2.2.2
    · exact h3.2.2.1
  · exact absurd h3 h2
theorem vp_tn {x : Int32} {n : Nat} (h : vp_in x n) (hn : n < 2 ^ 31) : x = nI (tn x) ∧ tn x < n := by
  obtain ⟨j, hj, rfl⟩ := vp_in_of h hn
  rw [tn_nI (by omega)]
  exact ⟨rfl, hj⟩

set_option maxRecDepth 100000 in
set_option maxHeartbeats 4000000 in
theorem lp_X1_execute {E : TE} {G : GG} {p c M : Nat} {post : Int32 → VV → Prop} (hC : Cx E G cX1_execute RX1 6 wsX1_execute 2 60) (hR : RtI E G cX1_execute post) (hp : isPr p) (hM : M ≤ 1000) : ∀ (f s b i e : Nat) (v : VV), s + f = M + 1 → PF v p c → b < c → i ≤ 10 → v 267 2 = nI e → e + f ≤ 1000 → post (exF p f s b i v).1 (exF p f s b i v).2 → Wv E G v 33 [some (.ref (G.1 267)), some (.ref (G.1 p)), some (.int (nI M)), some (.ref (G.1 (kB p b))), some (.int (nI i)), some (.int (nI s))] [] := by
  have hpl := isPr_lt hp
  intro f
  induction f with
  | zero =>
    intro s b i e v hsf hF hbc hi he hef hpost
    have hkb : isBk (kB p b) := isBk_of hp (by have := hF.1.2.1; omega)
    refine r_iload hC (q := 35) dX1_execute_33 rfl rfl ?_
    refine r_iload_n hC (q := 36) dX1_execute_35 rfl rfl ?_
    refine r_icmp_gtN hC (q := 39) (t := 92) dX1_execute_36 rfl rfl (by omega) (by omega) (by decide) rfl (fun h36 => ?_) (fun h36 => ?_)
    · skip
      refine r_sipush hC (x := (-1007)) (q := 95) dX1_execute_92 (by decide) rfl ?_
      exact hR _ _ _ _ dX1_execute_95 hpost
    · skip
      omega
  | succ f ih =>
    intro s b i e v hsf hF hbc hi he hef hpost
    have h12 := hF.1.2.1
    have hkb : isBk (kB p b) := isBk_of hp (by omega)
    have hn := hF.1.2.2 b hbc
    have hBW := hF.2 b hbc
    have hcn : v 267 2 = nI (tn (v 267 2)) := by rw [he, tn_nI (by omega)]
    have het : tn (v 267 2) = e := by rw [he, tn_nI (by omega)]
    have i_X0 : ∀ w ∈ wsX00, w ∈ wsX1_execute := by decide +kernel
    have i_X2 : ∀ w ∈ wsX20, w ∈ wsX1_execute := by decide +kernel
    have l_33 : lnk E RX1 33 (TX2 0) := hC.nf 17 rfl
    have l_37 : lnk E RX1 37 (TX0 5) := hC.nf 9 rfl
    have l_46 : lnk E RX1 46 (TX0 6) := hC.nf 12 rfl
    refine r_iload hC (q := 35) dX1_execute_33 rfl rfl ?_
    refine r_iload_n hC (q := 36) dX1_execute_35 rfl rfl ?_
    refine r_icmp_gtN hC (q := 39) (t := 92) dX1_execute_36 rfl rfl (by omega) (by omega) (by decide) rfl (fun h36 => ?_) (fun h36 => ?_)
    · skip
      omega
    · skip
      refine r_iload hC (q := 41) dX1_execute_39 rfl rfl ?_
      refine r_aload_n hC (q := 42) dX1_execute_41 rfl rfl ?_
      refine g_X0 hC 5 i_X0 l_37 (by decide) (q := 45) dX1_execute_42 hkb rfl rfl ?_
      refine r_top (y := nI (nb v p b)) hn.1 ?_
      refine r_icmp_geN hC (q := 48) (t := 61) dX1_execute_45 rfl rfl (by omega) (by omega) (by decide) rfl (fun h45 => ?_) (fun h45 => ?_)
      · skip
        refine r_aload_n hC (q := 62) dX1_execute_61 rfl rfl ?_
        refine g_X0 hC 6 i_X0 l_46 (by decide) (q := 65) dX1_execute_62 hkb rfl rfl ?_
        refine r_iconst hC (x := 2) (q := 66) dX1_execute_65 (by decide) rfl ?_
        refine r_icmp_ne hC (q := 69) (t := 72) dX1_execute_66 (by decide) rfl (fun h66 => ?_) (fun h66 => ?_)
        · skip
          refine r_aload_n hC (q := 73) dX1_execute_72 rfl rfl ?_
          refine g_X2 hC 0 i_X2 l_33 (by decide) (q := 76) dX1_execute_73 hp rfl rfl ?_
          refine r_aload_n hC (q := 77) dX1_execute_76 rfl rfl ?_
          refine r_aload_n hC (q := 78) dX1_execute_77 rfl rfl ?_
          refine r_cVI hC (q := 81) (n := 1) (As := [_]) (fun lch => c_X1_successorOf lch hkb (scc_ok hF hbc h66).1) gX1_execute_X1_successorOf rfl (by decide +kernel) ⟨by decide, by decide⟩ ob_267 rfl rfl rfl rfl (Nat.le_of_ble_eq_true rfl) dX1_execute_78 rfl ?_
          rintro _ _ ⟨rfl, rfl⟩
          refine r_top (y := nI (tn (scc v (kB p b)))) (vp_tn (scc_ok hF hbc h66).2 (by omega)).1 ?_
          refine r_aBN hC (q := 82) dX1_execute_81 hp rfl (by have := (vp_tn (scc_ok hF hbc h66).2 (by omega)).2; omega) rfl ?_
          refine r_astore_n hC (q := 83) (L' := [_, _, _, _, _, _]) dX1_execute_82 (Nat.le_of_ble_eq_true rfl) rfl rfl ?_
          refine r_iconst hC (x := 0) (q := 84) dX1_execute_83 (by decide) rfl ?_
          refine r_istore hC (q := 86) (L' := [_, _, _, _, _, _]) dX1_execute_84 (Nat.le_of_ble_eq_true rfl) rfl rfl ?_
          refine r_iincN hC (q := 89) (L' := [_, _, _, _, _, _]) (c := 1) dX1_execute_86 rfl rfl rfl rfl rfl ?_
          refine r_goto hC (t := 33) dX1_execute_89 (by decide) ?_
          exact ih (s + 1) (tn (scc v (kB p b))) 0 e v (by omega) hF (vp_tn (scc_ok hF hbc h66).2 (by omega)).2 (by omega) he (by omega) (by rw [exF, if_neg (by omega), if_neg h66] at hpost; exact hpost)
        · skip
          refine r_iload hC (q := 71) dX1_execute_69 rfl rfl ?_
          exact hR _ _ _ _ dX1_execute_71 (by rw [exF, if_neg (by omega), if_pos h66] at hpost; exact hpost)
      · skip
        refine r_aload_n hC (q := 49) dX1_execute_48 rfl rfl ?_
        refine r_aload_n hC (q := 50) dX1_execute_49 rfl rfl ?_
        refine r_iload hC (q := 52) dX1_execute_50 rfl rfl ?_
        refine r_cVV hC (q := 55) (n := 2) (As := [_, _]) (fun lch => c_X1_perform lch hkb (by omega) (hBW.1 i h45) hcn (by omega)) gX1_execute_X1_perform rfl (by decide +kernel) ⟨by decide, by decide⟩ ob_267 rfl rfl rfl rfl (Nat.le_of_ble_eq_true rfl) dX1_execute_52 rfl ?_
        rintro _ rfl
        refine r_iincN hC (q := 58) (L' := [_, _, _, _, _, _]) (c := 1) dX1_execute_55 rfl rfl rfl rfl rfl ?_
        refine r_goto hC (t := 86) dX1_execute_58 (by decide) ?_
        refine r_iincN hC (q := 89) (L' := [_, _, _, _, _, _]) (c := 1) dX1_execute_86 rfl rfl rfl rfl rfl ?_
        refine r_goto hC (t := 33) dX1_execute_89 (by decide) ?_
        obtain ⟨e2, he2, hc2⟩ := pfm_cnt (o := v (kB p b + 1) i) (d := v (kB p b + 2) i) (a := v (kB p b + 3) i) (b := v (kB p b + 4) i) hcn
        exact ih (s + 1) b (i + 1) e2 _ (by omega) (hF.far (fun q h1 h2 => pfm_far (by omega))) hbc (by omega) hc2 (by omega) (by rw [exF, if_pos h45] at hpost; exact hpost)

def exI (v : VV) (p : Nat) : VV := u2 (va_up v 268 (va_cpy (v (p + 86)) (v 268) 0 0 8)) 267 2 0

set_option maxRecDepth 100000 in
set_option maxHeartbeats 4000000 in
theorem b_X1_execute {E : TE} {G : GG} {v : VV} {p c M : Nat} (hC : Cx E G cX1_execute RX1 6 wsX1_execute 2 60) (hR : RtI E G cX1_execute (fun r v' => r = (exF p M 1 0 0 (exI v p)).1 ∧ v' = (exF p M 1 0 0 (exI v p)).2)) (hp : isPr p) (hF : PF v p c) (hc1 : 0 < c) (hM : M ≤ 1000) : Wv E G v 0 [some (.ref (G.1 267)), some (.ref (G.1 p)), some (.int (nI M)), none, none, none] [] := by
  have hpl := isPr_lt hp
  have i_X1 : ∀ w ∈ wsX10, w ∈ wsX1_execute := by decide +kernel
  have i_X2 : ∀ w ∈ wsX20, w ∈ wsX1_execute := by decide +kernel
  have l_9 : lnk E RX1 9 (TX1 0) := hC.fl (by decide +kernel)
  have l_18 : lnk E RX1 18 (TX1 2) := hC.fl (by decide +kernel)
  have l_22 : lnk E RX1 22 (TX2 3) := hC.nf 21 rfl
  have l_33 : lnk E RX1 33 (TX2 0) := hC.nf 17 rfl
  refine r_aload_n hC (q := 1) dX1_execute_0 rfl rfl ?_
  refine g_X2 hC 3 i_X2 l_22 (by decide) (q := 4) dX1_execute_1 hp rfl rfl ?_
  refine r_iconst hC (x := 0) (q := 5) dX1_execute_4 (by decide) rfl ?_
  refine r_aload_n hC (q := 6) dX1_execute_5 rfl rfl ?_
  refine g_X1 hC 0 i_X1 l_9 (by decide) (q := 9) dX1_execute_6 rfl rfl ?_
  refine r_iconst hC (x := 0) (q := 10) dX1_execute_9 (by decide) rfl ?_
  refine r_bipush hC (x := 8) (q := 12) dX1_execute_10 (by decide) rfl ?_
  refine r_copy hC (q := 15) (by decide +kernel) (by decide +kernel) (by decide +kernel) (by decide +kernel) rfl (by decide) (Nat.le_of_ble_eq_true (by decide +kernel)) (iA_p86 hp) iA_268 (by decide) (by decide) (by decide) (by decide) (by decide) dX1_execute_12 rfl ?_
  refine r_aload_n hC (q := 16) dX1_execute_15 rfl rfl ?_
  refine r_iconst hC (x := 0) (q := 17) dX1_execute_16 (by decide) rfl ?_
  refine p_X1_2 hC i_X1 l_18 (q := 20) dX1_execute_17 rfl ?_
  refine r_aload_n hC (q := 21) dX1_execute_20 rfl rfl ?_
  refine g_X2 hC 0 i_X2 l_33 (by decide) (q := 24) dX1_execute_21 hp rfl rfl ?_
  refine r_iconst hC (x := 0) (q := 25) dX1_execute_24 (by decide) rfl ?_
  refine r_aBN hC (q := 26) (i := 0) dX1_execute_25 hp rfl (by omega) rfl ?_
  refine r_astore_n hC (q := 27) (L' := [_, _, _, _, _, _]) dX1_execute_26 (Nat.le_of_ble_eq_true rfl) rfl rfl ?_
  refine r_iconst hC (x := 0) (q := 28) dX1_execute_27 (by decide) rfl ?_
  refine r_istore hC (q := 30) (L' := [_, _, _, _, _, _]) dX1_execute_28 (Nat.le_of_ble_eq_true rfl) rfl rfl ?_
  refine r_iconst hC (x := 1) (q := 31) dX1_execute_30 (by decide) rfl ?_
  refine r_istore hC (q := 33) (L' := [_, _, _, _, _, _]) dX1_execute_31 (Nat.le_of_ble_eq_true rfl) rfl rfl ?_
  exact lp_X1_execute hC hR hp hM M 1 0 0 0 (exI v p) (by omega) (hF.far (fun q h1 h2 => by unfold exI; rw [u2_ne (by omega), va_up_ne _ _ (by omega)])) hc1 (by omega) (by simp [exI, va_up, upd]; rfl) (by omega) ⟨rfl, rfl⟩
theorem c_X1_execute (l : Launch) {G : GG} {v : VV} {p c M : Nat} (hp : isPr p) (hF : PF v p c) (hc1 : 0 < c) (hM : M ≤ 1000) : MtI l G yX1_execute wsX1_execute 2 60 [.ref (G.1 267), .ref (G.1 p), .int (nI M)] v (fun r v' => r = (exF p M 1 0 0 (exI v p)).1 ∧ v' = (exF p M 1 0 0 (exI v p)).2) := mt_int (Or.inl rfl) (by decide) rfl (by simp [Value.category]) (Nat.le_of_ble_eq_true rfl) rfl rfl (fun E hC hR => b_X1_execute hC hR hp hF hc1 hM)
