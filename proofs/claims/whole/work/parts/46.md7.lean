set_option maxRecDepth 100000 in
set_option maxHeartbeats 4000000 in
theorem b_X4_setRegister {E : TE} {G : GG} {v : VV} {x y : Int32} (hC : Cx E G cX4_setRegister RX4 3 wsX4_setRegister 2 42) (hR : RtI E G cX4_setRegister (fun r v' => r = (if isG x = true then 1 else -1003) ∧ v' = (if isG x = true then u2 v 271 (2 + tn x) y else v)))  : Wv E G v 0 [some (.ref (G.1 270)), some (.int x), some (.int y)] [] := by
  have i_X4 : ∀ w ∈ wsX40, w ∈ wsX4_setRegister := by decide +kernel
  have l_7 : lnk E RX4 7 (TX4 0) := hC.fl (by decide +kernel)
  refine r_iload_n hC (q := 1) dX4_setRegister_0 rfl rfl ?_
  refine r_cSI hC (q := 4) (n := 1) (As := [_]) (fun lch => c_X4_isRegister lch ) gX4_setRegister_X4_isRegister rfl (by decide +kernel) ⟨by decide, by decide⟩ rfl rfl rfl (Nat.le_of_ble_eq_true rfl) dX4_setRegister_1 rfl ?_
  rintro _ _ ⟨rfl, rfl⟩
  refine r_if_neB hC (q := 7) (t := 11) dX4_setRegister_4 (by decide) rfl (fun h4 => ?_) (fun h4 => ?_)
  · obtain ⟨ex, bx⟩ := inb_tn (c := 7) (by omega) h4
    refine r_aload_n hC (q := 12) dX4_setRegister_11 rfl rfl ?_
    refine g_X4 hC 0 i_X4 l_7 (by decide) (q := 15) dX4_setRegister_12 rfl rfl ?_
    refine r_iconst hC (x := 2) (q := 16) dX4_setRegister_15 (by decide) rfl ?_
    refine r_iload_n hC (q := 17) dX4_setRegister_16 rfl rfl ?_
    refine r_top (y := nI (tn x)) ex ?_
    refine r_iaddN hC (q := 18) (a := 2) dX4_setRegister_17 rfl rfl rfl ?_
    refine r_iload_n hC (q := 19) dX4_setRegister_18 rfl rfl ?_
    refine r_isN hC (q := 20) dX4_setRegister_19 iA_271 rfl (by omega) rfl ?_
    refine r_iconst hC (x := 1) (q := 21) dX4_setRegister_20 (by decide) rfl ?_
    exact hR _ _ _ _ dX4_setRegister_21 ⟨by rw [if_pos h4], by rw [if_pos h4]⟩
  · skip
    refine r_sipush hC (x := (-1003)) (q := 10) dX4_setRegister_7 (by decide) rfl ?_
    exact hR _ _ _ _ dX4_setRegister_10 ⟨by rw [if_neg h4], by rw [if_neg h4]⟩
theorem c_X4_setRegister (l : Launch) {G : GG} {v : VV} {x y : Int32}  : MtI l G yX4_setRegister wsX4_setRegister 2 42 [.ref (G.1 270), .int x, .int y] v (fun r v' => r = (if isG x = true then 1 else -1003) ∧ v' = (if isG x = true then u2 v 271 (2 + tn x) y else v)) := mt_int (Or.inl rfl) (by decide) rfl (by simp [Value.category]) (Nat.le_of_ble_eq_true rfl) rfl rfl (fun E hC hR => b_X4_setRegister hC hR )

def memm (v : VV) (e : Nat) (x : Int32) : VV := u2 (u2 v 275 e x) 270 6 (nI (e + 1))
def mpf (v : VV) (e : Nat) (o d a b : Int32) : VV :=
  if o = 0 then u2 v 274 (tn d) a
  else if o = 1 then u2 v 274 (tn d) (v 274 (tn a))
  else if o = 2 then u2 v 274 (tn d) (v 274 (tn a) + v 274 (tn b))
  else if o = 3 then u2 v 274 (tn d) (v 274 (tn a) - v 274 (tn b))
  else if o = 4 then u2 v 274 (tn d) (v 274 (tn a) * v 274 (tn b))
  else if o = 5 then u2 v 274 (tn d) (if v 274 (tn b) ≤ v 274 (tn a) then 0 else 1)
  else memm v e (v 274 (tn a))

set_option maxRecDepth 100000 in
set_option maxHeartbeats 4000000 in
theorem b_X4_execute {E : TE} {G : GG} {v : VV} {P e : Nat} (hC : Cx E G cX4_execute RX4 5 wsX4_execute 0 0) (hR : RtV E G cX4_execute (fun v' => v' = mpf v e (v 271 P) (v 271 (P + 1)) (v 271 (P + 2)) (v 271 (P + 3)))) (hP : P < 667) (hI : insOK (v 271 P) (v 271 (P + 1)) (v 271 (P + 2)) (v 271 (P + 3))) (he : v 270 6 = nI e) (he2 : e < 1000) : Wv E G v 0 [some (.ref (G.1 270)), some (.int (nI P)), none, none, none] [] := by
  have i_X4 : ∀ w ∈ wsX40, w ∈ wsX4_execute := by decide +kernel
  have l_7 : lnk E RX4 7 (TX4 0) := hC.fl (by decide +kernel)
  have l_20 : lnk E RX4 20 (TX4 4) := hC.fl (by decide +kernel)
  have l_23 : lnk E RX4 23 (TX4 5) := hC.fl (by decide +kernel)
  have l_136 : lnk E RX4 136 (TX4 6) := hC.fl (by decide +kernel)
  refine r_aload_n hC (q := 1) dX4_execute_0 rfl rfl ?_
  refine g_X4 hC 0 i_X4 l_7 (by decide) (q := 4) dX4_execute_1 rfl rfl ?_
  refine r_iload_n hC (q := 5) dX4_execute_4 rfl rfl ?_
  refine r_iconst hC (x := 1) (q := 6) dX4_execute_5 (by decide) rfl ?_
  refine r_iaddN hC (q := 7) (b := 1) dX4_execute_6 rfl rfl rfl ?_
  refine r_iaN hC (q := 8) dX4_execute_7 iA_271 rfl (by omega) rfl ?_
  refine r_istore_n hC (q := 9) (L' := [_, _, _, _, _]) dX4_execute_8 (Nat.le_of_ble_eq_true rfl) rfl rfl ?_
  refine r_aload_n hC (q := 10) dX4_execute_9 rfl rfl ?_
  refine g_X4 hC 0 i_X4 l_7 (by decide) (q := 13) dX4_execute_10 rfl rfl ?_
  refine r_iload_n hC (q := 14) dX4_execute_13 rfl rfl ?_
  refine r_iconst hC (x := 2) (q := 15) dX4_execute_14 (by decide) rfl ?_
  refine r_iaddN hC (q := 16) (b := 2) dX4_execute_15 rfl rfl rfl ?_
  refine r_iaN hC (q := 17) dX4_execute_16 iA_271 rfl (by omega) rfl ?_
  refine r_istore_n hC (q := 18) (L' := [_, _, _, _, _]) dX4_execute_17 (Nat.le_of_ble_eq_true rfl) rfl rfl ?_
  refine r_aload_n hC (q := 19) dX4_execute_18 rfl rfl ?_
  refine g_X4 hC 0 i_X4 l_7 (by decide) (q := 22) dX4_execute_19 rfl rfl ?_
  refine r_iload_n hC (q := 23) dX4_execute_22 rfl rfl ?_
  refine r_iconst hC (x := 3) (q := 24) dX4_execute_23 (by decide) rfl ?_
  refine r_iaddN hC (q := 25) (b := 3) dX4_execute_24 rfl rfl rfl ?_
  refine r_iaN hC (q := 26) dX4_execute_25 iA_271 rfl (by omega) rfl ?_
  refine r_istore hC (q := 28) (L' := [_, _, _, _, _]) dX4_execute_26 (Nat.le_of_ble_eq_true rfl) rfl rfl ?_
  refine r_aload_n hC (q := 29) dX4_execute_28 rfl rfl ?_
  refine g_X4 hC 0 i_X4 l_7 (by decide) (q := 32) dX4_execute_29 rfl rfl ?_
  refine r_iload_n hC (q := 33) dX4_execute_32 rfl rfl ?_
  refine r_iaN hC (q := 34) dX4_execute_33 iA_271 rfl (by omega) rfl ?_
  refine r_tsw5 hC (td := 196) (t0 := 72) (t1 := 82) (t2 := 97) (t3 := 120) (t4 := 143) (t5 := 166) dX4_execute_34 (by decide) (by decide) (by decide) (by decide) (by decide) (by decide) (by decide) (fun h34 => ?_) (fun h34 => ?_) (fun h34 => ?_) (fun h34 => ?_) (fun h34 => ?_) (fun h34 => ?_) (fun h34 => ?_)
  · skip
    refine r_aload_n hC (q := 197) dX4_execute_196 rfl rfl ?_
    refine g_X4 hC 5 i_X4 l_23 (by decide) (q := 200) dX4_execute_197 rfl rfl ?_
    refine r_aload_n hC (q := 201) dX4_execute_200 rfl rfl ?_
    refine g_X4 hC 6 i_X4 l_136 (by decide) (q := 204) dX4_execute_201 rfl rfl ?_
    refine r_top (y := nI e) he ?_
    refine r_aload_n hC (q := 205) dX4_execute_204 rfl rfl ?_
    refine g_X4 hC 4 i_X4 l_20 (by decide) (q := 208) dX4_execute_205 rfl rfl ?_
    refine r_iload_n hC (q := 209) dX4_execute_208 rfl rfl ?_
    refine r_iaload hC (q := 210) dX4_execute_209 iA_274 (hI.a (sw5_ne h34).1) rfl ?_
    refine r_isN hC (q := 211) dX4_execute_210 iA_275 rfl (by omega) rfl ?_
    refine r_aload_n hC (q := 212) dX4_execute_211 rfl rfl ?_
    refine r_dup hC (q := 213) rfl dX4_execute_212 rfl ?_
    refine g_X4 hC 6 i_X4 l_136 (by decide) (q := 216) dX4_execute_213 rfl rfl ?_
    refine r_top (y := nI e) (by rw [va_up_ne _ _ (by omega)]; exact he) ?_
    refine r_iconst hC (x := 1) (q := 217) dX4_execute_216 (by decide) rfl ?_
    refine r_iaddN hC (q := 218) (b := 1) dX4_execute_217 rfl rfl rfl ?_
    refine p_X4_6 hC i_X4 l_136 (q := 221) dX4_execute_218 rfl ?_
    exact hR _ _ _ dX4_execute_221 (by obtain ⟨g0, g1, g2, g3, g4, g5⟩ := sw5_ne h34; rw [mpf, if_neg g0, if_neg g1, if_neg g2, if_neg g3, if_neg g4, if_neg g5]; rfl)
  · skip
    refine r_aload_n hC (q := 73) dX4_execute_72 rfl rfl ?_
    refine g_X4 hC 4 i_X4 l_20 (by decide) (q := 76) dX4_execute_73 rfl rfl ?_
    refine r_iload_n hC (q := 77) dX4_execute_76 rfl rfl ?_
    refine r_iload_n hC (q := 78) dX4_execute_77 rfl rfl ?_
    refine r_iastore hC (q := 79) dX4_execute_78 iA_274 hI.d rfl ?_
    refine r_goto hC (t := 221) dX4_execute_79 (by decide) ?_
    exact hR _ _ _ dX4_execute_221 (by rw [mpf, if_pos h34])
  · skip
    refine r_aload_n hC (q := 83) dX4_execute_82 rfl rfl ?_
    refine g_X4 hC 4 i_X4 l_20 (by decide) (q := 86) dX4_execute_83 rfl rfl ?_
    refine r_iload_n hC (q := 87) dX4_execute_86 rfl rfl ?_
    refine r_aload_n hC (q := 88) dX4_execute_87 rfl rfl ?_
    refine g_X4 hC 4 i_X4 l_20 (by decide) (q := 91) dX4_execute_88 rfl rfl ?_
    refine r_iload_n hC (q := 92) dX4_execute_91 rfl rfl ?_
    refine r_iaload hC (q := 93) dX4_execute_92 iA_274 (hI.a (by rw [h34]; decide)) rfl ?_
    refine r_iastore hC (q := 94) dX4_execute_93 iA_274 hI.d rfl ?_
    refine r_goto hC (t := 221) dX4_execute_94 (by decide) ?_
    exact hR _ _ _ dX4_execute_221 (by rw [mpf, if_neg (by rw [h34]; decide), if_pos h34])
  · skip
    refine r_aload_n hC (q := 98) dX4_execute_97 rfl rfl ?_
    refine g_X4 hC 4 i_X4 l_20 (by decide) (q := 101) dX4_execute_98 rfl rfl ?_
    refine r_iload_n hC (q := 102) dX4_execute_101 rfl rfl ?_
    refine r_aload_n hC (q := 103) dX4_execute_102 rfl rfl ?_
    refine g_X4 hC 4 i_X4 l_20 (by decide) (q := 106) dX4_execute_103 rfl rfl ?_
    refine r_iload_n hC (q := 107) dX4_execute_106 rfl rfl ?_
    refine r_iaload hC (q := 108) dX4_execute_107 iA_274 (hI.a (by rw [h34]; decide)) rfl ?_
    refine r_aload_n hC (q := 109) dX4_execute_108 rfl rfl ?_
    refine g_X4 hC 4 i_X4 l_20 (by decide) (q := 112) dX4_execute_109 rfl rfl ?_
    refine r_iload hC (q := 114) dX4_execute_112 rfl rfl ?_
    refine r_iaload hC (q := 115) dX4_execute_114 iA_274 hI.b rfl ?_
    refine r_iadd hC (q := 116) dX4_execute_115 rfl ?_
    refine r_iastore hC (q := 117) dX4_execute_116 iA_274 hI.d rfl ?_
    refine r_goto hC (t := 221) dX4_execute_117 (by decide) ?_
    exact hR _ _ _ dX4_execute_221 (by rw [mpf, if_neg (by rw [h34]; decide), if_neg (by rw [h34]; decide), if_pos h34])
  · skip
    refine r_aload_n hC (q := 121) dX4_execute_120 rfl rfl ?_
    refine g_X4 hC 4 i_X4 l_20 (by decide) (q := 124) dX4_execute_121 rfl rfl ?_
    refine r_iload_n hC (q := 125) dX4_execute_124 rfl rfl ?_
    refine r_aload_n hC (q := 126) dX4_execute_125 rfl rfl ?_
    refine g_X4 hC 4 i_X4 l_20 (by decide) (q := 129) dX4_execute_126 rfl rfl ?_
    refine r_iload_n hC (q := 130) dX4_execute_129 rfl rfl ?_
    refine r_iaload hC (q := 131) dX4_execute_130 iA_274 (hI.a (by rw [h34]; decide)) rfl ?_
    refine r_aload_n hC (q := 132) dX4_execute_131 rfl rfl ?_
    refine g_X4 hC 4 i_X4 l_20 (by decide) (q := 135) dX4_execute_132 rfl rfl ?_
    refine r_iload hC (q := 137) dX4_execute_135 rfl rfl ?_
    refine r_iaload hC (q := 138) dX4_execute_137 iA_274 hI.b rfl ?_
    refine r_isub hC (q := 139) dX4_execute_138 rfl ?_
    refine r_iastore hC (q := 140) dX4_execute_139 iA_274 hI.d rfl ?_
    refine r_goto hC (t := 221) dX4_execute_140 (by decide) ?_
    exact hR _ _ _ dX4_execute_221 (by rw [mpf, if_neg (by rw [h34]; decide), if_neg (by rw [h34]; decide), if_neg (by rw [h34]; decide), if_pos h34])
  · skip
    refine r_aload_n hC (q := 144) dX4_execute_143 rfl rfl ?_
    refine g_X4 hC 4 i_X4 l_20 (by decide) (q := 147) dX4_execute_144 rfl rfl ?_
    refine r_iload_n hC (q := 148) dX4_execute_147 rfl rfl ?_
    refine r_aload_n hC (q := 149) dX4_execute_148 rfl rfl ?_
    refine g_X4 hC 4 i_X4 l_20 (by decide) (q := 152) dX4_execute_149 rfl rfl ?_
    refine r_iload_n hC (q := 153) dX4_execute_152 rfl rfl ?_
    refine r_iaload hC (q := 154) dX4_execute_153 iA_274 (hI.a (by rw [h34]; decide)) rfl ?_
    refine r_aload_n hC (q := 155) dX4_execute_154 rfl rfl ?_
    refine g_X4 hC 4 i_X4 l_20 (by decide) (q := 158) dX4_execute_155 rfl rfl ?_
    refine r_iload hC (q := 160) dX4_execute_158 rfl rfl ?_
    refine r_iaload hC (q := 161) dX4_execute_160 iA_274 hI.b rfl ?_
    refine r_imul hC (q := 162) dX4_execute_161 rfl ?_
    refine r_iastore hC (q := 163) dX4_execute_162 iA_274 hI.d rfl ?_
    refine r_goto hC (t := 221) dX4_execute_163 (by decide) ?_
    exact hR _ _ _ dX4_execute_221 (by rw [mpf, if_neg (by rw [h34]; decide), if_neg (by rw [h34]; decide), if_neg (by rw [h34]; decide), if_neg (by rw [h34]; decide), if_pos h34])
  · skip
    refine r_aload_n hC (q := 167) dX4_execute_166 rfl rfl ?_
    refine g_X4 hC 4 i_X4 l_20 (by decide) (q := 170) dX4_execute_167 rfl rfl ?_
    refine r_iload_n hC (q := 171) dX4_execute_170 rfl rfl ?_
    refine r_aload_n hC (q := 172) dX4_execute_171 rfl rfl ?_
    refine g_X4 hC 4 i_X4 l_20 (by decide) (q := 175) dX4_execute_172 rfl rfl ?_
    refine r_iload_n hC (q := 176) dX4_execute_175 rfl rfl ?_
    refine r_iaload hC (q := 177) dX4_execute_176 iA_274 (hI.a (by rw [h34]; decide)) rfl ?_
    refine r_aload_n hC (q := 178) dX4_execute_177 rfl rfl ?_
    refine g_X4 hC 4 i_X4 l_20 (by decide) (q := 181) dX4_execute_178 rfl rfl ?_
    refine r_iload hC (q := 183) dX4_execute_181 rfl rfl ?_
    refine r_iaload hC (q := 184) dX4_execute_183 iA_274 hI.b rfl ?_
    refine r_icmp_ge hC (q := 187) (t := 191) dX4_execute_184 (by decide) rfl (fun h184 => ?_) (fun h184 => ?_)
    · skip
      refine r_iconst hC (x := 0) (q := 192) dX4_execute_191 (by decide) rfl ?_
      refine r_iastore hC (q := 193) dX4_execute_192 iA_274 hI.d rfl ?_
      refine r_goto hC (t := 221) dX4_execute_193 (by decide) ?_
      exact hR _ _ _ dX4_execute_221 (by rw [mpf, if_neg (by rw [h34]; decide), if_neg (by rw [h34]; decide), if_neg (by rw [h34]; decide), if_neg (by rw [h34]; decide), if_neg (by rw [h34]; decide), if_pos h34, if_pos h184])
    · skip
      refine r_iconst hC (x := 1) (q := 188) dX4_execute_187 (by decide) rfl ?_
      refine r_goto hC (t := 192) dX4_execute_188 (by decide) ?_
      refine r_iastore hC (q := 193) dX4_execute_192 iA_274 hI.d rfl ?_
      refine r_goto hC (t := 221) dX4_execute_193 (by decide) ?_
      exact hR _ _ _ dX4_execute_221 (by rw [mpf, if_neg (by rw [h34]; decide), if_neg (by rw [h34]; decide), if_neg (by rw [h34]; decide), if_neg (by rw [h34]; decide), if_neg (by rw [h34]; decide), if_pos h34, if_neg h184])
theorem c_X4_execute (l : Launch) {G : GG} {v : VV} {P e : Nat} (hP : P < 667) (hI : insOK (v 271 P) (v 271 (P + 1)) (v 271 (P + 2)) (v 271 (P + 3))) (he : v 270 6 = nI e) (he2 : e < 1000) : MtV l G yX4_execute wsX4_execute 0 0 [.ref (G.1 270), .int (nI P)] v (fun v' => v' = mpf v e (v 271 P) (v 271 (P + 1)) (v 271 (P + 2)) (v 271 (P + 3))) := mt_void (by decide) rfl (by simp [Value.category]) (Nat.le_of_ble_eq_true rfl) rfl rfl (fun E hC hR => b_X4_execute hC hR hP hI he he2)

def nxm (v : VV) (b : Nat) : Int32 := if v 271 (10 + 55 * b + 51) = 0 then v 271 (10 + 55 * b + 51 + 1) else if v 271 (10 + 55 * b + 51) = 1 then (if v 274 (tn (v 271 (10 + 55 * b + 51 + 1))) = 0 then v 271 (10 + 55 * b + 51 + 3) else v 271 (10 + 55 * b + 51 + 2)) else -1008

set_option maxRecDepth 100000 in
set_option maxHeartbeats 4000000 in
theorem b_X4_nextOf {E : TE} {G : GG} {v : VV} {b : Nat} (hC : Cx E G cX4_nextOf RX4 3 wsX4_nextOf 2 40) (hR : RtI E G cX4_nextOf (fun r v' => r = nxm v b ∧ v = v')) (hb : b < 12) (ht : v 271 (10 + 55 * b + 51) = 1 → vp_in (v 271 (10 + 55 * b + 51 + 1)) 8) : Wv E G v 0 [some (.ref (G.1 270)), some (.int (nI b)), none] [] := by
  have i_X4 : ∀ w ∈ wsX40, w ∈ wsX4_nextOf := by decide +kernel
  have l_7 : lnk E RX4 7 (TX4 0) := hC.fl (by decide +kernel)
  have l_20 : lnk E RX4 20 (TX4 4) := hC.fl (by decide +kernel)
  refine r_iload_n hC (q := 1) dX4_nextOf_0 rfl rfl ?_
  refine r_cSI hC (q := 4) (n := 1) (As := [_]) (fun lch => c_X4_end lch ) gX4_nextOf_X4_end rfl (by decide +kernel) ⟨by decide, by decide⟩ rfl rfl rfl (Nat.le_of_ble_eq_true rfl) dX4_nextOf_1 rfl ?_
  rintro _ _ ⟨rfl, rfl⟩
  refine r_istore_n hC (q := 5) (L' := [_, _, _]) dX4_nextOf_4 (Nat.le_of_ble_eq_true rfl) rfl rfl ?_
  refine r_aload_n hC (q := 6) dX4_nextOf_5 rfl rfl ?_
  refine g_X4 hC 0 i_X4 l_7 (by decide) (q := 9) dX4_nextOf_6 rfl rfl ?_
  refine r_iload_n hC (q := 10) dX4_nextOf_9 rfl rfl ?_
  refine r_iaN hC (q := 11) dX4_nextOf_10 iA_271 rfl (by omega) rfl ?_
  refine r_lsw hC (td := 81) (t0 := 36) (t1 := 45) dX4_nextOf_11 (by decide) (by decide) (by decide) (fun h11 => ?_) (fun h11 => ?_) (fun h11 => ?_)
  · skip
    refine r_sipush hC (x := (-1008)) (q := 84) dX4_nextOf_81 (by decide) rfl ?_
    exact hR _ _ _ _ dX4_nextOf_84 ⟨by rw [nxm, if_neg h11.1, if_neg h11.2], rfl⟩
  · skip
    refine r_aload_n hC (q := 37) dX4_nextOf_36 rfl rfl ?_
    refine g_X4 hC 0 i_X4 l_7 (by decide) (q := 40) dX4_nextOf_37 rfl rfl ?_
    refine r_iload_n hC (q := 41) dX4_nextOf_40 rfl rfl ?_
    refine r_iconst hC (x := 1) (q := 42) dX4_nextOf_41 (by decide) rfl ?_
    refine r_iaddN hC (q := 43) (b := 1) dX4_nextOf_42 rfl rfl rfl ?_
    refine r_iaN hC (q := 44) dX4_nextOf_43 iA_271 rfl (by omega) rfl ?_
    exact hR _ _ _ _ dX4_nextOf_44 ⟨by rw [nxm, if_pos h11], rfl⟩
  · skip
    refine r_aload_n hC (q := 46) dX4_nextOf_45 rfl rfl ?_
    refine g_X4 hC 4 i_X4 l_20 (by decide) (q := 49) dX4_nextOf_46 rfl rfl ?_
    refine r_aload_n hC (q := 50) dX4_nextOf_49 rfl rfl ?_
    refine g_X4 hC 0 i_X4 l_7 (by decide) (q := 53) dX4_nextOf_50 rfl rfl ?_
    refine r_iload_n hC (q := 54) dX4_nextOf_53 rfl rfl ?_
    refine r_iconst hC (x := 1) (q := 55) dX4_nextOf_54 (by decide) rfl ?_
    refine r_iaddN hC (q := 56) (b := 1) dX4_nextOf_55 rfl rfl rfl ?_
    refine r_iaN hC (q := 57) dX4_nextOf_56 iA_271 rfl (by omega) rfl ?_
    refine r_iaload hC (q := 58) dX4_nextOf_57 iA_274 (ht h11) rfl ?_
    refine r_if_eq hC (q := 61) (t := 72) dX4_nextOf_58 (by decide) rfl (fun h58 => ?_) (fun h58 => ?_)
    · skip
      refine r_aload_n hC (q := 73) dX4_nextOf_72 rfl rfl ?_
      refine g_X4 hC 0 i_X4 l_7 (by decide) (q := 76) dX4_nextOf_73 rfl rfl ?_
      refine r_iload_n hC (q := 77) dX4_nextOf_76 rfl rfl ?_
      refine r_iconst hC (x := 3) (q := 78) dX4_nextOf_77 (by decide) rfl ?_
      refine r_iaddN hC (q := 79) (b := 3) dX4_nextOf_78 rfl rfl rfl ?_
      refine r_iaN hC (q := 80) dX4_nextOf_79 iA_271 rfl (by omega) rfl ?_
      exact hR _ _ _ _ dX4_nextOf_80 ⟨by rw [nxm, if_neg (by rw [h11]; decide), if_pos h11, if_pos h58], rfl⟩
    · skip
      refine r_aload_n hC (q := 62) dX4_nextOf_61 rfl rfl ?_
      refine g_X4 hC 0 i_X4 l_7 (by decide) (q := 65) dX4_nextOf_62 rfl rfl ?_
      refine r_iload_n hC (q := 66) dX4_nextOf_65 rfl rfl ?_
      refine r_iconst hC (x := 2) (q := 67) dX4_nextOf_66 (by decide) rfl ?_
      refine r_iaddN hC (q := 68) (b := 2) dX4_nextOf_67 rfl rfl rfl ?_
      refine r_iaN hC (q := 69) dX4_nextOf_68 iA_271 rfl (by omega) rfl ?_
      refine r_goto hC (t := 80) dX4_nextOf_69 (by decide) ?_
      exact hR _ _ _ _ dX4_nextOf_80 ⟨by rw [nxm, if_neg (by rw [h11]; decide), if_pos h11, if_neg h58], rfl⟩
theorem c_X4_nextOf (l : Launch) {G : GG} {v : VV} {b : Nat} (hb : b < 12) (ht : v 271 (10 + 55 * b + 51) = 1 → vp_in (v 271 (10 + 55 * b + 51 + 1)) 8) : MtI l G yX4_nextOf wsX4_nextOf 2 40 [.ref (G.1 270), .int (nI b)] v (fun r v' => r = nxm v b ∧ v = v') := mt_int (Or.inl rfl) (by decide) rfl (by simp [Value.category]) (Nat.le_of_ble_eq_true rfl) rfl rfl (fun E hC hR => b_X4_nextOf hC hR hb ht)

def MF (g : Nat → Int32) (c : Nat) : Prop := MW g c ∧ ∀ b, b < c → BW (mw g b) c
def rnF : Nat → Nat → Nat → Nat → VV → Int32 × VV
  | 0, _, _, _, v => (-1007, v)
  | f + 1, s, b, i, v => if i < mnb (v 271) b then rnF f (s + 1) b (i + 1) (mpf v (tn (v 270 6)) (v 271 (10 + 55 * b + 1 + 5 * i)) (v 271 (10 + 55 * b + 1 + 5 * i + 1)) (v 271 (10 + 55 * b + 1 + 5 * i + 2)) (v 271 (10 + 55 * b + 1 + 5 * i + 3))) else if 0 ≤ nxm v b then rnF f (s + 1) (tn (nxm v b)) 0 v else (nI s, v)
theorem mpf_ne {v : VV} {e q : Nat} {o d a b : Int32} (h1 : q ≠ 270) (h2 : q ≠ 274) (h3 : q ≠ 275) : mpf v e o d a b q = v q := by
  unfold mpf memm
  repeat' split
  all_goals first | rw [u2_ne h1, u2_ne h3] | rw [u2_ne h2]
theorem mpf_cnt {v : VV} {e : Nat} {o d a b : Int32} (h : v 270 6 = nI e) : ∃ e', e' ≤ e + 1 ∧ mpf v e o d a b 270 6 = nI e' := by
  unfold mpf memm
  repeat' split
  all_goals first | exact ⟨e, by omega, by rw [u2_ne (by omega)]; exact h⟩ | exact ⟨e + 1, Nat.le_refl _, by simp [va_up, upd]⟩
theorem nxm_ok {v : VV} {c b : Nat} (h : MF (v 271) c) (hb : b < c) : (v 271 (10 + 55 * b + 51) = 1 → vp_in (v 271 (10 + 55 * b + 51 + 1)) 8) ∧ (0 ≤ nxm v b → vp_in (nxm v b) c) := by
  have h3 : (v 271 (10 + 55 * b + 51) = 0 ∧ vp_in (v 271 (10 + 55 * b + 51 + 1)) c) ∨ (v 271 (10 + 55 * b + 51) = 1 ∧ vp_in (v 271 (10 + 55 * b + 51 + 1)) 8 ∧ vp_in (v 271 (10 + 55 * b + 51 + 2)) c ∧ vp_in (v 271 (10 + 55 * b + 51 + 3)) c) ∨ v 271 (10 + 55 * b + 51) = 2 := (h.2 b hb).2
  rcases h3 with h3 | h3 | h3
  · exact ⟨fun e => by rw [h3.1] at e; exact absurd e (by decide), fun _ => by rw [nxm, if_pos h3.1]; exact h3.2⟩
  · refine ⟨fun _ => h3.2.1, fun _ => ?_⟩
    rw [nxm, if_neg (by rw [h3.1]; decide), if_pos h3.1]
    split
    · exact h3.2.2.2
    · exact h3.2.2.1
  · refine ⟨fun e => by rw [h3] at e; exact absurd e (by decide), fun e => ?_⟩
    rw [nxm, if_neg (by rw [h3]; decide), if_neg (by rw [h3]; decide)] at e
    exact absurd e (by decide)

set_option maxRecDepth 100000 in
set_option maxHeartbeats 4000000 in
theorem lp_X4_run {E : TE} {G : GG} {c M : Nat} {post : Int32 → VV → Prop} (hC : Cx E G cX4_run RX4 5 wsX4_run 3 62) (hR : RtI E G cX4_run post) (hM : M ≤ 1000) : ∀ (f s b i e : Nat) (v : VV), s + f = M + 1 → MF (v 271) c → b < c → i ≤ 10 → v 270 6 = nI e → e + f ≤ 1000 → post (rnF f s b i v).1 (rnF f s b i v).2 → Wv E G v 78 [some (.ref (G.1 270)), some (.int (nI M)), some (.int (nI b)), some (.int (nI i)), some (.int (nI s))] [] := by
  intro f
  induction f with
  | zero =>
    intro s b i e v hsf hF hbc hi he hef hpost
    refine r_iload hC (q := 80) dX4_run_78 rfl rfl ?_
    refine r_iload_n hC (q := 81) dX4_run_80 rfl rfl ?_
    refine r_icmp_gtN hC (q := 84) (t := 129) dX4_run_81 rfl rfl (by omega) (by omega) (by decide) rfl (fun h81 => ?_) (fun h81 => ?_)
    · skip
      refine r_sipush hC (x := (-1007)) (q := 132) dX4_run_129 (by decide) rfl ?_
      exact hR _ _ _ _ dX4_run_132 hpost
    · skip
      omega
  | succ f ih =>
    intro s b i e v hsf hF hbc hi he hef hpost
    have h12 := hF.1.2.1
    have hn := hF.1.2.2 b hbc
    have hBW := hF.2 b hbc
    have hcn : v 270 6 = nI (tn (v 270 6)) := by rw [he, tn_nI (by omega)]
    have het : tn (v 270 6) = e := by rw [he, tn_nI (by omega)]
    refine r_iload hC (q := 80) dX4_run_78 rfl rfl ?_
    refine r_iload_n hC (q := 81) dX4_run_80 rfl rfl ?_
    refine r_icmp_gtN hC (q := 84) (t := 129) dX4_run_81 rfl rfl (by omega) (by omega) (by decide) rfl (fun h81 => ?_) (fun h81 => ?_)
    · skip
      omega
    · skip
      refine r_iload_n hC (q := 85) dX4_run_84 rfl rfl ?_
      refine r_aload_n hC (q := 86) dX4_run_85 rfl rfl ?_
      refine r_iload_n hC (q := 87) dX4_run_86 rfl rfl ?_
      refine r_cVI hC (q := 90) (n := 1) (As := [_]) (fun lch => c_X4_many lch (by omega)) gX4_run_X4_many rfl (by decide +kernel) ⟨by decide, by decide⟩ ob_270 rfl rfl rfl rfl (Nat.le_of_ble_eq_true rfl) dX4_run_87 rfl ?_
      rintro _ _ ⟨rfl, rfl⟩
      refine r_top (y := nI (mnb (v 271) b)) hn.1 ?_
      refine r_icmp_geN hC (q := 93) (t := 108) dX4_run_90 rfl rfl (by omega) (by omega) (by decide) rfl (fun h90 => ?_) (fun h90 => ?_)
      · skip
        refine r_aload_n hC (q := 109) dX4_run_108 rfl rfl ?_
        refine r_iload_n hC (q := 110) dX4_run_109 rfl rfl ?_
        refine r_cVI hC (q := 113) (n := 1) (As := [_]) (fun lch => c_X4_nextOf lch (by omega) (nxm_ok hF hbc).1) gX4_run_X4_nextOf rfl (by decide +kernel) ⟨by decide, by decide⟩ ob_270 rfl rfl rfl rfl (Nat.le_of_ble_eq_true rfl) dX4_run_110 rfl ?_
        rintro _ _ ⟨rfl, rfl⟩
        refine r_istore_n hC (q := 114) (L' := [_, _, _, _, _]) dX4_run_113 (Nat.le_of_ble_eq_true rfl) rfl rfl ?_
        refine r_iconst hC (x := 0) (q := 115) dX4_run_114 (by decide) rfl ?_
        refine r_istore_n hC (q := 116) (L' := [_, _, _, _, _]) dX4_run_115 (Nat.le_of_ble_eq_true rfl) rfl rfl ?_
        refine r_iload_n hC (q := 117) dX4_run_116 rfl rfl ?_
        refine r_if_ge hC (q := 120) (t := 123) dX4_run_117 (by decide) rfl (fun h117 => ?_) (fun h117 => ?_)
        · skip
          refine r_iincN hC (q := 126) (L' := [_, _, _, _, _]) (c := 1) dX4_run_123 rfl rfl rfl rfl rfl ?_
          refine r_goto hC (t := 78) dX4_run_126 (by decide) ?_
          obtain ⟨en1, en2⟩ := vp_tn ((nxm_ok hF hbc).2 h117) (by omega)
          have key := ih (s + 1) (tn (nxm v b)) 0 e v (by omega) hF en2 (by omega) he (by omega) (by rw [rnF, if_neg (by omega), if_pos h117] at hpost; exact hpost)
          rw [← en1] at key
          exact key
        · skip
          refine r_iload hC (q := 122) dX4_run_120 rfl rfl ?_
          exact hR _ _ _ _ dX4_run_122 (by rw [rnF, if_neg (by omega), if_neg h117] at hpost; exact hpost)
      · skip
        refine r_aload_n hC (q := 94) dX4_run_93 rfl rfl ?_
        refine r_iload_n hC (q := 95) dX4_run_94 rfl rfl ?_
        refine r_iload_n hC (q := 96) dX4_run_95 rfl rfl ?_
        refine r_cSI hC (q := 99) (n := 2) (As := [_, _]) (fun lch => c_X4_at lch ) gX4_run_X4_at rfl (by decide +kernel) ⟨by decide, by decide⟩ rfl rfl rfl (Nat.le_of_ble_eq_true rfl) dX4_run_96 rfl ?_
        rintro _ _ ⟨rfl, rfl⟩
        refine r_cVV hC (q := 102) (n := 1) (As := [_]) (fun lch => c_X4_execute lch (by omega) (hBW.1 i h90) hcn (by omega)) gX4_run_X4_execute rfl (by decide +kernel) ⟨by decide, by decide⟩ ob_270 rfl rfl rfl rfl (Nat.le_of_ble_eq_true rfl) dX4_run_99 rfl ?_
        rintro _ rfl
        refine r_iincN hC (q := 105) (L' := [_, _, _, _, _]) (c := 1) dX4_run_102 rfl rfl rfl rfl rfl ?_
        refine r_goto hC (t := 123) dX4_run_105 (by decide) ?_
        refine r_iincN hC (q := 126) (L' := [_, _, _, _, _]) (c := 1) dX4_run_123 rfl rfl rfl rfl rfl ?_
        refine r_goto hC (t := 78) dX4_run_126 (by decide) ?_
        obtain ⟨e2, he2, hc2⟩ := mpf_cnt (o := v 271 (10 + 55 * b + 1 + 5 * i)) (d := v 271 (10 + 55 * b + 1 + 5 * i + 1)) (a := v 271 (10 + 55 * b + 1 + 5 * i + 2)) (b := v 271 (10 + 55 * b + 1 + 5 * i + 3)) hcn
        exact ih (s + 1) b (i + 1) e2 _ (by omega) (by rw [mpf_ne (by omega) (by omega) (by omega)]; exact hF) hbc (by omega) hc2 (by omega) (by rw [rnF, if_pos h90] at hpost; exact hpost)

def rgF : Nat → Nat → VV → VV
  | 0, _, v => v
  | f + 1, r, v => rgF f (r + 1) (u2 v 274 r (if r < 7 then v 271 (2 + r) else 0))
theorem rgF_ne {q : Nat} (h : q ≠ 274) : ∀ (f r : Nat) (v : VV), rgF f r v q = v q := by
  intro f
  induction f with
  | zero => intro r v; rfl
  | succ f ih => intro r v; rw [rgF, ih, u2_ne h]
def rnI (v : VV) : VV := u2 (rgF 8 0 v) 270 6 0
theorem inM_R {x : Int32} : inR x 1 1000 = inM x := by
  unfold inR inM
  rw [Bool.eq_iff_iff]
  have e : (¬ (1000 : Int32) < x) ↔ x ≤ 1000 := Int32.not_lt
  simp [e]

set_option maxRecDepth 100000 in
set_option maxHeartbeats 4000000 in
theorem lr_X4_run {E : TE} {G : GG} {c M : Nat} {post : Int32 → VV → Prop} (hC : Cx E G cX4_run RX4 5 wsX4_run 3 62) (hR : RtI E G cX4_run post) (hM : M ≤ 1000) (hc : 0 < c) : ∀ (f r : Nat) (v : VV), r + f = 8 → MF (v 271) c → post (rnF M 1 0 0 (u2 (rgF f r v) 270 6 0)).1 (rnF M 1 0 0 (u2 (rgF f r v) 270 6 0)).2 → Wv E G v 30 [some (.ref (G.1 270)), some (.int (nI M)), some (.int (nI r)), none, none] [] := by
  intro f
  induction f with
  | zero =>
    intro r v hrf hF hpost
    have i_X4 : ∀ w ∈ wsX40, w ∈ wsX4_run := by decide +kernel
    have l_136 : lnk E RX4 136 (TX4 6) := hC.fl (by decide +kernel)
    refine r_iload_n hC (q := 31) dX4_run_30 rfl rfl ?_
    refine r_bipush hC (x := 8) (q := 33) dX4_run_31 (by decide) rfl ?_
    refine r_icmp_geN hC (q := 36) (t := 66) (b := 8) dX4_run_33 rfl rfl (by omega) (by omega) (by decide) rfl (fun h33 => ?_) (fun h33 => ?_)
    · skip
      refine r_aload_n hC (q := 67) dX4_run_66 rfl rfl ?_
      refine r_iconst hC (x := 0) (q := 68) dX4_run_67 (by decide) rfl ?_
      refine p_X4_6 hC i_X4 l_136 (q := 71) dX4_run_68 rfl ?_
      refine r_iconst hC (x := 0) (q := 72) dX4_run_71 (by decide) rfl ?_
      refine r_istore_n hC (q := 73) (L' := [_, _, _, _, _]) dX4_run_72 (Nat.le_of_ble_eq_true rfl) rfl rfl ?_
      refine r_iconst hC (x := 0) (q := 74) dX4_run_73 (by decide) rfl ?_
      refine r_istore_n hC (q := 75) (L' := [_, _, _, _, _]) dX4_run_74 (Nat.le_of_ble_eq_true rfl) rfl rfl ?_
      refine r_iconst hC (x := 1) (q := 76) dX4_run_75 (by decide) rfl ?_
      refine r_istore hC (q := 78) (L' := [_, _, _, _, _]) dX4_run_76 (Nat.le_of_ble_eq_true rfl) rfl rfl ?_
      exact lp_X4_run hC hR hM M 1 0 0 0 _ (by omega) (by rw [va_up_ne _ _ (by omega)]; exact hF) hc (by omega) (by simp [va_up, upd]; rfl) (by omega) hpost
    · skip
      omega
  | succ f ih =>
    intro r v hrf hF hpost
    have i_X4 : ∀ w ∈ wsX40, w ∈ wsX4_run := by decide +kernel
    have l_7 : lnk E RX4 7 (TX4 0) := hC.fl (by decide +kernel)
    have l_20 : lnk E RX4 20 (TX4 4) := hC.fl (by decide +kernel)
    refine r_iload_n hC (q := 31) dX4_run_30 rfl rfl ?_
    refine r_bipush hC (x := 8) (q := 33) dX4_run_31 (by decide) rfl ?_
    refine r_icmp_geN hC (q := 36) (t := 66) (b := 8) dX4_run_33 rfl rfl (by omega) (by omega) (by decide) rfl (fun h33 => ?_) (fun h33 => ?_)
    · skip
      omega
    · skip
      refine r_aload_n hC (q := 37) dX4_run_36 rfl rfl ?_
      refine g_X4 hC 4 i_X4 l_20 (by decide) (q := 40) dX4_run_37 rfl rfl ?_
      refine r_iload_n hC (q := 41) dX4_run_40 rfl rfl ?_
      refine r_iload_n hC (q := 42) dX4_run_41 rfl rfl ?_
      refine r_bipush hC (x := 7) (q := 44) dX4_run_42 (by decide) rfl ?_
      refine r_icmp_geN hC (q := 47) (t := 58) (b := 7) dX4_run_44 rfl rfl (by omega) (by omega) (by decide) rfl (fun h44 => ?_) (fun h44 => ?_)
      · skip
        refine r_iconst hC (x := 0) (q := 59) dX4_run_58 (by decide) rfl ?_
        refine r_isN hC (q := 60) dX4_run_59 iA_274 rfl (by omega) rfl ?_
        refine r_iincN hC (q := 63) (L' := [_, _, _, _, _]) (c := 1) dX4_run_60 rfl rfl rfl rfl rfl ?_
        refine r_goto hC (t := 30) dX4_run_63 (by decide) ?_
        rw [rgF, if_neg (Nat.not_lt.mpr h44)] at hpost
        exact ih (r + 1) _ (by omega) (by rw [va_up_ne _ _ (by omega)]; exact hF) hpost
      · skip
        refine r_aload_n hC (q := 48) dX4_run_47 rfl rfl ?_
        refine g_X4 hC 0 i_X4 l_7 (by decide) (q := 51) dX4_run_48 rfl rfl ?_
        refine r_iconst hC (x := 2) (q := 52) dX4_run_51 (by decide) rfl ?_
        refine r_iload_n hC (q := 53) dX4_run_52 rfl rfl ?_
        refine r_iaddN hC (q := 54) (a := 2) dX4_run_53 rfl rfl rfl ?_
        refine r_iaN hC (q := 55) dX4_run_54 iA_271 rfl (by omega) rfl ?_
        refine r_goto hC (t := 59) dX4_run_55 (by decide) ?_
        refine r_isN hC (q := 60) dX4_run_59 iA_274 rfl (by omega) rfl ?_
        refine r_iincN hC (q := 63) (L' := [_, _, _, _, _]) (c := 1) dX4_run_60 rfl rfl rfl rfl rfl ?_
        refine r_goto hC (t := 30) dX4_run_63 (by decide) ?_
        rw [rgF, if_pos h44] at hpost
        exact ih (r + 1) _ (by omega) (by rw [va_up_ne _ _ (by omega)]; exact hF) hpost

def mrR (v : VV) (c : Nat) (x : Int32) : Int32 := if inM x = true then (if c = 0 then -1001 else (rnF (tn x) 1 0 0 (rnI v)).1) else -1003
def mrV (v : VV) (c : Nat) (x : Int32) : VV := if inM x = true then (if c = 0 then v else (rnF (tn x) 1 0 0 (rnI v)).2) else v
theorem inM_iff {x : Int32} : inM x = true ↔ ¬ x < 1 ∧ x ≤ 1000 := by
  unfold inM
  simp

set_option maxRecDepth 100000 in
set_option maxHeartbeats 4000000 in
theorem b_X4_run {E : TE} {G : GG} {v : VV} {c : Nat} {x : Int32} (hC : Cx E G cX4_run RX4 5 wsX4_run 3 62) (hR : RtI E G cX4_run (fun r v' => r = mrR v c x ∧ v' = mrV v c x)) (hF : MF (v 271) c) : Wv E G v 0 [some (.ref (G.1 270)), some (.int x), none, none, none] [] := by
  have h12 := hF.1.2.1
  have i_X4 : ∀ w ∈ wsX40, w ∈ wsX4_run := by decide +kernel
  have l_7 : lnk E RX4 7 (TX4 0) := hC.fl (by decide +kernel)
  refine r_iload_n hC (q := 1) dX4_run_0 rfl rfl ?_
  refine r_iconst hC (x := 1) (q := 2) dX4_run_1 (by decide) rfl ?_
  refine r_sipush hC (x := 1000) (q := 5) dX4_run_2 (by decide) rfl ?_
  refine r_cSI hC (q := 8) (n := 3) (As := [_, _, _]) (fun lch => c_X4_in lch ) gX4_run_X4_in rfl (by decide +kernel) ⟨by decide, by decide⟩ rfl rfl rfl (Nat.le_of_ble_eq_true rfl) dX4_run_5 rfl ?_
  rintro _ _ ⟨rfl, rfl⟩
  refine r_if_neB hC (q := 11) (t := 15) dX4_run_8 (by decide) rfl (fun h8 => ?_) (fun h8 => ?_)
  · rw [inM_R] at h8; obtain ⟨ex, bx⟩ := inM_nat (inM_iff.mp h8).1 (inM_iff.mp h8).2
    refine r_aload_n hC (q := 16) dX4_run_15 rfl rfl ?_
    refine g_X4 hC 0 i_X4 l_7 (by decide) (q := 19) dX4_run_16 rfl rfl ?_
    refine r_iconst hC (x := 0) (q := 20) dX4_run_19 (by decide) rfl ?_
    refine r_iaN hC (q := 21) (i := 0) dX4_run_20 iA_271 rfl (by omega) rfl ?_
    refine r_top (y := nI c) hF.1.1 ?_
    refine r_if_ne hC (q := 24) (t := 28) dX4_run_21 (by decide) rfl (fun h21 => ?_) (fun h21 => ?_)
    · have hc0 : ¬ c = 0 := fun e => h21 (by rw [e]; rfl)
      refine r_iconst hC (x := 0) (q := 29) dX4_run_28 (by decide) rfl ?_
      refine r_istore_n hC (q := 30) (L' := [_, _, _, _, _]) dX4_run_29 (Nat.le_of_ble_eq_true rfl) rfl rfl ?_
      have key := lr_X4_run hC hR (M := tn x) bx (by omega : 0 < c) 8 0 v rfl hF ⟨by rw [mrR, if_pos h8, if_neg hc0]; rfl, by rw [mrV, if_pos h8, if_neg hc0]; rfl⟩
      rw [← ex] at key
      exact key
    · have hc0 : c = 0 := (nI_eq (by omega) (by omega)).mp h21
      refine r_sipush hC (x := (-1001)) (q := 27) dX4_run_24 (by decide) rfl ?_
      exact hR _ _ _ _ dX4_run_27 ⟨by rw [mrR, if_pos h8, if_pos hc0], by rw [mrV, if_pos h8, if_pos hc0]⟩
  · rw [inM_R] at h8
    refine r_sipush hC (x := (-1003)) (q := 14) dX4_run_11 (by decide) rfl ?_
    exact hR _ _ _ _ dX4_run_14 ⟨by rw [mrR, if_neg h8], by rw [mrV, if_neg h8]⟩
theorem c_X4_run (l : Launch) {G : GG} {v : VV} {c : Nat} {x : Int32} (hF : MF (v 271) c) : MtI l G yX4_run wsX4_run 3 62 [.ref (G.1 270), .int x] v (fun r v' => r = mrR v c x ∧ v' = mrV v c x) := mt_int (Or.inl rfl) (by decide) rfl (by simp [Value.category]) (Nat.le_of_ble_eq_true rfl) rfl rfl (fun E hC hR => b_X4_run hC hR hF)

set_option maxRecDepth 100000 in
set_option maxHeartbeats 4000000 in
theorem b_X4_traceLength {E : TE} {G : GG} {v : VV}  (hC : Cx E G cX4_traceLength RX4 1 wsX4_traceLength 0 0) (hR : RtI E G cX4_traceLength (fun r v' => r = v 270 6 ∧ v = v'))  : Wv E G v 0 [some (.ref (G.1 270))] [] := by
  have i_X4 : ∀ w ∈ wsX40, w ∈ wsX4_traceLength := by decide +kernel
  have l_136 : lnk E RX4 136 (TX4 6) := hC.fl (by decide +kernel)
  refine r_aload_n hC (q := 1) dX4_traceLength_0 rfl rfl ?_
  refine g_X4 hC 6 i_X4 l_136 (by decide) (q := 4) dX4_traceLength_1 rfl rfl ?_
  exact hR _ _ _ _ dX4_traceLength_4 ⟨rfl, rfl⟩
theorem c_X4_traceLength (l : Launch) {G : GG} {v : VV}   : MtI l G yX4_traceLength wsX4_traceLength 0 0 [.ref (G.1 270)] v (fun r v' => r = v 270 6 ∧ v = v') := mt_int (Or.inl rfl) (by decide) rfl (by simp [Value.category]) (Nat.le_of_ble_eq_true rfl) rfl rfl (fun E hC hR => b_X4_traceLength hC hR )

theorem inR_k {x : Int32} {c : Nat} (hc : c < 2 ^ 30) : inR x 0 (nI c - 1) = inb x c := by
  refine inR_of ?_ (by omega)
  have := pk_sub_toInt (a := c) (b := 1) hc (by omega)
  exact this
theorem inR_7 {x : Int32} : inR x 0 7 = inb x 8 := inR_of (c := 8) rfl (by omega)
theorem inR_1 {x : Int32} : inR x 0 1 = inb x 2 := inR_of (c := 2) rfl (by omega)

set_option maxRecDepth 100000 in
set_option maxHeartbeats 4000000 in
theorem b_X4_trace {E : TE} {G : GG} {v : VV} {e : Nat} {x : Int32} (hC : Cx E G cX4_trace RX4 2 wsX4_trace 1 22) (hR : RtI E G cX4_trace (fun r v' => r = (if inb x e = true then v 275 (tn x) else 0) ∧ v = v')) (he : v 270 6 = nI e) (he2 : e ≤ 1000) : Wv E G v 0 [some (.ref (G.1 270)), some (.int x)] [] := by
  have i_X4 : ∀ w ∈ wsX40, w ∈ wsX4_trace := by decide +kernel
  have l_23 : lnk E RX4 23 (TX4 5) := hC.fl (by decide +kernel)
  have l_136 : lnk E RX4 136 (TX4 6) := hC.fl (by decide +kernel)
  refine r_iload_n hC (q := 1) dX4_trace_0 rfl rfl ?_
  refine r_iconst hC (x := 0) (q := 2) dX4_trace_1 (by decide) rfl ?_
  refine r_aload_n hC (q := 3) dX4_trace_2 rfl rfl ?_
  refine g_X4 hC 6 i_X4 l_136 (by decide) (q := 6) dX4_trace_3 rfl rfl ?_
  refine r_top (y := nI e) he ?_
  refine r_iconst hC (x := 1) (q := 7) dX4_trace_6 (by decide) rfl ?_
  refine r_isub hC (q := 8) dX4_trace_7 rfl ?_
  refine r_cSI hC (q := 11) (n := 3) (As := [_, _, _]) (fun lch => c_X4_in lch ) gX4_trace_X4_in rfl (by decide +kernel) ⟨by decide, by decide⟩ rfl rfl rfl (Nat.le_of_ble_eq_true rfl) dX4_trace_8 rfl ?_
  rintro _ _ ⟨rfl, rfl⟩
  refine r_if_eqB hC (q := 14) (t := 23) dX4_trace_11 (by decide) rfl (fun h11 => ?_) (fun h11 => ?_)
  · rw [inR_k (by omega)] at h11
    refine r_iconst hC (x := 0) (q := 24) dX4_trace_23 (by decide) rfl ?_
    exact hR _ _ _ _ dX4_trace_24 ⟨by rw [if_neg h11], rfl⟩
  · rw [inR_k (by omega)] at h11; obtain ⟨ex, bx⟩ := inb_tn (by omega) h11
    refine r_aload_n hC (q := 15) dX4_trace_14 rfl rfl ?_
    refine g_X4 hC 5 i_X4 l_23 (by decide) (q := 18) dX4_trace_15 rfl rfl ?_
    refine r_iload_n hC (q := 19) dX4_trace_18 rfl rfl ?_
    refine r_top (y := nI (tn x)) ex ?_
    refine r_iaN hC (q := 20) dX4_trace_19 iA_275 rfl (by omega) rfl ?_
    refine r_goto hC (t := 24) dX4_trace_20 (by decide) ?_
    exact hR _ _ _ _ dX4_trace_24 ⟨by rw [if_pos h11], rfl⟩
theorem c_X4_trace (l : Launch) {G : GG} {v : VV} {e : Nat} {x : Int32} (he : v 270 6 = nI e) (he2 : e ≤ 1000) : MtI l G yX4_trace wsX4_trace 1 22 [.ref (G.1 270), .int x] v (fun r v' => r = (if inb x e = true then v 275 (tn x) else 0) ∧ v = v') := mt_int (Or.inl rfl) (by decide) rfl (by simp [Value.category]) (Nat.le_of_ble_eq_true rfl) rfl rfl (fun E hC hR => b_X4_trace hC hR he he2)

set_option maxRecDepth 100000 in
set_option maxHeartbeats 4000000 in
theorem b_X4_register {E : TE} {G : GG} {v : VV} {x : Int32} (hC : Cx E G cX4_register RX4 2 wsX4_register 1 22) (hR : RtI E G cX4_register (fun r v' => r = (if inb x 8 = true then v 274 (tn x) else 0) ∧ v = v'))  : Wv E G v 0 [some (.ref (G.1 270)), some (.int x)] [] := by
  have i_X4 : ∀ w ∈ wsX40, w ∈ wsX4_register := by decide +kernel
  have l_20 : lnk E RX4 20 (TX4 4) := hC.fl (by decide +kernel)
  refine r_iload_n hC (q := 1) dX4_register_0 rfl rfl ?_
  refine r_iconst hC (x := 0) (q := 2) dX4_register_1 (by decide) rfl ?_
  refine r_bipush hC (x := 7) (q := 4) dX4_register_2 (by decide) rfl ?_
  refine r_cSI hC (q := 7) (n := 3) (As := [_, _, _]) (fun lch => c_X4_in lch ) gX4_register_X4_in rfl (by decide +kernel) ⟨by decide, by decide⟩ rfl rfl rfl (Nat.le_of_ble_eq_true rfl) dX4_register_4 rfl ?_
  rintro _ _ ⟨rfl, rfl⟩
  refine r_if_eqB hC (q := 10) (t := 19) dX4_register_7 (by decide) rfl (fun h7 => ?_) (fun h7 => ?_)
  · rw [inR_7] at h7
    refine r_iconst hC (x := 0) (q := 20) dX4_register_19 (by decide) rfl ?_
    exact hR _ _ _ _ dX4_register_20 ⟨by rw [if_neg h7], rfl⟩
  · rw [inR_7] at h7; obtain ⟨ex, bx⟩ := inb_tn (by omega) h7
    refine r_aload_n hC (q := 11) dX4_register_10 rfl rfl ?_
    refine g_X4 hC 4 i_X4 l_20 (by decide) (q := 14) dX4_register_11 rfl rfl ?_
    refine r_iload_n hC (q := 15) dX4_register_14 rfl rfl ?_
    refine r_top (y := nI (tn x)) ex ?_
    refine r_iaN hC (q := 16) dX4_register_15 iA_274 rfl (by omega) rfl ?_
    refine r_goto hC (t := 20) dX4_register_16 (by decide) ?_
    exact hR _ _ _ _ dX4_register_20 ⟨by rw [if_pos h7], rfl⟩
theorem c_X4_register (l : Launch) {G : GG} {v : VV} {x : Int32}  : MtI l G yX4_register wsX4_register 1 22 [.ref (G.1 270), .int x] v (fun r v' => r = (if inb x 8 = true then v 274 (tn x) else 0) ∧ v = v') := mt_int (Or.inl rfl) (by decide) rfl (by simp [Value.category]) (Nat.le_of_ble_eq_true rfl) rfl rfl (fun E hC hR => b_X4_register hC hR )

def svF (s : Nat) : Nat → Nat → VV → VV
  | 0, _, v => v
  | f + 1, k, v => svF s f (k + 1) (u2 v 272 (670 * s + k) (v 271 k))
def rsF (s : Nat) : Nat → Nat → VV → VV
  | 0, _, v => v
  | f + 1, k, v => rsF s f (k + 1) (u2 v 271 k (v 272 (670 * s + k)))

set_option maxRecDepth 100000 in
set_option maxHeartbeats 4000000 in
theorem lp_X4_save {E : TE} {G : GG} {s : Nat} {post : Int32 → VV → Prop} (hC : Cx E G cX4_save RX4 3 wsX4_save 1 22) (hR : RtI E G cX4_save post) (hs : s < 2) : ∀ (f k : Nat) (v : VV), k + f = 670 → post 1 (u2 (svF s f k v) 273 s 1) → Wv E G v 15 [some (.ref (G.1 270)), some (.int (nI s)), some (.int (nI k))] [] := by
  intro f
  induction f with
  | zero =>
    intro k v hkf hpost
    have i_X4 : ∀ w ∈ wsX40, w ∈ wsX4_save := by decide +kernel
    have l_16 : lnk E RX4 16 (TX4 2) := hC.fl (by decide +kernel)
    refine r_iload_n hC (q := 16) dX4_save_15 rfl rfl ?_
    refine r_sipush hC (x := 670) (q := 19) dX4_save_16 (by decide) rfl ?_
    refine r_icmp_geN hC (q := 22) (t := 46) (b := 670) dX4_save_19 rfl rfl (by omega) (by omega) (by decide) rfl (fun h19 => ?_) (fun h19 => ?_)
    · skip
      refine r_aload_n hC (q := 47) dX4_save_46 rfl rfl ?_
      refine g_X4 hC 2 i_X4 l_16 (by decide) (q := 50) dX4_save_47 rfl rfl ?_
      refine r_iload_n hC (q := 51) dX4_save_50 rfl rfl ?_
      refine r_iconst hC (x := 1) (q := 52) dX4_save_51 (by decide) rfl ?_
      refine r_zsN hC (q := 53) dX4_save_52 zA_273 rfl (by omega) rfl ?_
      refine r_iconst hC (x := 1) (q := 54) dX4_save_53 (by decide) rfl ?_
      exact hR _ _ _ _ dX4_save_54 hpost
    · skip
      omega
  | succ f ih =>
    intro k v hkf hpost
    have i_X4 : ∀ w ∈ wsX40, w ∈ wsX4_save := by decide +kernel
    have l_7 : lnk E RX4 7 (TX4 0) := hC.fl (by decide +kernel)
    have l_13 : lnk E RX4 13 (TX4 1) := hC.fl (by decide +kernel)
    refine r_iload_n hC (q := 16) dX4_save_15 rfl rfl ?_
    refine r_sipush hC (x := 670) (q := 19) dX4_save_16 (by decide) rfl ?_
    refine r_icmp_geN hC (q := 22) (t := 46) (b := 670) dX4_save_19 rfl rfl (by omega) (by omega) (by decide) rfl (fun h19 => ?_) (fun h19 => ?_)
    · skip
      omega
    · skip
      refine r_aload_n hC (q := 23) dX4_save_22 rfl rfl ?_
      refine g_X4 hC 1 i_X4 l_13 (by decide) (q := 26) dX4_save_23 rfl rfl ?_
      refine r_sipush hC (x := 670) (q := 29) dX4_save_26 (by decide) rfl ?_
      refine r_iload_n hC (q := 30) dX4_save_29 rfl rfl ?_
      refine r_imulN hC (q := 31) (a := 670) dX4_save_30 rfl rfl rfl ?_
      refine r_iload_n hC (q := 32) dX4_save_31 rfl rfl ?_
      refine r_iaddN hC (q := 33) dX4_save_32 rfl rfl rfl ?_
      refine r_aload_n hC (q := 34) dX4_save_33 rfl rfl ?_
      refine g_X4 hC 0 i_X4 l_7 (by decide) (q := 37) dX4_save_34 rfl rfl ?_
      refine r_iload_n hC (q := 38) dX4_save_37 rfl rfl ?_
      refine r_iaN hC (q := 39) dX4_save_38 iA_271 rfl (by omega) rfl ?_
      refine r_isN hC (q := 40) dX4_save_39 iA_272 rfl (by omega) rfl ?_
      refine r_iincN hC (q := 43) (L' := [_, _, _]) (c := 1) dX4_save_40 rfl rfl rfl rfl rfl ?_
      refine r_goto hC (t := 15) dX4_save_43 (by decide) ?_
      exact ih (k + 1) _ (by omega) hpost

set_option maxRecDepth 100000 in
set_option maxHeartbeats 4000000 in
theorem b_X4_save {E : TE} {G : GG} {v : VV} {x : Int32} (hC : Cx E G cX4_save RX4 3 wsX4_save 1 22) (hR : RtI E G cX4_save (fun r v' => r = (if inb x 2 = true then 1 else -1003) ∧ v' = (if inb x 2 = true then u2 (svF (tn x) 670 0 v) 273 (tn x) 1 else v)))  : Wv E G v 0 [some (.ref (G.1 270)), some (.int x), none] [] := by
  refine r_iload_n hC (q := 1) dX4_save_0 rfl rfl ?_
  refine r_iconst hC (x := 0) (q := 2) dX4_save_1 (by decide) rfl ?_
  refine r_iconst hC (x := 1) (q := 3) dX4_save_2 (by decide) rfl ?_
  refine r_cSI hC (q := 6) (n := 3) (As := [_, _, _]) (fun lch => c_X4_in lch ) gX4_save_X4_in rfl (by decide +kernel) ⟨by decide, by decide⟩ rfl rfl rfl (Nat.le_of_ble_eq_true rfl) dX4_save_3 rfl ?_
  rintro _ _ ⟨rfl, rfl⟩
  refine r_if_neB hC (q := 9) (t := 13) dX4_save_6 (by decide) rfl (fun h6 => ?_) (fun h6 => ?_)
  · rw [inR_1] at h6; obtain ⟨ex, bx⟩ := inb_tn (by omega) h6
    refine r_iconst hC (x := 0) (q := 14) dX4_save_13 (by decide) rfl ?_
    refine r_istore_n hC (q := 15) (L' := [_, _, _]) dX4_save_14 (Nat.le_of_ble_eq_true rfl) rfl rfl ?_
    have key := lp_X4_save hC hR bx 670 0 v rfl ⟨by rw [if_pos h6], by rw [if_pos h6]⟩
    rw [← ex] at key
    exact key
  · rw [inR_1] at h6
    refine r_sipush hC (x := (-1003)) (q := 12) dX4_save_9 (by decide) rfl ?_
    exact hR _ _ _ _ dX4_save_12 ⟨by rw [if_neg h6], by rw [if_neg h6]⟩
theorem c_X4_save (l : Launch) {G : GG} {v : VV} {x : Int32}  : MtI l G yX4_save wsX4_save 1 22 [.ref (G.1 270), .int x] v (fun r v' => r = (if inb x 2 = true then 1 else -1003) ∧ v' = (if inb x 2 = true then u2 (svF (tn x) 670 0 v) 273 (tn x) 1 else v)) := mt_int (Or.inl rfl) (by decide) rfl (by simp [Value.category]) (Nat.le_of_ble_eq_true rfl) rfl rfl (fun E hC hR => b_X4_save hC hR )

set_option maxRecDepth 100000 in
set_option maxHeartbeats 4000000 in
theorem lp_X4_restore {E : TE} {G : GG} {s : Nat} {post : Int32 → VV → Prop} (hC : Cx E G cX4_restore RX4 3 wsX4_restore 1 22) (hR : RtI E G cX4_restore post) (hs : s < 2) : ∀ (f k : Nat) (v : VV), k + f = 670 → post 1 (rsF s f k v) → Wv E G v 28 [some (.ref (G.1 270)), some (.int (nI s)), some (.int (nI k))] [] := by
  intro f
  induction f with
  | zero =>
    intro k v hkf hpost
    refine r_iload_n hC (q := 29) dX4_restore_28 rfl rfl ?_
    refine r_sipush hC (x := 670) (q := 32) dX4_restore_29 (by decide) rfl ?_
    refine r_icmp_geN hC (q := 35) (t := 59) (b := 670) dX4_restore_32 rfl rfl (by omega) (by omega) (by decide) rfl (fun h32 => ?_) (fun h32 => ?_)
    · skip
      refine r_iconst hC (x := 1) (q := 60) dX4_restore_59 (by decide) rfl ?_
      exact hR _ _ _ _ dX4_restore_60 hpost
    · skip
      omega
  | succ f ih =>
    intro k v hkf hpost
    have i_X4 : ∀ w ∈ wsX40, w ∈ wsX4_restore := by decide +kernel
    have l_7 : lnk E RX4 7 (TX4 0) := hC.fl (by decide +kernel)
    have l_13 : lnk E RX4 13 (TX4 1) := hC.fl (by decide +kernel)
    refine r_iload_n hC (q := 29) dX4_restore_28 rfl rfl ?_
    refine r_sipush hC (x := 670) (q := 32) dX4_restore_29 (by decide) rfl ?_
    refine r_icmp_geN hC (q := 35) (t := 59) (b := 670) dX4_restore_32 rfl rfl (by omega) (by omega) (by decide) rfl (fun h32 => ?_) (fun h32 => ?_)
    · skip
      omega
    · skip
      refine r_aload_n hC (q := 36) dX4_restore_35 rfl rfl ?_
      refine g_X4 hC 0 i_X4 l_7 (by decide) (q := 39) dX4_restore_36 rfl rfl ?_
      refine r_iload_n hC (q := 40) dX4_restore_39 rfl rfl ?_
      refine r_aload_n hC (q := 41) dX4_restore_40 rfl rfl ?_
      refine g_X4 hC 1 i_X4 l_13 (by decide) (q := 44) dX4_restore_41 rfl rfl ?_
      refine r_sipush hC (x := 670) (q := 47) dX4_restore_44 (by decide) rfl ?_
      refine r_iload_n hC (q := 48) dX4_restore_47 rfl rfl ?_
      refine r_imulN hC (q := 49) (a := 670) dX4_restore_48 rfl rfl rfl ?_
      refine r_iload_n hC (q := 50) dX4_restore_49 rfl rfl ?_
      refine r_iaddN hC (q := 51) dX4_restore_50 rfl rfl rfl ?_
      refine r_iaN hC (q := 52) dX4_restore_51 iA_272 rfl (by omega) rfl ?_
      refine r_isN hC (q := 53) dX4_restore_52 iA_271 rfl (by omega) rfl ?_
      refine r_iincN hC (q := 56) (L' := [_, _, _]) (c := 1) dX4_restore_53 rfl rfl rfl rfl rfl ?_
      refine r_goto hC (t := 28) dX4_restore_56 (by decide) ?_
      exact ih (k + 1) _ (by omega) hpost

set_option maxRecDepth 100000 in
set_option maxHeartbeats 4000000 in
theorem b_X4_restore {E : TE} {G : GG} {v : VV} {x : Int32} (hC : Cx E G cX4_restore RX4 3 wsX4_restore 1 22) (hR : RtI E G cX4_restore (fun r v' => r = (if inb x 2 = true then (if v 273 (tn x) = 0 then -1009 else 1) else -1003) ∧ v' = (if inb x 2 = true then (if v 273 (tn x) = 0 then v else rsF (tn x) 670 0 v) else v)))  : Wv E G v 0 [some (.ref (G.1 270)), some (.int x), none] [] := by
  have i_X4 : ∀ w ∈ wsX40, w ∈ wsX4_restore := by decide +kernel
  have l_16 : lnk E RX4 16 (TX4 2) := hC.fl (by decide +kernel)
  refine r_iload_n hC (q := 1) dX4_restore_0 rfl rfl ?_
  refine r_iconst hC (x := 0) (q := 2) dX4_restore_1 (by decide) rfl ?_
  refine r_iconst hC (x := 1) (q := 3) dX4_restore_2 (by decide) rfl ?_
  refine r_cSI hC (q := 6) (n := 3) (As := [_, _, _]) (fun lch => c_X4_in lch ) gX4_restore_X4_in rfl (by decide +kernel) ⟨by decide, by decide⟩ rfl rfl rfl (Nat.le_of_ble_eq_true rfl) dX4_restore_3 rfl ?_
  rintro _ _ ⟨rfl, rfl⟩
  refine r_if_neB hC (q := 9) (t := 13) dX4_restore_6 (by decide) rfl (fun h6 => ?_) (fun h6 => ?_)
  · rw [inR_1] at h6; obtain ⟨ex, bx⟩ := inb_tn (by omega) h6
    refine r_aload_n hC (q := 14) dX4_restore_13 rfl rfl ?_
    refine g_X4 hC 2 i_X4 l_16 (by decide) (q := 17) dX4_restore_14 rfl rfl ?_
    refine r_iload_n hC (q := 18) dX4_restore_17 rfl rfl ?_
    refine r_top (y := nI (tn x)) ex ?_
    refine r_zaN hC (q := 19) dX4_restore_18 zA_273 rfl (by omega) rfl ?_
    refine r_if_ne hC (q := 22) (t := 26) dX4_restore_19 (by decide) rfl (fun h19 => ?_) (fun h19 => ?_)
    · skip
      refine r_iconst hC (x := 0) (q := 27) dX4_restore_26 (by decide) rfl ?_
      refine r_istore_n hC (q := 28) (L' := [_, _, _]) dX4_restore_27 (Nat.le_of_ble_eq_true rfl) rfl rfl ?_
      have key := lp_X4_restore hC hR bx 670 0 v rfl ⟨by rw [if_pos h6, if_neg h19], by rw [if_pos h6, if_neg h19]⟩
      rw [← ex] at key
      exact key
    · skip
      refine r_sipush hC (x := (-1009)) (q := 25) dX4_restore_22 (by decide) rfl ?_
      exact hR _ _ _ _ dX4_restore_25 ⟨by rw [if_pos h6, if_pos h19], by rw [if_pos h6, if_pos h19]⟩
  · rw [inR_1] at h6
    refine r_sipush hC (x := (-1003)) (q := 12) dX4_restore_9 (by decide) rfl ?_
    exact hR _ _ _ _ dX4_restore_12 ⟨by rw [if_neg h6], by rw [if_neg h6]⟩
theorem c_X4_restore (l : Launch) {G : GG} {v : VV} {x : Int32}  : MtI l G yX4_restore wsX4_restore 1 22 [.ref (G.1 270), .int x] v (fun r v' => r = (if inb x 2 = true then (if v 273 (tn x) = 0 then -1009 else 1) else -1003) ∧ v' = (if inb x 2 = true then (if v 273 (tn x) = 0 then v else rsF (tn x) 670 0 v) else v)) := mt_int (Or.inl rfl) (by decide) rfl (by simp [Value.category]) (Nat.le_of_ble_eq_true rfl) rfl rfl (fun E hC hR => b_X4_restore hC hR )
