/-! the law's body -/
def Sx (E : TE) (G : GG) (b L : Nat) (xs : Nat → Int32) : Prop :=
  match E with
  | (_, _, _, _, s, _, _, _, _, _, _, _, _) => va_X b L xs s s.heap ∧ b < s.heap.size ∧ ¬ G.2.2.2 b
theorem r_sldN {E : TE} {G : GG} {v : VV} {cc : ByteArray} {own : String} {nL : Nat} {Ts : List Cond} {fr lo pc q : Nat} {L : List (Option Value)} {st : List Value} (hC : Cx E G cc own nL Ts fr lo) {b N : Nat} {xs : Nat → Int32} (hX : Sx E G b N xs) {a : Nat} {x : Int32} (hx : x = nI a) (ha : a < N) (hN : N < 2 ^ 31) (hd : decode cc pc = .ok (.iaload, 1)) (hq : pc + 1 = q) (kk : Wv E G v q L (.int (xs a) :: st)) : Wv E G v pc L (.int x :: .ref b :: st) := by
  obtain ⟨p, l, e, R, s, m, args, below, meth, c, cells, slots, Q⟩ := E
  subst hq hx
  obtain ⟨h1, h2, -⟩ := hC
  obtain ⟨x1, x2, x3⟩ := hX
  intro H locs ls hP hS hl
  refine va_sld h1 h2 x1 x2 x3 hS (i := nI a) (nI_vp ha hN) hd ?_
  rw [nI_clamp (by omega)]
  exact kk H locs ls hP hS hl
theorem r_slen {E : TE} {G : GG} {v : VV} {cc : ByteArray} {own : String} {nL : Nat} {Ts : List Cond} {fr lo pc q : Nat} {L : List (Option Value)} {st : List Value} (hC : Cx E G cc own nL Ts fr lo) {b N : Nat} {xs : Nat → Int32} (hX : Sx E G b N xs) (hd : decode cc pc = .ok (.arraylength, 1)) (hq : pc + 1 = q) (kk : Wv E G v q L (.int (nI N) :: st)) : Wv E G v pc L (.ref b :: st) := by
  obtain ⟨p, l, e, R, s, m, args, below, meth, c, cells, slots, Q⟩ := E
  subst hq
  obtain ⟨h1, h2, -⟩ := hC
  obtain ⟨x1, x2, x3⟩ := hX
  intro H locs ls hP hS hl
  exact va_slen h1 h2 x1 x2 x3 hS hd (kk H locs ls hP hS hl)
def lwL (G : GG) (b i : Nat) : List (Option Value) := [some (.ref b), some (.ref (G.1 0)), some (.ref (G.1 270)), some (.int (nI i))]
theorem len7 {N i : Nat} (hN : N ≤ 3584) (hi : i < 2 ^ 30) (h : ¬ nI N - 7 < nI i) : i + 7 ≤ N := by
  by_cases h7 : 7 ≤ N
  · have e : nI N - 7 = nI (N - 7) := by
      have := Int32.ofNat_sub (a := N) (b := 7) h7
      exact this.symm
    rw [e] at h
    have := mt (nI_ltI (by omega) (by omega)).mpr h
    omega
  · exfalso
    apply h
    have h0 : (0 : Int) ≤ (nI i).toInt := by
      have := Int32.toInt_ofNat_of_lt (n := i) (by omega)
      show 0 ≤ (Int32.ofNat i).toInt
      omega
    rw [Int32.lt_iff_toInt_lt]
    have : (nI N - 7).toInt < 0 := by
      rcases (show N = 0 ∨ N = 1 ∨ N = 2 ∨ N = 3 ∨ N = 4 ∨ N = 5 ∨ N = 6 by omega) with rfl | rfl | rfl | rfl | rfl | rfl | rfl <;> decide
    omega

set_option maxRecDepth 100000 in
set_option maxHeartbeats 4000000 in
theorem law_0 {E : TE} {G : GG} {v : VV} {b N i : Nat} {xs : Nat → Int32} (hC : Cx E G cL_law RL 4 wsL_law 10 370) (hX : Sx E G b N xs) (hN : N ≤ 3584) (hi : i + 7 ≤ N) (h : Rel v) (kk : ∀ v', Rel v' → Wv E G v' 1074 [some (.ref b), some (.ref (G.1 0)), some (.ref (G.1 270)), some (.int (nI i))] []) : Wv E G v 176 [some (.ref b), some (.ref (G.1 0)), some (.ref (G.1 270)), some (.int (nI i))] [] := by
  obtain ⟨post1, m1, n1⟩ := k_addBlock (G := G) (v := v)  h
  refine r_aload_n hC (q := 177) dL_law_176 rfl rfl ?_
  refine r_cVI hC (q := 180) (n := 0) (As := []) m1 gL_law_X3_addBlock rfl (by decide +kernel) ⟨by decide, by decide⟩ ob_0 rfl rfl rfl rfl (Nat.le_of_ble_eq_true rfl) dL_law_177 rfl ?_
  intro r1 v1 h1
  obtain ⟨post2, m2, n2⟩ := n1 r1 v1 h1
  refine r_aload_n hC (q := 181) dL_law_180 rfl rfl ?_
  refine r_cVI hC (q := 184) (n := 0) (As := []) m2 gL_law_X4_addBlock rfl (by decide +kernel) ⟨by decide, by decide⟩ ob_270 rfl rfl rfl rfl (Nat.le_of_ble_eq_true rfl) dL_law_181 rfl ?_
  intro r2 v2 h2
  obtain ⟨he, hr⟩ := n2 r2 v2 h2
  subst he
  exact r_icmp_eq hC (q := 187) (t := 1074) dL_law_184 (by decide) rfl (fun _ => kk _ hr) (fun hne => absurd rfl hne)

set_option maxRecDepth 100000 in
set_option maxHeartbeats 4000000 in
theorem law_1 {E : TE} {G : GG} {v : VV} {b N i : Nat} {xs : Nat → Int32} (hC : Cx E G cL_law RL 4 wsL_law 10 370) (hX : Sx E G b N xs) (hN : N ≤ 3584) (hi : i + 7 ≤ N) (h : Rel v) (kk : ∀ v', Rel v' → Wv E G v' 1074 [some (.ref b), some (.ref (G.1 0)), some (.ref (G.1 270)), some (.int (nI i))] []) : Wv E G v 189 [some (.ref b), some (.ref (G.1 0)), some (.ref (G.1 270)), some (.int (nI i))] [] := by
  obtain ⟨post1, m1, n1⟩ := k_addInstruction (G := G) (v := v) (x := xs (i + 1)) (o := xs (i + 2)) (d := xs (i + 3)) (a := xs (i + 4)) (b := xs (i + 5)) (w := xs (i + 6)) h
  refine r_aload_n hC (q := 190) dL_law_189 rfl rfl ?_
  refine r_aload_n hC (q := 191) dL_law_190 rfl rfl ?_
  refine r_iload_n hC (q := 192) dL_law_191 rfl rfl ?_
  refine r_iconst hC (x := 1) (q := 193) dL_law_192 (by decide) rfl ?_
  refine r_iaddN hC (q := 194) (a := i) (b := 1) dL_law_193 rfl rfl rfl ?_
  refine r_sldN hC hX (q := 195) rfl (by omega) (by omega) dL_law_194 rfl ?_
  refine r_aload_n hC (q := 196) dL_law_195 rfl rfl ?_
  refine r_iload_n hC (q := 197) dL_law_196 rfl rfl ?_
  refine r_iconst hC (x := 2) (q := 198) dL_law_197 (by decide) rfl ?_
  refine r_iaddN hC (q := 199) (a := i) (b := 2) dL_law_198 rfl rfl rfl ?_
  refine r_sldN hC hX (q := 200) rfl (by omega) (by omega) dL_law_199 rfl ?_
  refine r_aload_n hC (q := 201) dL_law_200 rfl rfl ?_
  refine r_iload_n hC (q := 202) dL_law_201 rfl rfl ?_
  refine r_iconst hC (x := 3) (q := 203) dL_law_202 (by decide) rfl ?_
  refine r_iaddN hC (q := 204) (a := i) (b := 3) dL_law_203 rfl rfl rfl ?_
  refine r_sldN hC hX (q := 205) rfl (by omega) (by omega) dL_law_204 rfl ?_
  refine r_aload_n hC (q := 206) dL_law_205 rfl rfl ?_
  refine r_iload_n hC (q := 207) dL_law_206 rfl rfl ?_
  refine r_iconst hC (x := 4) (q := 208) dL_law_207 (by decide) rfl ?_
  refine r_iaddN hC (q := 209) (a := i) (b := 4) dL_law_208 rfl rfl rfl ?_
  refine r_sldN hC hX (q := 210) rfl (by omega) (by omega) dL_law_209 rfl ?_
  refine r_aload_n hC (q := 211) dL_law_210 rfl rfl ?_
  refine r_iload_n hC (q := 212) dL_law_211 rfl rfl ?_
  refine r_iconst hC (x := 5) (q := 213) dL_law_212 (by decide) rfl ?_
  refine r_iaddN hC (q := 214) (a := i) (b := 5) dL_law_213 rfl rfl rfl ?_
  refine r_sldN hC hX (q := 215) rfl (by omega) (by omega) dL_law_214 rfl ?_
  refine r_aload_n hC (q := 216) dL_law_215 rfl rfl ?_
  refine r_iload_n hC (q := 217) dL_law_216 rfl rfl ?_
  refine r_bipush hC (x := 6) (q := 219) dL_law_217 (by decide) rfl ?_
  refine r_iaddN hC (q := 220) (a := i) (b := 6) dL_law_219 rfl rfl rfl ?_
  refine r_sldN hC hX (q := 221) rfl (by omega) (by omega) dL_law_220 rfl ?_
  refine r_cVI hC (q := 224) (n := 6) (As := [_, _, _, _, _, _]) m1 gL_law_X3_addInstruction rfl (by decide +kernel) ⟨by decide, by decide⟩ ob_0 rfl rfl rfl rfl (Nat.le_of_ble_eq_true rfl) dL_law_221 rfl ?_
  intro r1 v1 h1
  obtain ⟨post2, m2, n2⟩ := n1 r1 v1 h1
  refine r_aload_n hC (q := 225) dL_law_224 rfl rfl ?_
  refine r_aload_n hC (q := 226) dL_law_225 rfl rfl ?_
  refine r_iload_n hC (q := 227) dL_law_226 rfl rfl ?_
  refine r_iconst hC (x := 1) (q := 228) dL_law_227 (by decide) rfl ?_
  refine r_iaddN hC (q := 229) (a := i) (b := 1) dL_law_228 rfl rfl rfl ?_
  refine r_sldN hC hX (q := 230) rfl (by omega) (by omega) dL_law_229 rfl ?_
  refine r_aload_n hC (q := 231) dL_law_230 rfl rfl ?_
  refine r_iload_n hC (q := 232) dL_law_231 rfl rfl ?_
  refine r_iconst hC (x := 2) (q := 233) dL_law_232 (by decide) rfl ?_
  refine r_iaddN hC (q := 234) (a := i) (b := 2) dL_law_233 rfl rfl rfl ?_
  refine r_sldN hC hX (q := 235) rfl (by omega) (by omega) dL_law_234 rfl ?_
  refine r_aload_n hC (q := 236) dL_law_235 rfl rfl ?_
  refine r_iload_n hC (q := 237) dL_law_236 rfl rfl ?_
  refine r_iconst hC (x := 3) (q := 238) dL_law_237 (by decide) rfl ?_
  refine r_iaddN hC (q := 239) (a := i) (b := 3) dL_law_238 rfl rfl rfl ?_
  refine r_sldN hC hX (q := 240) rfl (by omega) (by omega) dL_law_239 rfl ?_
  refine r_aload_n hC (q := 241) dL_law_240 rfl rfl ?_
  refine r_iload_n hC (q := 242) dL_law_241 rfl rfl ?_
  refine r_iconst hC (x := 4) (q := 243) dL_law_242 (by decide) rfl ?_
  refine r_iaddN hC (q := 244) (a := i) (b := 4) dL_law_243 rfl rfl rfl ?_
  refine r_sldN hC hX (q := 245) rfl (by omega) (by omega) dL_law_244 rfl ?_
  refine r_aload_n hC (q := 246) dL_law_245 rfl rfl ?_
  refine r_iload_n hC (q := 247) dL_law_246 rfl rfl ?_
  refine r_iconst hC (x := 5) (q := 248) dL_law_247 (by decide) rfl ?_
  refine r_iaddN hC (q := 249) (a := i) (b := 5) dL_law_248 rfl rfl rfl ?_
  refine r_sldN hC hX (q := 250) rfl (by omega) (by omega) dL_law_249 rfl ?_
  refine r_aload_n hC (q := 251) dL_law_250 rfl rfl ?_
  refine r_iload_n hC (q := 252) dL_law_251 rfl rfl ?_
  refine r_bipush hC (x := 6) (q := 254) dL_law_252 (by decide) rfl ?_
  refine r_iaddN hC (q := 255) (a := i) (b := 6) dL_law_254 rfl rfl rfl ?_
  refine r_sldN hC hX (q := 256) rfl (by omega) (by omega) dL_law_255 rfl ?_
  refine r_cVI hC (q := 259) (n := 6) (As := [_, _, _, _, _, _]) m2 gL_law_X4_addInstruction rfl (by decide +kernel) ⟨by decide, by decide⟩ ob_270 rfl rfl rfl rfl (Nat.le_of_ble_eq_true rfl) dL_law_256 rfl ?_
  intro r2 v2 h2
  obtain ⟨he, hr⟩ := n2 r2 v2 h2
  subst he
  exact r_icmp_eq hC (q := 262) (t := 1074) dL_law_259 (by decide) rfl (fun _ => kk _ hr) (fun hne => absurd rfl hne)

set_option maxRecDepth 100000 in
set_option maxHeartbeats 4000000 in
theorem law_2 {E : TE} {G : GG} {v : VV} {b N i : Nat} {xs : Nat → Int32} (hC : Cx E G cL_law RL 4 wsL_law 10 370) (hX : Sx E G b N xs) (hN : N ≤ 3584) (hi : i + 7 ≤ N) (h : Rel v) (kk : ∀ v', Rel v' → Wv E G v' 1074 [some (.ref b), some (.ref (G.1 0)), some (.ref (G.1 270)), some (.int (nI i))] []) : Wv E G v 264 [some (.ref b), some (.ref (G.1 0)), some (.ref (G.1 270)), some (.int (nI i))] [] := by
  obtain ⟨post1, m1, n1⟩ := k_setJump (G := G) (v := v) (x := xs (i + 1)) (y := xs (i + 2)) h
  refine r_aload_n hC (q := 265) dL_law_264 rfl rfl ?_
  refine r_aload_n hC (q := 266) dL_law_265 rfl rfl ?_
  refine r_iload_n hC (q := 267) dL_law_266 rfl rfl ?_
  refine r_iconst hC (x := 1) (q := 268) dL_law_267 (by decide) rfl ?_
  refine r_iaddN hC (q := 269) (a := i) (b := 1) dL_law_268 rfl rfl rfl ?_
  refine r_sldN hC hX (q := 270) rfl (by omega) (by omega) dL_law_269 rfl ?_
  refine r_aload_n hC (q := 271) dL_law_270 rfl rfl ?_
  refine r_iload_n hC (q := 272) dL_law_271 rfl rfl ?_
  refine r_iconst hC (x := 2) (q := 273) dL_law_272 (by decide) rfl ?_
  refine r_iaddN hC (q := 274) (a := i) (b := 2) dL_law_273 rfl rfl rfl ?_
  refine r_sldN hC hX (q := 275) rfl (by omega) (by omega) dL_law_274 rfl ?_
  refine r_cVI hC (q := 278) (n := 2) (As := [_, _]) m1 gL_law_X3_setJump rfl (by decide +kernel) ⟨by decide, by decide⟩ ob_0 rfl rfl rfl rfl (Nat.le_of_ble_eq_true rfl) dL_law_275 rfl ?_
  intro r1 v1 h1
  obtain ⟨post2, m2, n2⟩ := n1 r1 v1 h1
  refine r_aload_n hC (q := 279) dL_law_278 rfl rfl ?_
  refine r_aload_n hC (q := 280) dL_law_279 rfl rfl ?_
  refine r_iload_n hC (q := 281) dL_law_280 rfl rfl ?_
  refine r_iconst hC (x := 1) (q := 282) dL_law_281 (by decide) rfl ?_
  refine r_iaddN hC (q := 283) (a := i) (b := 1) dL_law_282 rfl rfl rfl ?_
  refine r_sldN hC hX (q := 284) rfl (by omega) (by omega) dL_law_283 rfl ?_
  refine r_aload_n hC (q := 285) dL_law_284 rfl rfl ?_
  refine r_iload_n hC (q := 286) dL_law_285 rfl rfl ?_
  refine r_iconst hC (x := 2) (q := 287) dL_law_286 (by decide) rfl ?_
  refine r_iaddN hC (q := 288) (a := i) (b := 2) dL_law_287 rfl rfl rfl ?_
  refine r_sldN hC hX (q := 289) rfl (by omega) (by omega) dL_law_288 rfl ?_
  refine r_cVI hC (q := 292) (n := 2) (As := [_, _]) m2 gL_law_X4_setJump rfl (by decide +kernel) ⟨by decide, by decide⟩ ob_270 rfl rfl rfl rfl (Nat.le_of_ble_eq_true rfl) dL_law_289 rfl ?_
  intro r2 v2 h2
  obtain ⟨he, hr⟩ := n2 r2 v2 h2
  subst he
  exact r_icmp_eq hC (q := 295) (t := 1074) dL_law_292 (by decide) rfl (fun _ => kk _ hr) (fun hne => absurd rfl hne)

set_option maxRecDepth 100000 in
set_option maxHeartbeats 4000000 in
theorem law_3 {E : TE} {G : GG} {v : VV} {b N i : Nat} {xs : Nat → Int32} (hC : Cx E G cL_law RL 4 wsL_law 10 370) (hX : Sx E G b N xs) (hN : N ≤ 3584) (hi : i + 7 ≤ N) (h : Rel v) (kk : ∀ v', Rel v' → Wv E G v' 1074 [some (.ref b), some (.ref (G.1 0)), some (.ref (G.1 270)), some (.int (nI i))] []) : Wv E G v 297 [some (.ref b), some (.ref (G.1 0)), some (.ref (G.1 270)), some (.int (nI i))] [] := by
  obtain ⟨post1, m1, n1⟩ := k_setBranch (G := G) (v := v) (x := xs (i + 1)) (z := xs (i + 2)) (y := xs (i + 3)) (w := xs (i + 4)) h
  refine r_aload_n hC (q := 298) dL_law_297 rfl rfl ?_
  refine r_aload_n hC (q := 299) dL_law_298 rfl rfl ?_
  refine r_iload_n hC (q := 300) dL_law_299 rfl rfl ?_
  refine r_iconst hC (x := 1) (q := 301) dL_law_300 (by decide) rfl ?_
  refine r_iaddN hC (q := 302) (a := i) (b := 1) dL_law_301 rfl rfl rfl ?_
  refine r_sldN hC hX (q := 303) rfl (by omega) (by omega) dL_law_302 rfl ?_
  refine r_aload_n hC (q := 304) dL_law_303 rfl rfl ?_
  refine r_iload_n hC (q := 305) dL_law_304 rfl rfl ?_
  refine r_iconst hC (x := 2) (q := 306) dL_law_305 (by decide) rfl ?_
  refine r_iaddN hC (q := 307) (a := i) (b := 2) dL_law_306 rfl rfl rfl ?_
  refine r_sldN hC hX (q := 308) rfl (by omega) (by omega) dL_law_307 rfl ?_
  refine r_aload_n hC (q := 309) dL_law_308 rfl rfl ?_
  refine r_iload_n hC (q := 310) dL_law_309 rfl rfl ?_
  refine r_iconst hC (x := 3) (q := 311) dL_law_310 (by decide) rfl ?_
  refine r_iaddN hC (q := 312) (a := i) (b := 3) dL_law_311 rfl rfl rfl ?_
  refine r_sldN hC hX (q := 313) rfl (by omega) (by omega) dL_law_312 rfl ?_
  refine r_aload_n hC (q := 314) dL_law_313 rfl rfl ?_
  refine r_iload_n hC (q := 315) dL_law_314 rfl rfl ?_
  refine r_iconst hC (x := 4) (q := 316) dL_law_315 (by decide) rfl ?_
  refine r_iaddN hC (q := 317) (a := i) (b := 4) dL_law_316 rfl rfl rfl ?_
  refine r_sldN hC hX (q := 318) rfl (by omega) (by omega) dL_law_317 rfl ?_
  refine r_cVI hC (q := 321) (n := 4) (As := [_, _, _, _]) m1 gL_law_X3_setBranch rfl (by decide +kernel) ⟨by decide, by decide⟩ ob_0 rfl rfl rfl rfl (Nat.le_of_ble_eq_true rfl) dL_law_318 rfl ?_
  intro r1 v1 h1
  obtain ⟨post2, m2, n2⟩ := n1 r1 v1 h1
  refine r_aload_n hC (q := 322) dL_law_321 rfl rfl ?_
  refine r_aload_n hC (q := 323) dL_law_322 rfl rfl ?_
  refine r_iload_n hC (q := 324) dL_law_323 rfl rfl ?_
  refine r_iconst hC (x := 1) (q := 325) dL_law_324 (by decide) rfl ?_
  refine r_iaddN hC (q := 326) (a := i) (b := 1) dL_law_325 rfl rfl rfl ?_
  refine r_sldN hC hX (q := 327) rfl (by omega) (by omega) dL_law_326 rfl ?_
  refine r_aload_n hC (q := 328) dL_law_327 rfl rfl ?_
  refine r_iload_n hC (q := 329) dL_law_328 rfl rfl ?_
  refine r_iconst hC (x := 2) (q := 330) dL_law_329 (by decide) rfl ?_
  refine r_iaddN hC (q := 331) (a := i) (b := 2) dL_law_330 rfl rfl rfl ?_
  refine r_sldN hC hX (q := 332) rfl (by omega) (by omega) dL_law_331 rfl ?_
  refine r_aload_n hC (q := 333) dL_law_332 rfl rfl ?_
  refine r_iload_n hC (q := 334) dL_law_333 rfl rfl ?_
  refine r_iconst hC (x := 3) (q := 335) dL_law_334 (by decide) rfl ?_
  refine r_iaddN hC (q := 336) (a := i) (b := 3) dL_law_335 rfl rfl rfl ?_
  refine r_sldN hC hX (q := 337) rfl (by omega) (by omega) dL_law_336 rfl ?_
  refine r_aload_n hC (q := 338) dL_law_337 rfl rfl ?_
  refine r_iload_n hC (q := 339) dL_law_338 rfl rfl ?_
  refine r_iconst hC (x := 4) (q := 340) dL_law_339 (by decide) rfl ?_
  refine r_iaddN hC (q := 341) (a := i) (b := 4) dL_law_340 rfl rfl rfl ?_
  refine r_sldN hC hX (q := 342) rfl (by omega) (by omega) dL_law_341 rfl ?_
  refine r_cVI hC (q := 345) (n := 4) (As := [_, _, _, _]) m2 gL_law_X4_setBranch rfl (by decide +kernel) ⟨by decide, by decide⟩ ob_270 rfl rfl rfl rfl (Nat.le_of_ble_eq_true rfl) dL_law_342 rfl ?_
  intro r2 v2 h2
  obtain ⟨he, hr⟩ := n2 r2 v2 h2
  subst he
  exact r_icmp_eq hC (q := 348) (t := 1074) dL_law_345 (by decide) rfl (fun _ => kk _ hr) (fun hne => absurd rfl hne)

set_option maxRecDepth 100000 in
set_option maxHeartbeats 4000000 in
theorem law_4 {E : TE} {G : GG} {v : VV} {b N i : Nat} {xs : Nat → Int32} (hC : Cx E G cL_law RL 4 wsL_law 10 370) (hX : Sx E G b N xs) (hN : N ≤ 3584) (hi : i + 7 ≤ N) (h : Rel v) (kk : ∀ v', Rel v' → Wv E G v' 1074 [some (.ref b), some (.ref (G.1 0)), some (.ref (G.1 270)), some (.int (nI i))] []) : Wv E G v 350 [some (.ref b), some (.ref (G.1 0)), some (.ref (G.1 270)), some (.int (nI i))] [] := by
  obtain ⟨post1, m1, n1⟩ := k_setReturn (G := G) (v := v) (x := xs (i + 1)) (z := xs (i + 2)) h
  refine r_aload_n hC (q := 351) dL_law_350 rfl rfl ?_
  refine r_aload_n hC (q := 352) dL_law_351 rfl rfl ?_
  refine r_iload_n hC (q := 353) dL_law_352 rfl rfl ?_
  refine r_iconst hC (x := 1) (q := 354) dL_law_353 (by decide) rfl ?_
  refine r_iaddN hC (q := 355) (a := i) (b := 1) dL_law_354 rfl rfl rfl ?_
  refine r_sldN hC hX (q := 356) rfl (by omega) (by omega) dL_law_355 rfl ?_
  refine r_aload_n hC (q := 357) dL_law_356 rfl rfl ?_
  refine r_iload_n hC (q := 358) dL_law_357 rfl rfl ?_
  refine r_iconst hC (x := 2) (q := 359) dL_law_358 (by decide) rfl ?_
  refine r_iaddN hC (q := 360) (a := i) (b := 2) dL_law_359 rfl rfl rfl ?_
  refine r_sldN hC hX (q := 361) rfl (by omega) (by omega) dL_law_360 rfl ?_
  refine r_cVI hC (q := 364) (n := 2) (As := [_, _]) m1 gL_law_X3_setReturn rfl (by decide +kernel) ⟨by decide, by decide⟩ ob_0 rfl rfl rfl rfl (Nat.le_of_ble_eq_true rfl) dL_law_361 rfl ?_
  intro r1 v1 h1
  obtain ⟨post2, m2, n2⟩ := n1 r1 v1 h1
  refine r_aload_n hC (q := 365) dL_law_364 rfl rfl ?_
  refine r_aload_n hC (q := 366) dL_law_365 rfl rfl ?_
  refine r_iload_n hC (q := 367) dL_law_366 rfl rfl ?_
  refine r_iconst hC (x := 1) (q := 368) dL_law_367 (by decide) rfl ?_
  refine r_iaddN hC (q := 369) (a := i) (b := 1) dL_law_368 rfl rfl rfl ?_
  refine r_sldN hC hX (q := 370) rfl (by omega) (by omega) dL_law_369 rfl ?_
  refine r_aload_n hC (q := 371) dL_law_370 rfl rfl ?_
  refine r_iload_n hC (q := 372) dL_law_371 rfl rfl ?_
  refine r_iconst hC (x := 2) (q := 373) dL_law_372 (by decide) rfl ?_
  refine r_iaddN hC (q := 374) (a := i) (b := 2) dL_law_373 rfl rfl rfl ?_
  refine r_sldN hC hX (q := 375) rfl (by omega) (by omega) dL_law_374 rfl ?_
  refine r_cVI hC (q := 378) (n := 2) (As := [_, _]) m2 gL_law_X4_setReturn rfl (by decide +kernel) ⟨by decide, by decide⟩ ob_270 rfl rfl rfl rfl (Nat.le_of_ble_eq_true rfl) dL_law_375 rfl ?_
  intro r2 v2 h2
  obtain ⟨he, hr⟩ := n2 r2 v2 h2
  subst he
  exact r_icmp_eq hC (q := 381) (t := 1074) dL_law_378 (by decide) rfl (fun _ => kk _ hr) (fun hne => absurd rfl hne)

set_option maxRecDepth 100000 in
set_option maxHeartbeats 4000000 in
theorem law_5 {E : TE} {G : GG} {v : VV} {b N i : Nat} {xs : Nat → Int32} (hC : Cx E G cL_law RL 4 wsL_law 10 370) (hX : Sx E G b N xs) (hN : N ≤ 3584) (hi : i + 7 ≤ N) (h : Rel v) (kk : ∀ v', Rel v' → Wv E G v' 1074 [some (.ref b), some (.ref (G.1 0)), some (.ref (G.1 270)), some (.int (nI i))] []) : Wv E G v 383 [some (.ref b), some (.ref (G.1 0)), some (.ref (G.1 270)), some (.int (nI i))] [] := by
  obtain ⟨post1, m1, n1⟩ := k_blockCount (G := G) (v := v)  h
  refine r_aload_n hC (q := 384) dL_law_383 rfl rfl ?_
  refine r_cVI hC (q := 387) (n := 0) (As := []) m1 gL_law_X3_blockCount rfl (by decide +kernel) ⟨by decide, by decide⟩ ob_0 rfl rfl rfl rfl (Nat.le_of_ble_eq_true rfl) dL_law_384 rfl ?_
  intro r1 v1 h1
  obtain ⟨post2, m2, n2⟩ := n1 r1 v1 h1
  refine r_aload_n hC (q := 388) dL_law_387 rfl rfl ?_
  refine r_cVI hC (q := 391) (n := 0) (As := []) m2 gL_law_X4_blockCount rfl (by decide +kernel) ⟨by decide, by decide⟩ ob_270 rfl rfl rfl rfl (Nat.le_of_ble_eq_true rfl) dL_law_388 rfl ?_
  intro r2 v2 h2
  obtain ⟨he, hr⟩ := n2 r2 v2 h2
  subst he
  exact r_icmp_eq hC (q := 394) (t := 1074) dL_law_391 (by decide) rfl (fun _ => kk _ hr) (fun hne => absurd rfl hne)

set_option maxRecDepth 100000 in
set_option maxHeartbeats 4000000 in
theorem law_6 {E : TE} {G : GG} {v : VV} {b N i : Nat} {xs : Nat → Int32} (hC : Cx E G cL_law RL 4 wsL_law 10 370) (hX : Sx E G b N xs) (hN : N ≤ 3584) (hi : i + 7 ≤ N) (h : Rel v) (kk : ∀ v', Rel v' → Wv E G v' 1074 [some (.ref b), some (.ref (G.1 0)), some (.ref (G.1 270)), some (.int (nI i))] []) : Wv E G v 396 [some (.ref b), some (.ref (G.1 0)), some (.ref (G.1 270)), some (.int (nI i))] [] := by
  obtain ⟨post1, m1, n1⟩ := k_instructionCount (G := G) (v := v) (x := xs (i + 1)) h
  refine r_aload_n hC (q := 397) dL_law_396 rfl rfl ?_
  refine r_aload_n hC (q := 398) dL_law_397 rfl rfl ?_
  refine r_iload_n hC (q := 399) dL_law_398 rfl rfl ?_
  refine r_iconst hC (x := 1) (q := 400) dL_law_399 (by decide) rfl ?_
  refine r_iaddN hC (q := 401) (a := i) (b := 1) dL_law_400 rfl rfl rfl ?_
  refine r_sldN hC hX (q := 402) rfl (by omega) (by omega) dL_law_401 rfl ?_
  refine r_cVI hC (q := 405) (n := 1) (As := [_]) m1 gL_law_X3_instructionCount rfl (by decide +kernel) ⟨by decide, by decide⟩ ob_0 rfl rfl rfl rfl (Nat.le_of_ble_eq_true rfl) dL_law_402 rfl ?_
  intro r1 v1 h1
  obtain ⟨post2, m2, n2⟩ := n1 r1 v1 h1
  refine r_aload_n hC (q := 406) dL_law_405 rfl rfl ?_
  refine r_aload_n hC (q := 407) dL_law_406 rfl rfl ?_
  refine r_iload_n hC (q := 408) dL_law_407 rfl rfl ?_
  refine r_iconst hC (x := 1) (q := 409) dL_law_408 (by decide) rfl ?_
  refine r_iaddN hC (q := 410) (a := i) (b := 1) dL_law_409 rfl rfl rfl ?_
  refine r_sldN hC hX (q := 411) rfl (by omega) (by omega) dL_law_410 rfl ?_
  refine r_cVI hC (q := 414) (n := 1) (As := [_]) m2 gL_law_X4_instructionCount rfl (by decide +kernel) ⟨by decide, by decide⟩ ob_270 rfl rfl rfl rfl (Nat.le_of_ble_eq_true rfl) dL_law_411 rfl ?_
  intro r2 v2 h2
  obtain ⟨he, hr⟩ := n2 r2 v2 h2
  subst he
  exact r_icmp_eq hC (q := 417) (t := 1074) dL_law_414 (by decide) rfl (fun _ => kk _ hr) (fun hne => absurd rfl hne)

set_option maxRecDepth 100000 in
set_option maxHeartbeats 4000000 in
theorem law_7 {E : TE} {G : GG} {v : VV} {b N i : Nat} {xs : Nat → Int32} (hC : Cx E G cL_law RL 4 wsL_law 10 370) (hX : Sx E G b N xs) (hN : N ≤ 3584) (hi : i + 7 ≤ N) (h : Rel v) (kk : ∀ v', Rel v' → Wv E G v' 1074 [some (.ref b), some (.ref (G.1 0)), some (.ref (G.1 270)), some (.int (nI i))] []) : Wv E G v 419 [some (.ref b), some (.ref (G.1 0)), some (.ref (G.1 270)), some (.int (nI i))] [] := by
  obtain ⟨post1, m1, n1⟩ := k_opcode (G := G) (v := v) (x := xs (i + 1)) (y := xs (i + 2)) h
  refine r_aload_n hC (q := 420) dL_law_419 rfl rfl ?_
  refine r_aload_n hC (q := 421) dL_law_420 rfl rfl ?_
  refine r_iload_n hC (q := 422) dL_law_421 rfl rfl ?_
  refine r_iconst hC (x := 1) (q := 423) dL_law_422 (by decide) rfl ?_
  refine r_iaddN hC (q := 424) (a := i) (b := 1) dL_law_423 rfl rfl rfl ?_
  refine r_sldN hC hX (q := 425) rfl (by omega) (by omega) dL_law_424 rfl ?_
  refine r_aload_n hC (q := 426) dL_law_425 rfl rfl ?_
  refine r_iload_n hC (q := 427) dL_law_426 rfl rfl ?_
  refine r_iconst hC (x := 2) (q := 428) dL_law_427 (by decide) rfl ?_
  refine r_iaddN hC (q := 429) (a := i) (b := 2) dL_law_428 rfl rfl rfl ?_
  refine r_sldN hC hX (q := 430) rfl (by omega) (by omega) dL_law_429 rfl ?_
  refine r_cVI hC (q := 433) (n := 2) (As := [_, _]) m1 gL_law_X3_opcode rfl (by decide +kernel) ⟨by decide, by decide⟩ ob_0 rfl rfl rfl rfl (Nat.le_of_ble_eq_true rfl) dL_law_430 rfl ?_
  intro r1 v1 h1
  obtain ⟨post2, m2, n2⟩ := n1 r1 v1 h1
  refine r_aload_n hC (q := 434) dL_law_433 rfl rfl ?_
  refine r_aload_n hC (q := 435) dL_law_434 rfl rfl ?_
  refine r_iload_n hC (q := 436) dL_law_435 rfl rfl ?_
  refine r_iconst hC (x := 1) (q := 437) dL_law_436 (by decide) rfl ?_
  refine r_iaddN hC (q := 438) (a := i) (b := 1) dL_law_437 rfl rfl rfl ?_
  refine r_sldN hC hX (q := 439) rfl (by omega) (by omega) dL_law_438 rfl ?_
  refine r_aload_n hC (q := 440) dL_law_439 rfl rfl ?_
  refine r_iload_n hC (q := 441) dL_law_440 rfl rfl ?_
  refine r_iconst hC (x := 2) (q := 442) dL_law_441 (by decide) rfl ?_
  refine r_iaddN hC (q := 443) (a := i) (b := 2) dL_law_442 rfl rfl rfl ?_
  refine r_sldN hC hX (q := 444) rfl (by omega) (by omega) dL_law_443 rfl ?_
  refine r_cVI hC (q := 447) (n := 2) (As := [_, _]) m2 gL_law_X4_opcode rfl (by decide +kernel) ⟨by decide, by decide⟩ ob_270 rfl rfl rfl rfl (Nat.le_of_ble_eq_true rfl) dL_law_444 rfl ?_
  intro r2 v2 h2
  obtain ⟨he, hr⟩ := n2 r2 v2 h2
  subst he
  exact r_icmp_eq hC (q := 450) (t := 1074) dL_law_447 (by decide) rfl (fun _ => kk _ hr) (fun hne => absurd rfl hne)

set_option maxRecDepth 100000 in
set_option maxHeartbeats 4000000 in
theorem law_8 {E : TE} {G : GG} {v : VV} {b N i : Nat} {xs : Nat → Int32} (hC : Cx E G cL_law RL 4 wsL_law 10 370) (hX : Sx E G b N xs) (hN : N ≤ 3584) (hi : i + 7 ≤ N) (h : Rel v) (kk : ∀ v', Rel v' → Wv E G v' 1074 [some (.ref b), some (.ref (G.1 0)), some (.ref (G.1 270)), some (.int (nI i))] []) : Wv E G v 452 [some (.ref b), some (.ref (G.1 0)), some (.ref (G.1 270)), some (.int (nI i))] [] := by
  obtain ⟨post1, m1, n1⟩ := k_destination (G := G) (v := v) (x := xs (i + 1)) (y := xs (i + 2)) h
  refine r_aload_n hC (q := 453) dL_law_452 rfl rfl ?_
  refine r_aload_n hC (q := 454) dL_law_453 rfl rfl ?_
  refine r_iload_n hC (q := 455) dL_law_454 rfl rfl ?_
  refine r_iconst hC (x := 1) (q := 456) dL_law_455 (by decide) rfl ?_
  refine r_iaddN hC (q := 457) (a := i) (b := 1) dL_law_456 rfl rfl rfl ?_
  refine r_sldN hC hX (q := 458) rfl (by omega) (by omega) dL_law_457 rfl ?_
  refine r_aload_n hC (q := 459) dL_law_458 rfl rfl ?_
  refine r_iload_n hC (q := 460) dL_law_459 rfl rfl ?_
  refine r_iconst hC (x := 2) (q := 461) dL_law_460 (by decide) rfl ?_
  refine r_iaddN hC (q := 462) (a := i) (b := 2) dL_law_461 rfl rfl rfl ?_
  refine r_sldN hC hX (q := 463) rfl (by omega) (by omega) dL_law_462 rfl ?_
  refine r_cVI hC (q := 466) (n := 2) (As := [_, _]) m1 gL_law_X3_destination rfl (by decide +kernel) ⟨by decide, by decide⟩ ob_0 rfl rfl rfl rfl (Nat.le_of_ble_eq_true rfl) dL_law_463 rfl ?_
  intro r1 v1 h1
  obtain ⟨post2, m2, n2⟩ := n1 r1 v1 h1
  refine r_aload_n hC (q := 467) dL_law_466 rfl rfl ?_
  refine r_aload_n hC (q := 468) dL_law_467 rfl rfl ?_
  refine r_iload_n hC (q := 469) dL_law_468 rfl rfl ?_
  refine r_iconst hC (x := 1) (q := 470) dL_law_469 (by decide) rfl ?_
  refine r_iaddN hC (q := 471) (a := i) (b := 1) dL_law_470 rfl rfl rfl ?_
  refine r_sldN hC hX (q := 472) rfl (by omega) (by omega) dL_law_471 rfl ?_
  refine r_aload_n hC (q := 473) dL_law_472 rfl rfl ?_
  refine r_iload_n hC (q := 474) dL_law_473 rfl rfl ?_
  refine r_iconst hC (x := 2) (q := 475) dL_law_474 (by decide) rfl ?_
  refine r_iaddN hC (q := 476) (a := i) (b := 2) dL_law_475 rfl rfl rfl ?_
  refine r_sldN hC hX (q := 477) rfl (by omega) (by omega) dL_law_476 rfl ?_
  refine r_cVI hC (q := 480) (n := 2) (As := [_, _]) m2 gL_law_X4_destination rfl (by decide +kernel) ⟨by decide, by decide⟩ ob_270 rfl rfl rfl rfl (Nat.le_of_ble_eq_true rfl) dL_law_477 rfl ?_
  intro r2 v2 h2
  obtain ⟨he, hr⟩ := n2 r2 v2 h2
  subst he
  exact r_icmp_eq hC (q := 483) (t := 1074) dL_law_480 (by decide) rfl (fun _ => kk _ hr) (fun hne => absurd rfl hne)

set_option maxRecDepth 100000 in
set_option maxHeartbeats 4000000 in
theorem law_9 {E : TE} {G : GG} {v : VV} {b N i : Nat} {xs : Nat → Int32} (hC : Cx E G cL_law RL 4 wsL_law 10 370) (hX : Sx E G b N xs) (hN : N ≤ 3584) (hi : i + 7 ≤ N) (h : Rel v) (kk : ∀ v', Rel v' → Wv E G v' 1074 [some (.ref b), some (.ref (G.1 0)), some (.ref (G.1 270)), some (.int (nI i))] []) : Wv E G v 485 [some (.ref b), some (.ref (G.1 0)), some (.ref (G.1 270)), some (.int (nI i))] [] := by
  obtain ⟨post1, m1, n1⟩ := k_operandA (G := G) (v := v) (x := xs (i + 1)) (y := xs (i + 2)) h
  refine r_aload_n hC (q := 486) dL_law_485 rfl rfl ?_
  refine r_aload_n hC (q := 487) dL_law_486 rfl rfl ?_
  refine r_iload_n hC (q := 488) dL_law_487 rfl rfl ?_
  refine r_iconst hC (x := 1) (q := 489) dL_law_488 (by decide) rfl ?_
  refine r_iaddN hC (q := 490) (a := i) (b := 1) dL_law_489 rfl rfl rfl ?_
  refine r_sldN hC hX (q := 491) rfl (by omega) (by omega) dL_law_490 rfl ?_
  refine r_aload_n hC (q := 492) dL_law_491 rfl rfl ?_
  refine r_iload_n hC (q := 493) dL_law_492 rfl rfl ?_
  refine r_iconst hC (x := 2) (q := 494) dL_law_493 (by decide) rfl ?_
  refine r_iaddN hC (q := 495) (a := i) (b := 2) dL_law_494 rfl rfl rfl ?_
  refine r_sldN hC hX (q := 496) rfl (by omega) (by omega) dL_law_495 rfl ?_
  refine r_cVI hC (q := 499) (n := 2) (As := [_, _]) m1 gL_law_X3_operandA rfl (by decide +kernel) ⟨by decide, by decide⟩ ob_0 rfl rfl rfl rfl (Nat.le_of_ble_eq_true rfl) dL_law_496 rfl ?_
  intro r1 v1 h1
  obtain ⟨post2, m2, n2⟩ := n1 r1 v1 h1
  refine r_aload_n hC (q := 500) dL_law_499 rfl rfl ?_
  refine r_aload_n hC (q := 501) dL_law_500 rfl rfl ?_
  refine r_iload_n hC (q := 502) dL_law_501 rfl rfl ?_
  refine r_iconst hC (x := 1) (q := 503) dL_law_502 (by decide) rfl ?_
  refine r_iaddN hC (q := 504) (a := i) (b := 1) dL_law_503 rfl rfl rfl ?_
  refine r_sldN hC hX (q := 505) rfl (by omega) (by omega) dL_law_504 rfl ?_
  refine r_aload_n hC (q := 506) dL_law_505 rfl rfl ?_
  refine r_iload_n hC (q := 507) dL_law_506 rfl rfl ?_
  refine r_iconst hC (x := 2) (q := 508) dL_law_507 (by decide) rfl ?_
  refine r_iaddN hC (q := 509) (a := i) (b := 2) dL_law_508 rfl rfl rfl ?_
  refine r_sldN hC hX (q := 510) rfl (by omega) (by omega) dL_law_509 rfl ?_
  refine r_cVI hC (q := 513) (n := 2) (As := [_, _]) m2 gL_law_X4_operandA rfl (by decide +kernel) ⟨by decide, by decide⟩ ob_270 rfl rfl rfl rfl (Nat.le_of_ble_eq_true rfl) dL_law_510 rfl ?_
  intro r2 v2 h2
  obtain ⟨he, hr⟩ := n2 r2 v2 h2
  subst he
  exact r_icmp_eq hC (q := 516) (t := 1074) dL_law_513 (by decide) rfl (fun _ => kk _ hr) (fun hne => absurd rfl hne)

set_option maxRecDepth 100000 in
set_option maxHeartbeats 4000000 in
theorem law_10 {E : TE} {G : GG} {v : VV} {b N i : Nat} {xs : Nat → Int32} (hC : Cx E G cL_law RL 4 wsL_law 10 370) (hX : Sx E G b N xs) (hN : N ≤ 3584) (hi : i + 7 ≤ N) (h : Rel v) (kk : ∀ v', Rel v' → Wv E G v' 1074 [some (.ref b), some (.ref (G.1 0)), some (.ref (G.1 270)), some (.int (nI i))] []) : Wv E G v 518 [some (.ref b), some (.ref (G.1 0)), some (.ref (G.1 270)), some (.int (nI i))] [] := by
  obtain ⟨post1, m1, n1⟩ := k_operandB (G := G) (v := v) (x := xs (i + 1)) (y := xs (i + 2)) h
  refine r_aload_n hC (q := 519) dL_law_518 rfl rfl ?_
  refine r_aload_n hC (q := 520) dL_law_519 rfl rfl ?_
  refine r_iload_n hC (q := 521) dL_law_520 rfl rfl ?_
  refine r_iconst hC (x := 1) (q := 522) dL_law_521 (by decide) rfl ?_
  refine r_iaddN hC (q := 523) (a := i) (b := 1) dL_law_522 rfl rfl rfl ?_
  refine r_sldN hC hX (q := 524) rfl (by omega) (by omega) dL_law_523 rfl ?_
  refine r_aload_n hC (q := 525) dL_law_524 rfl rfl ?_
  refine r_iload_n hC (q := 526) dL_law_525 rfl rfl ?_
  refine r_iconst hC (x := 2) (q := 527) dL_law_526 (by decide) rfl ?_
  refine r_iaddN hC (q := 528) (a := i) (b := 2) dL_law_527 rfl rfl rfl ?_
  refine r_sldN hC hX (q := 529) rfl (by omega) (by omega) dL_law_528 rfl ?_
  refine r_cVI hC (q := 532) (n := 2) (As := [_, _]) m1 gL_law_X3_operandB rfl (by decide +kernel) ⟨by decide, by decide⟩ ob_0 rfl rfl rfl rfl (Nat.le_of_ble_eq_true rfl) dL_law_529 rfl ?_
  intro r1 v1 h1
  obtain ⟨post2, m2, n2⟩ := n1 r1 v1 h1
  refine r_aload_n hC (q := 533) dL_law_532 rfl rfl ?_
  refine r_aload_n hC (q := 534) dL_law_533 rfl rfl ?_
  refine r_iload_n hC (q := 535) dL_law_534 rfl rfl ?_
  refine r_iconst hC (x := 1) (q := 536) dL_law_535 (by decide) rfl ?_
  refine r_iaddN hC (q := 537) (a := i) (b := 1) dL_law_536 rfl rfl rfl ?_
  refine r_sldN hC hX (q := 538) rfl (by omega) (by omega) dL_law_537 rfl ?_
  refine r_aload_n hC (q := 539) dL_law_538 rfl rfl ?_
  refine r_iload_n hC (q := 540) dL_law_539 rfl rfl ?_
  refine r_iconst hC (x := 2) (q := 541) dL_law_540 (by decide) rfl ?_
  refine r_iaddN hC (q := 542) (a := i) (b := 2) dL_law_541 rfl rfl rfl ?_
  refine r_sldN hC hX (q := 543) rfl (by omega) (by omega) dL_law_542 rfl ?_
  refine r_cVI hC (q := 546) (n := 2) (As := [_, _]) m2 gL_law_X4_operandB rfl (by decide +kernel) ⟨by decide, by decide⟩ ob_270 rfl rfl rfl rfl (Nat.le_of_ble_eq_true rfl) dL_law_543 rfl ?_
  intro r2 v2 h2
  obtain ⟨he, hr⟩ := n2 r2 v2 h2
  subst he
  exact r_icmp_eq hC (q := 549) (t := 1074) dL_law_546 (by decide) rfl (fun _ => kk _ hr) (fun hne => absurd rfl hne)

set_option maxRecDepth 100000 in
set_option maxHeartbeats 4000000 in
theorem law_11 {E : TE} {G : GG} {v : VV} {b N i : Nat} {xs : Nat → Int32} (hC : Cx E G cL_law RL 4 wsL_law 10 370) (hX : Sx E G b N xs) (hN : N ≤ 3584) (hi : i + 7 ≤ N) (h : Rel v) (kk : ∀ v', Rel v' → Wv E G v' 1074 [some (.ref b), some (.ref (G.1 0)), some (.ref (G.1 270)), some (.int (nI i))] []) : Wv E G v 551 [some (.ref b), some (.ref (G.1 0)), some (.ref (G.1 270)), some (.int (nI i))] [] := by
  obtain ⟨post1, m1, n1⟩ := k_lines (G := G) (v := v) (x := xs (i + 1)) (y := xs (i + 2)) h
  refine r_aload_n hC (q := 552) dL_law_551 rfl rfl ?_
  refine r_aload_n hC (q := 553) dL_law_552 rfl rfl ?_
  refine r_iload_n hC (q := 554) dL_law_553 rfl rfl ?_
  refine r_iconst hC (x := 1) (q := 555) dL_law_554 (by decide) rfl ?_
  refine r_iaddN hC (q := 556) (a := i) (b := 1) dL_law_555 rfl rfl rfl ?_
  refine r_sldN hC hX (q := 557) rfl (by omega) (by omega) dL_law_556 rfl ?_
  refine r_aload_n hC (q := 558) dL_law_557 rfl rfl ?_
  refine r_iload_n hC (q := 559) dL_law_558 rfl rfl ?_
  refine r_iconst hC (x := 2) (q := 560) dL_law_559 (by decide) rfl ?_
  refine r_iaddN hC (q := 561) (a := i) (b := 2) dL_law_560 rfl rfl rfl ?_
  refine r_sldN hC hX (q := 562) rfl (by omega) (by omega) dL_law_561 rfl ?_
  refine r_cVI hC (q := 565) (n := 2) (As := [_, _]) m1 gL_law_X3_lines rfl (by decide +kernel) ⟨by decide, by decide⟩ ob_0 rfl rfl rfl rfl (Nat.le_of_ble_eq_true rfl) dL_law_562 rfl ?_
  intro r1 v1 h1
  obtain ⟨post2, m2, n2⟩ := n1 r1 v1 h1
  refine r_aload_n hC (q := 566) dL_law_565 rfl rfl ?_
  refine r_aload_n hC (q := 567) dL_law_566 rfl rfl ?_
  refine r_iload_n hC (q := 568) dL_law_567 rfl rfl ?_
  refine r_iconst hC (x := 1) (q := 569) dL_law_568 (by decide) rfl ?_
  refine r_iaddN hC (q := 570) (a := i) (b := 1) dL_law_569 rfl rfl rfl ?_
  refine r_sldN hC hX (q := 571) rfl (by omega) (by omega) dL_law_570 rfl ?_
  refine r_aload_n hC (q := 572) dL_law_571 rfl rfl ?_
  refine r_iload_n hC (q := 573) dL_law_572 rfl rfl ?_
  refine r_iconst hC (x := 2) (q := 574) dL_law_573 (by decide) rfl ?_
  refine r_iaddN hC (q := 575) (a := i) (b := 2) dL_law_574 rfl rfl rfl ?_
  refine r_sldN hC hX (q := 576) rfl (by omega) (by omega) dL_law_575 rfl ?_
  refine r_cVI hC (q := 579) (n := 2) (As := [_, _]) m2 gL_law_X4_lines rfl (by decide +kernel) ⟨by decide, by decide⟩ ob_270 rfl rfl rfl rfl (Nat.le_of_ble_eq_true rfl) dL_law_576 rfl ?_
  intro r2 v2 h2
  obtain ⟨he, hr⟩ := n2 r2 v2 h2
  subst he
  exact r_icmp_eq hC (q := 582) (t := 1074) dL_law_579 (by decide) rfl (fun _ => kk _ hr) (fun hne => absurd rfl hne)

set_option maxRecDepth 100000 in
set_option maxHeartbeats 4000000 in
theorem law_12 {E : TE} {G : GG} {v : VV} {b N i : Nat} {xs : Nat → Int32} (hC : Cx E G cL_law RL 4 wsL_law 10 370) (hX : Sx E G b N xs) (hN : N ≤ 3584) (hi : i + 7 ≤ N) (h : Rel v) (kk : ∀ v', Rel v' → Wv E G v' 1074 [some (.ref b), some (.ref (G.1 0)), some (.ref (G.1 270)), some (.int (nI i))] []) : Wv E G v 584 [some (.ref b), some (.ref (G.1 0)), some (.ref (G.1 270)), some (.int (nI i))] [] := by
  obtain ⟨post1, m1, n1⟩ := k_terminatorKind (G := G) (v := v) (x := xs (i + 1)) h
  refine r_aload_n hC (q := 585) dL_law_584 rfl rfl ?_
  refine r_aload_n hC (q := 586) dL_law_585 rfl rfl ?_
  refine r_iload_n hC (q := 587) dL_law_586 rfl rfl ?_
  refine r_iconst hC (x := 1) (q := 588) dL_law_587 (by decide) rfl ?_
  refine r_iaddN hC (q := 589) (a := i) (b := 1) dL_law_588 rfl rfl rfl ?_
  refine r_sldN hC hX (q := 590) rfl (by omega) (by omega) dL_law_589 rfl ?_
  refine r_cVI hC (q := 593) (n := 1) (As := [_]) m1 gL_law_X3_terminatorKind rfl (by decide +kernel) ⟨by decide, by decide⟩ ob_0 rfl rfl rfl rfl (Nat.le_of_ble_eq_true rfl) dL_law_590 rfl ?_
  intro r1 v1 h1
  obtain ⟨post2, m2, n2⟩ := n1 r1 v1 h1
  refine r_aload_n hC (q := 594) dL_law_593 rfl rfl ?_
  refine r_aload_n hC (q := 595) dL_law_594 rfl rfl ?_
  refine r_iload_n hC (q := 596) dL_law_595 rfl rfl ?_
  refine r_iconst hC (x := 1) (q := 597) dL_law_596 (by decide) rfl ?_
  refine r_iaddN hC (q := 598) (a := i) (b := 1) dL_law_597 rfl rfl rfl ?_
  refine r_sldN hC hX (q := 599) rfl (by omega) (by omega) dL_law_598 rfl ?_
  refine r_cVI hC (q := 602) (n := 1) (As := [_]) m2 gL_law_X4_terminatorKind rfl (by decide +kernel) ⟨by decide, by decide⟩ ob_270 rfl rfl rfl rfl (Nat.le_of_ble_eq_true rfl) dL_law_599 rfl ?_
  intro r2 v2 h2
  obtain ⟨he, hr⟩ := n2 r2 v2 h2
  subst he
  exact r_icmp_eq hC (q := 605) (t := 1074) dL_law_602 (by decide) rfl (fun _ => kk _ hr) (fun hne => absurd rfl hne)

set_option maxRecDepth 100000 in
set_option maxHeartbeats 4000000 in
theorem law_13 {E : TE} {G : GG} {v : VV} {b N i : Nat} {xs : Nat → Int32} (hC : Cx E G cL_law RL 4 wsL_law 10 370) (hX : Sx E G b N xs) (hN : N ≤ 3584) (hi : i + 7 ≤ N) (h : Rel v) (kk : ∀ v', Rel v' → Wv E G v' 1074 [some (.ref b), some (.ref (G.1 0)), some (.ref (G.1 270)), some (.int (nI i))] []) : Wv E G v 607 [some (.ref b), some (.ref (G.1 0)), some (.ref (G.1 270)), some (.int (nI i))] [] := by
  obtain ⟨post1, m1, n1⟩ := k_terminatorOperand (G := G) (v := v) (x := xs (i + 1)) (y := xs (i + 2)) h
  refine r_aload_n hC (q := 608) dL_law_607 rfl rfl ?_
  refine r_aload_n hC (q := 609) dL_law_608 rfl rfl ?_
  refine r_iload_n hC (q := 610) dL_law_609 rfl rfl ?_
  refine r_iconst hC (x := 1) (q := 611) dL_law_610 (by decide) rfl ?_
  refine r_iaddN hC (q := 612) (a := i) (b := 1) dL_law_611 rfl rfl rfl ?_
  refine r_sldN hC hX (q := 613) rfl (by omega) (by omega) dL_law_612 rfl ?_
  refine r_aload_n hC (q := 614) dL_law_613 rfl rfl ?_
  refine r_iload_n hC (q := 615) dL_law_614 rfl rfl ?_
  refine r_iconst hC (x := 2) (q := 616) dL_law_615 (by decide) rfl ?_
  refine r_iaddN hC (q := 617) (a := i) (b := 2) dL_law_616 rfl rfl rfl ?_
  refine r_sldN hC hX (q := 618) rfl (by omega) (by omega) dL_law_617 rfl ?_
  refine r_cVI hC (q := 621) (n := 2) (As := [_, _]) m1 gL_law_X3_terminatorOperand rfl (by decide +kernel) ⟨by decide, by decide⟩ ob_0 rfl rfl rfl rfl (Nat.le_of_ble_eq_true rfl) dL_law_618 rfl ?_
  intro r1 v1 h1
  obtain ⟨post2, m2, n2⟩ := n1 r1 v1 h1
  refine r_aload_n hC (q := 622) dL_law_621 rfl rfl ?_
  refine r_aload_n hC (q := 623) dL_law_622 rfl rfl ?_
  refine r_iload_n hC (q := 624) dL_law_623 rfl rfl ?_
  refine r_iconst hC (x := 1) (q := 625) dL_law_624 (by decide) rfl ?_
  refine r_iaddN hC (q := 626) (a := i) (b := 1) dL_law_625 rfl rfl rfl ?_
  refine r_sldN hC hX (q := 627) rfl (by omega) (by omega) dL_law_626 rfl ?_
  refine r_aload_n hC (q := 628) dL_law_627 rfl rfl ?_
  refine r_iload_n hC (q := 629) dL_law_628 rfl rfl ?_
  refine r_iconst hC (x := 2) (q := 630) dL_law_629 (by decide) rfl ?_
  refine r_iaddN hC (q := 631) (a := i) (b := 2) dL_law_630 rfl rfl rfl ?_
  refine r_sldN hC hX (q := 632) rfl (by omega) (by omega) dL_law_631 rfl ?_
  refine r_cVI hC (q := 635) (n := 2) (As := [_, _]) m2 gL_law_X4_terminatorOperand rfl (by decide +kernel) ⟨by decide, by decide⟩ ob_270 rfl rfl rfl rfl (Nat.le_of_ble_eq_true rfl) dL_law_632 rfl ?_
  intro r2 v2 h2
  obtain ⟨he, hr⟩ := n2 r2 v2 h2
  subst he
  exact r_icmp_eq hC (q := 638) (t := 1074) dL_law_635 (by decide) rfl (fun _ => kk _ hr) (fun hne => absurd rfl hne)

set_option maxRecDepth 100000 in
set_option maxHeartbeats 4000000 in
theorem law_14 {E : TE} {G : GG} {v : VV} {b N i : Nat} {xs : Nat → Int32} (hC : Cx E G cL_law RL 4 wsL_law 10 370) (hX : Sx E G b N xs) (hN : N ≤ 3584) (hi : i + 7 ≤ N) (h : Rel v) (kk : ∀ v', Rel v' → Wv E G v' 1074 [some (.ref b), some (.ref (G.1 0)), some (.ref (G.1 270)), some (.int (nI i))] []) : Wv E G v 640 [some (.ref b), some (.ref (G.1 0)), some (.ref (G.1 270)), some (.int (nI i))] [] := by
  obtain ⟨post1, m1, n1⟩ := k_tailHash (G := G) (v := v) (x := xs (i + 1)) (y := xs (i + 2)) h
  refine r_aload_n hC (q := 641) dL_law_640 rfl rfl ?_
  refine r_aload_n hC (q := 642) dL_law_641 rfl rfl ?_
  refine r_iload_n hC (q := 643) dL_law_642 rfl rfl ?_
  refine r_iconst hC (x := 1) (q := 644) dL_law_643 (by decide) rfl ?_
  refine r_iaddN hC (q := 645) (a := i) (b := 1) dL_law_644 rfl rfl rfl ?_
  refine r_sldN hC hX (q := 646) rfl (by omega) (by omega) dL_law_645 rfl ?_
  refine r_aload_n hC (q := 647) dL_law_646 rfl rfl ?_
  refine r_iload_n hC (q := 648) dL_law_647 rfl rfl ?_
  refine r_iconst hC (x := 2) (q := 649) dL_law_648 (by decide) rfl ?_
  refine r_iaddN hC (q := 650) (a := i) (b := 2) dL_law_649 rfl rfl rfl ?_
  refine r_sldN hC hX (q := 651) rfl (by omega) (by omega) dL_law_650 rfl ?_
  refine r_cVI hC (q := 654) (n := 2) (As := [_, _]) m1 gL_law_X3_tailHash rfl (by decide +kernel) ⟨by decide, by decide⟩ ob_0 rfl rfl rfl rfl (Nat.le_of_ble_eq_true rfl) dL_law_651 rfl ?_
  intro r1 v1 h1
  obtain ⟨post2, m2, n2⟩ := n1 r1 v1 h1
  refine r_aload_n hC (q := 655) dL_law_654 rfl rfl ?_
  refine r_aload_n hC (q := 656) dL_law_655 rfl rfl ?_
  refine r_iload_n hC (q := 657) dL_law_656 rfl rfl ?_
  refine r_iconst hC (x := 1) (q := 658) dL_law_657 (by decide) rfl ?_
  refine r_iaddN hC (q := 659) (a := i) (b := 1) dL_law_658 rfl rfl rfl ?_
  refine r_sldN hC hX (q := 660) rfl (by omega) (by omega) dL_law_659 rfl ?_
  refine r_aload_n hC (q := 661) dL_law_660 rfl rfl ?_
  refine r_iload_n hC (q := 662) dL_law_661 rfl rfl ?_
  refine r_iconst hC (x := 2) (q := 663) dL_law_662 (by decide) rfl ?_
  refine r_iaddN hC (q := 664) (a := i) (b := 2) dL_law_663 rfl rfl rfl ?_
  refine r_sldN hC hX (q := 665) rfl (by omega) (by omega) dL_law_664 rfl ?_
  refine r_cVI hC (q := 668) (n := 2) (As := [_, _]) m2 gL_law_X4_tailHash rfl (by decide +kernel) ⟨by decide, by decide⟩ ob_270 rfl rfl rfl rfl (Nat.le_of_ble_eq_true rfl) dL_law_665 rfl ?_
  intro r2 v2 h2
  obtain ⟨he, hr⟩ := n2 r2 v2 h2
  subst he
  exact r_icmp_eq hC (q := 671) (t := 1074) dL_law_668 (by decide) rfl (fun _ => kk _ hr) (fun hne => absurd rfl hne)

set_option maxRecDepth 100000 in
set_option maxHeartbeats 4000000 in
theorem law_15 {E : TE} {G : GG} {v : VV} {b N i : Nat} {xs : Nat → Int32} (hC : Cx E G cL_law RL 4 wsL_law 10 370) (hX : Sx E G b N xs) (hN : N ≤ 3584) (hi : i + 7 ≤ N) (h : Rel v) (kk : ∀ v', Rel v' → Wv E G v' 1074 [some (.ref b), some (.ref (G.1 0)), some (.ref (G.1 270)), some (.int (nI i))] []) : Wv E G v 673 [some (.ref b), some (.ref (G.1 0)), some (.ref (G.1 270)), some (.int (nI i))] [] := by
  obtain ⟨post1, m1, n1⟩ := k_commonTail (G := G) (v := v) (x := xs (i + 1)) (y := xs (i + 2)) h
  refine r_aload_n hC (q := 674) dL_law_673 rfl rfl ?_
  refine r_aload_n hC (q := 675) dL_law_674 rfl rfl ?_
  refine r_iload_n hC (q := 676) dL_law_675 rfl rfl ?_
  refine r_iconst hC (x := 1) (q := 677) dL_law_676 (by decide) rfl ?_
  refine r_iaddN hC (q := 678) (a := i) (b := 1) dL_law_677 rfl rfl rfl ?_
  refine r_sldN hC hX (q := 679) rfl (by omega) (by omega) dL_law_678 rfl ?_
  refine r_aload_n hC (q := 680) dL_law_679 rfl rfl ?_
  refine r_iload_n hC (q := 681) dL_law_680 rfl rfl ?_
  refine r_iconst hC (x := 2) (q := 682) dL_law_681 (by decide) rfl ?_
  refine r_iaddN hC (q := 683) (a := i) (b := 2) dL_law_682 rfl rfl rfl ?_
  refine r_sldN hC hX (q := 684) rfl (by omega) (by omega) dL_law_683 rfl ?_
  refine r_cVI hC (q := 687) (n := 2) (As := [_, _]) m1 gL_law_X3_commonTail rfl (by decide +kernel) ⟨by decide, by decide⟩ ob_0 rfl rfl rfl rfl (Nat.le_of_ble_eq_true rfl) dL_law_684 rfl ?_
  intro r1 v1 h1
  obtain ⟨post2, m2, n2⟩ := n1 r1 v1 h1
  refine r_aload_n hC (q := 688) dL_law_687 rfl rfl ?_
  refine r_aload_n hC (q := 689) dL_law_688 rfl rfl ?_
  refine r_iload_n hC (q := 690) dL_law_689 rfl rfl ?_
  refine r_iconst hC (x := 1) (q := 691) dL_law_690 (by decide) rfl ?_
  refine r_iaddN hC (q := 692) (a := i) (b := 1) dL_law_691 rfl rfl rfl ?_
  refine r_sldN hC hX (q := 693) rfl (by omega) (by omega) dL_law_692 rfl ?_
  refine r_aload_n hC (q := 694) dL_law_693 rfl rfl ?_
  refine r_iload_n hC (q := 695) dL_law_694 rfl rfl ?_
  refine r_iconst hC (x := 2) (q := 696) dL_law_695 (by decide) rfl ?_
  refine r_iaddN hC (q := 697) (a := i) (b := 2) dL_law_696 rfl rfl rfl ?_
  refine r_sldN hC hX (q := 698) rfl (by omega) (by omega) dL_law_697 rfl ?_
  refine r_cVI hC (q := 701) (n := 2) (As := [_, _]) m2 gL_law_X4_commonTail rfl (by decide +kernel) ⟨by decide, by decide⟩ ob_270 rfl rfl rfl rfl (Nat.le_of_ble_eq_true rfl) dL_law_698 rfl ?_
  intro r2 v2 h2
  obtain ⟨he, hr⟩ := n2 r2 v2 h2
  subst he
  exact r_icmp_eq hC (q := 704) (t := 1074) dL_law_701 (by decide) rfl (fun _ => kk _ hr) (fun hne => absurd rfl hne)

set_option maxRecDepth 100000 in
set_option maxHeartbeats 4000000 in
theorem law_16 {E : TE} {G : GG} {v : VV} {b N i : Nat} {xs : Nat → Int32} (hC : Cx E G cL_law RL 4 wsL_law 10 370) (hX : Sx E G b N xs) (hN : N ≤ 3584) (hi : i + 7 ≤ N) (h : Rel v) (kk : ∀ v', Rel v' → Wv E G v' 1074 [some (.ref b), some (.ref (G.1 0)), some (.ref (G.1 270)), some (.int (nI i))] []) : Wv E G v 706 [some (.ref b), some (.ref (G.1 0)), some (.ref (G.1 270)), some (.int (nI i))] [] := by
  obtain ⟨post1, m1, n1⟩ := k_parameterTail (G := G) (v := v) (x := xs (i + 1)) (y := xs (i + 2)) h
  refine r_aload_n hC (q := 707) dL_law_706 rfl rfl ?_
  refine r_aload_n hC (q := 708) dL_law_707 rfl rfl ?_
  refine r_iload_n hC (q := 709) dL_law_708 rfl rfl ?_
  refine r_iconst hC (x := 1) (q := 710) dL_law_709 (by decide) rfl ?_
  refine r_iaddN hC (q := 711) (a := i) (b := 1) dL_law_710 rfl rfl rfl ?_
  refine r_sldN hC hX (q := 712) rfl (by omega) (by omega) dL_law_711 rfl ?_
  refine r_aload_n hC (q := 713) dL_law_712 rfl rfl ?_
  refine r_iload_n hC (q := 714) dL_law_713 rfl rfl ?_
  refine r_iconst hC (x := 2) (q := 715) dL_law_714 (by decide) rfl ?_
  refine r_iaddN hC (q := 716) (a := i) (b := 2) dL_law_715 rfl rfl rfl ?_
  refine r_sldN hC hX (q := 717) rfl (by omega) (by omega) dL_law_716 rfl ?_
  refine r_cVI hC (q := 720) (n := 2) (As := [_, _]) m1 gL_law_X3_parameterTail rfl (by decide +kernel) ⟨by decide, by decide⟩ ob_0 rfl rfl rfl rfl (Nat.le_of_ble_eq_true rfl) dL_law_717 rfl ?_
  intro r1 v1 h1
  obtain ⟨post2, m2, n2⟩ := n1 r1 v1 h1
  refine r_aload_n hC (q := 721) dL_law_720 rfl rfl ?_
  refine r_aload_n hC (q := 722) dL_law_721 rfl rfl ?_
  refine r_iload_n hC (q := 723) dL_law_722 rfl rfl ?_
  refine r_iconst hC (x := 1) (q := 724) dL_law_723 (by decide) rfl ?_
  refine r_iaddN hC (q := 725) (a := i) (b := 1) dL_law_724 rfl rfl rfl ?_
  refine r_sldN hC hX (q := 726) rfl (by omega) (by omega) dL_law_725 rfl ?_
  refine r_aload_n hC (q := 727) dL_law_726 rfl rfl ?_
  refine r_iload_n hC (q := 728) dL_law_727 rfl rfl ?_
  refine r_iconst hC (x := 2) (q := 729) dL_law_728 (by decide) rfl ?_
  refine r_iaddN hC (q := 730) (a := i) (b := 2) dL_law_729 rfl rfl rfl ?_
  refine r_sldN hC hX (q := 731) rfl (by omega) (by omega) dL_law_730 rfl ?_
  refine r_cVI hC (q := 734) (n := 2) (As := [_, _]) m2 gL_law_X4_parameterTail rfl (by decide +kernel) ⟨by decide, by decide⟩ ob_270 rfl rfl rfl rfl (Nat.le_of_ble_eq_true rfl) dL_law_731 rfl ?_
  intro r2 v2 h2
  obtain ⟨he, hr⟩ := n2 r2 v2 h2
  subst he
  exact r_icmp_eq hC (q := 737) (t := 1074) dL_law_734 (by decide) rfl (fun _ => kk _ hr) (fun hne => absurd rfl hne)

set_option maxRecDepth 100000 in
set_option maxHeartbeats 4000000 in
theorem law_17 {E : TE} {G : GG} {v : VV} {b N i : Nat} {xs : Nat → Int32} (hC : Cx E G cL_law RL 4 wsL_law 10 370) (hX : Sx E G b N xs) (hN : N ≤ 3584) (hi : i + 7 ≤ N) (h : Rel v) (kk : ∀ v', Rel v' → Wv E G v' 1074 [some (.ref b), some (.ref (G.1 0)), some (.ref (G.1 270)), some (.int (nI i))] []) : Wv E G v 739 [some (.ref b), some (.ref (G.1 0)), some (.ref (G.1 270)), some (.int (nI i))] [] := by
  obtain ⟨post1, m1, n1⟩ := k_setJumpCost (G := G) (v := v) (x := xs (i + 1)) h
  refine r_aload_n hC (q := 740) dL_law_739 rfl rfl ?_
  refine r_aload_n hC (q := 741) dL_law_740 rfl rfl ?_
  refine r_iload_n hC (q := 742) dL_law_741 rfl rfl ?_
  refine r_iconst hC (x := 1) (q := 743) dL_law_742 (by decide) rfl ?_
  refine r_iaddN hC (q := 744) (a := i) (b := 1) dL_law_743 rfl rfl rfl ?_
  refine r_sldN hC hX (q := 745) rfl (by omega) (by omega) dL_law_744 rfl ?_
  refine r_cVI hC (q := 748) (n := 1) (As := [_]) m1 gL_law_X3_setJumpCost rfl (by decide +kernel) ⟨by decide, by decide⟩ ob_0 rfl rfl rfl rfl (Nat.le_of_ble_eq_true rfl) dL_law_745 rfl ?_
  intro r1 v1 h1
  obtain ⟨post2, m2, n2⟩ := n1 r1 v1 h1
  refine r_aload_n hC (q := 749) dL_law_748 rfl rfl ?_
  refine r_aload_n hC (q := 750) dL_law_749 rfl rfl ?_
  refine r_iload_n hC (q := 751) dL_law_750 rfl rfl ?_
  refine r_iconst hC (x := 1) (q := 752) dL_law_751 (by decide) rfl ?_
  refine r_iaddN hC (q := 753) (a := i) (b := 1) dL_law_752 rfl rfl rfl ?_
  refine r_sldN hC hX (q := 754) rfl (by omega) (by omega) dL_law_753 rfl ?_
  refine r_cVI hC (q := 757) (n := 1) (As := [_]) m2 gL_law_X4_setJumpCost rfl (by decide +kernel) ⟨by decide, by decide⟩ ob_270 rfl rfl rfl rfl (Nat.le_of_ble_eq_true rfl) dL_law_754 rfl ?_
  intro r2 v2 h2
  obtain ⟨he, hr⟩ := n2 r2 v2 h2
  subst he
  exact r_icmp_eq hC (q := 760) (t := 1074) dL_law_757 (by decide) rfl (fun _ => kk _ hr) (fun hne => absurd rfl hne)

set_option maxRecDepth 100000 in
set_option maxHeartbeats 4000000 in
theorem law_18 {E : TE} {G : GG} {v : VV} {b N i : Nat} {xs : Nat → Int32} (hC : Cx E G cL_law RL 4 wsL_law 10 370) (hX : Sx E G b N xs) (hN : N ≤ 3584) (hi : i + 7 ≤ N) (h : Rel v) (kk : ∀ v', Rel v' → Wv E G v' 1074 [some (.ref b), some (.ref (G.1 0)), some (.ref (G.1 270)), some (.int (nI i))] []) : Wv E G v 762 [some (.ref b), some (.ref (G.1 0)), some (.ref (G.1 270)), some (.int (nI i))] [] := by
  obtain ⟨post1, m1, n1⟩ := k_codeSize (G := G) (v := v)  h
  refine r_aload_n hC (q := 763) dL_law_762 rfl rfl ?_
  refine r_cVI hC (q := 766) (n := 0) (As := []) m1 gL_law_X3_codeSize rfl (by decide +kernel) ⟨by decide, by decide⟩ ob_0 rfl rfl rfl rfl (Nat.le_of_ble_eq_true rfl) dL_law_763 rfl ?_
  intro r1 v1 h1
  obtain ⟨post2, m2, n2⟩ := n1 r1 v1 h1
  refine r_aload_n hC (q := 767) dL_law_766 rfl rfl ?_
  refine r_cVI hC (q := 770) (n := 0) (As := []) m2 gL_law_X4_codeSize rfl (by decide +kernel) ⟨by decide, by decide⟩ ob_270 rfl rfl rfl rfl (Nat.le_of_ble_eq_true rfl) dL_law_767 rfl ?_
  intro r2 v2 h2
  obtain ⟨he, hr⟩ := n2 r2 v2 h2
  subst he
  exact r_icmp_eq hC (q := 773) (t := 1074) dL_law_770 (by decide) rfl (fun _ => kk _ hr) (fun hne => absurd rfl hne)

set_option maxRecDepth 100000 in
set_option maxHeartbeats 4000000 in
theorem law_19 {E : TE} {G : GG} {v : VV} {b N i : Nat} {xs : Nat → Int32} (hC : Cx E G cL_law RL 4 wsL_law 10 370) (hX : Sx E G b N xs) (hN : N ≤ 3584) (hi : i + 7 ≤ N) (h : Rel v) (kk : ∀ v', Rel v' → Wv E G v' 1074 [some (.ref b), some (.ref (G.1 0)), some (.ref (G.1 270)), some (.int (nI i))] []) : Wv E G v 775 [some (.ref b), some (.ref (G.1 0)), some (.ref (G.1 270)), some (.int (nI i))] [] := by
  obtain ⟨post1, m1, n1⟩ := k_tailSaving (G := G) (v := v) (x := xs (i + 1)) h
  refine r_aload_n hC (q := 776) dL_law_775 rfl rfl ?_
  refine r_aload_n hC (q := 777) dL_law_776 rfl rfl ?_
  refine r_iload_n hC (q := 778) dL_law_777 rfl rfl ?_
  refine r_iconst hC (x := 1) (q := 779) dL_law_778 (by decide) rfl ?_
  refine r_iaddN hC (q := 780) (a := i) (b := 1) dL_law_779 rfl rfl rfl ?_
  refine r_sldN hC hX (q := 781) rfl (by omega) (by omega) dL_law_780 rfl ?_
  refine r_cVI hC (q := 784) (n := 1) (As := [_]) m1 gL_law_X3_tailSaving rfl (by decide +kernel) ⟨by decide, by decide⟩ ob_0 rfl rfl rfl rfl (Nat.le_of_ble_eq_true rfl) dL_law_781 rfl ?_
  intro r1 v1 h1
  obtain ⟨post2, m2, n2⟩ := n1 r1 v1 h1
  refine r_aload_n hC (q := 785) dL_law_784 rfl rfl ?_
  refine r_aload_n hC (q := 786) dL_law_785 rfl rfl ?_
  refine r_iload_n hC (q := 787) dL_law_786 rfl rfl ?_
  refine r_iconst hC (x := 1) (q := 788) dL_law_787 (by decide) rfl ?_
  refine r_iaddN hC (q := 789) (a := i) (b := 1) dL_law_788 rfl rfl rfl ?_
  refine r_sldN hC hX (q := 790) rfl (by omega) (by omega) dL_law_789 rfl ?_
  refine r_cVI hC (q := 793) (n := 1) (As := [_]) m2 gL_law_X4_tailSaving rfl (by decide +kernel) ⟨by decide, by decide⟩ ob_270 rfl rfl rfl rfl (Nat.le_of_ble_eq_true rfl) dL_law_790 rfl ?_
  intro r2 v2 h2
  obtain ⟨he, hr⟩ := n2 r2 v2 h2
  subst he
  exact r_icmp_eq hC (q := 796) (t := 1074) dL_law_793 (by decide) rfl (fun _ => kk _ hr) (fun hne => absurd rfl hne)

set_option maxRecDepth 100000 in
set_option maxHeartbeats 4000000 in
theorem law_20 {E : TE} {G : GG} {v : VV} {b N i : Nat} {xs : Nat → Int32} (hC : Cx E G cL_law RL 4 wsL_law 10 370) (hX : Sx E G b N xs) (hN : N ≤ 3584) (hi : i + 7 ≤ N) (h : Rel v) (kk : ∀ v', Rel v' → Wv E G v' 1074 [some (.ref b), some (.ref (G.1 0)), some (.ref (G.1 270)), some (.int (nI i))] []) : Wv E G v 798 [some (.ref b), some (.ref (G.1 0)), some (.ref (G.1 270)), some (.int (nI i))] [] := by
  obtain ⟨post1, m1, n1⟩ := k_bestTail (G := G) (v := v)  h
  refine r_aload_n hC (q := 799) dL_law_798 rfl rfl ?_
  refine r_cVI hC (q := 802) (n := 0) (As := []) m1 gL_law_X3_bestTail rfl (by decide +kernel) ⟨by decide, by decide⟩ ob_0 rfl rfl rfl rfl (Nat.le_of_ble_eq_true rfl) dL_law_799 rfl ?_
  intro r1 v1 h1
  obtain ⟨post2, m2, n2⟩ := n1 r1 v1 h1
  refine r_aload_n hC (q := 803) dL_law_802 rfl rfl ?_
  refine r_cVI hC (q := 806) (n := 0) (As := []) m2 gL_law_X4_bestTail rfl (by decide +kernel) ⟨by decide, by decide⟩ ob_270 rfl rfl rfl rfl (Nat.le_of_ble_eq_true rfl) dL_law_803 rfl ?_
  intro r2 v2 h2
  obtain ⟨he, hr⟩ := n2 r2 v2 h2
  subst he
  exact r_icmp_eq hC (q := 809) (t := 1074) dL_law_806 (by decide) rfl (fun _ => kk _ hr) (fun hne => absurd rfl hne)

set_option maxRecDepth 100000 in
set_option maxHeartbeats 4000000 in
theorem law_21 {E : TE} {G : GG} {v : VV} {b N i : Nat} {xs : Nat → Int32} (hC : Cx E G cL_law RL 4 wsL_law 10 370) (hX : Sx E G b N xs) (hN : N ≤ 3584) (hi : i + 7 ≤ N) (h : Rel v) (kk : ∀ v', Rel v' → Wv E G v' 1074 [some (.ref b), some (.ref (G.1 0)), some (.ref (G.1 270)), some (.int (nI i))] []) : Wv E G v 811 [some (.ref b), some (.ref (G.1 0)), some (.ref (G.1 270)), some (.int (nI i))] [] := by
  obtain ⟨post1, m1, n1⟩ := k_mergeTail (G := G) (v := v) (x := xs (i + 1)) h
  refine r_aload_n hC (q := 812) dL_law_811 rfl rfl ?_
  refine r_aload_n hC (q := 813) dL_law_812 rfl rfl ?_
  refine r_iload_n hC (q := 814) dL_law_813 rfl rfl ?_
  refine r_iconst hC (x := 1) (q := 815) dL_law_814 (by decide) rfl ?_
  refine r_iaddN hC (q := 816) (a := i) (b := 1) dL_law_815 rfl rfl rfl ?_
  refine r_sldN hC hX (q := 817) rfl (by omega) (by omega) dL_law_816 rfl ?_
  refine r_cVI hC (q := 820) (n := 1) (As := [_]) m1 gL_law_X3_mergeTail rfl (by decide +kernel) ⟨by decide, by decide⟩ ob_0 rfl rfl rfl rfl (Nat.le_of_ble_eq_true rfl) dL_law_817 rfl ?_
  intro r1 v1 h1
  obtain ⟨post2, m2, n2⟩ := n1 r1 v1 h1
  refine r_aload_n hC (q := 821) dL_law_820 rfl rfl ?_
  refine r_aload_n hC (q := 822) dL_law_821 rfl rfl ?_
  refine r_iload_n hC (q := 823) dL_law_822 rfl rfl ?_
  refine r_iconst hC (x := 1) (q := 824) dL_law_823 (by decide) rfl ?_
  refine r_iaddN hC (q := 825) (a := i) (b := 1) dL_law_824 rfl rfl rfl ?_
  refine r_sldN hC hX (q := 826) rfl (by omega) (by omega) dL_law_825 rfl ?_
  refine r_cVI hC (q := 829) (n := 1) (As := [_]) m2 gL_law_X4_mergeTail rfl (by decide +kernel) ⟨by decide, by decide⟩ ob_270 rfl rfl rfl rfl (Nat.le_of_ble_eq_true rfl) dL_law_826 rfl ?_
  intro r2 v2 h2
  obtain ⟨he, hr⟩ := n2 r2 v2 h2
  subst he
  exact r_icmp_eq hC (q := 832) (t := 1074) dL_law_829 (by decide) rfl (fun _ => kk _ hr) (fun hne => absurd rfl hne)

set_option maxRecDepth 100000 in
set_option maxHeartbeats 4000000 in
theorem law_22 {E : TE} {G : GG} {v : VV} {b N i : Nat} {xs : Nat → Int32} (hC : Cx E G cL_law RL 4 wsL_law 10 370) (hX : Sx E G b N xs) (hN : N ≤ 3584) (hi : i + 7 ≤ N) (h : Rel v) (kk : ∀ v', Rel v' → Wv E G v' 1074 [some (.ref b), some (.ref (G.1 0)), some (.ref (G.1 270)), some (.int (nI i))] []) : Wv E G v 834 [some (.ref b), some (.ref (G.1 0)), some (.ref (G.1 270)), some (.int (nI i))] [] := by
  obtain ⟨post1, m1, n1⟩ := k_parameterSaving (G := G) (v := v) (x := xs (i + 1)) (y := xs (i + 2)) h
  refine r_aload_n hC (q := 835) dL_law_834 rfl rfl ?_
  refine r_aload_n hC (q := 836) dL_law_835 rfl rfl ?_
  refine r_iload_n hC (q := 837) dL_law_836 rfl rfl ?_
  refine r_iconst hC (x := 1) (q := 838) dL_law_837 (by decide) rfl ?_
  refine r_iaddN hC (q := 839) (a := i) (b := 1) dL_law_838 rfl rfl rfl ?_
  refine r_sldN hC hX (q := 840) rfl (by omega) (by omega) dL_law_839 rfl ?_
  refine r_aload_n hC (q := 841) dL_law_840 rfl rfl ?_
  refine r_iload_n hC (q := 842) dL_law_841 rfl rfl ?_
  refine r_iconst hC (x := 2) (q := 843) dL_law_842 (by decide) rfl ?_
  refine r_iaddN hC (q := 844) (a := i) (b := 2) dL_law_843 rfl rfl rfl ?_
  refine r_sldN hC hX (q := 845) rfl (by omega) (by omega) dL_law_844 rfl ?_
  refine r_cVI hC (q := 848) (n := 2) (As := [_, _]) m1 gL_law_X3_parameterSaving rfl (by decide +kernel) ⟨by decide, by decide⟩ ob_0 rfl rfl rfl rfl (Nat.le_of_ble_eq_true rfl) dL_law_845 rfl ?_
  intro r1 v1 h1
  obtain ⟨post2, m2, n2⟩ := n1 r1 v1 h1
  refine r_aload_n hC (q := 849) dL_law_848 rfl rfl ?_
  refine r_aload_n hC (q := 850) dL_law_849 rfl rfl ?_
  refine r_iload_n hC (q := 851) dL_law_850 rfl rfl ?_
  refine r_iconst hC (x := 1) (q := 852) dL_law_851 (by decide) rfl ?_
  refine r_iaddN hC (q := 853) (a := i) (b := 1) dL_law_852 rfl rfl rfl ?_
  refine r_sldN hC hX (q := 854) rfl (by omega) (by omega) dL_law_853 rfl ?_
  refine r_aload_n hC (q := 855) dL_law_854 rfl rfl ?_
  refine r_iload_n hC (q := 856) dL_law_855 rfl rfl ?_
  refine r_iconst hC (x := 2) (q := 857) dL_law_856 (by decide) rfl ?_
  refine r_iaddN hC (q := 858) (a := i) (b := 2) dL_law_857 rfl rfl rfl ?_
  refine r_sldN hC hX (q := 859) rfl (by omega) (by omega) dL_law_858 rfl ?_
  refine r_cVI hC (q := 862) (n := 2) (As := [_, _]) m2 gL_law_X4_parameterSaving rfl (by decide +kernel) ⟨by decide, by decide⟩ ob_270 rfl rfl rfl rfl (Nat.le_of_ble_eq_true rfl) dL_law_859 rfl ?_
  intro r2 v2 h2
  obtain ⟨he, hr⟩ := n2 r2 v2 h2
  subst he
  exact r_icmp_eq hC (q := 865) (t := 1074) dL_law_862 (by decide) rfl (fun _ => kk _ hr) (fun hne => absurd rfl hne)

set_option maxRecDepth 100000 in
set_option maxHeartbeats 4000000 in
theorem law_23 {E : TE} {G : GG} {v : VV} {b N i : Nat} {xs : Nat → Int32} (hC : Cx E G cL_law RL 4 wsL_law 10 370) (hX : Sx E G b N xs) (hN : N ≤ 3584) (hi : i + 7 ≤ N) (h : Rel v) (kk : ∀ v', Rel v' → Wv E G v' 1074 [some (.ref b), some (.ref (G.1 0)), some (.ref (G.1 270)), some (.int (nI i))] []) : Wv E G v 867 [some (.ref b), some (.ref (G.1 0)), some (.ref (G.1 270)), some (.int (nI i))] [] := by
  obtain ⟨post1, m1, n1⟩ := k_mergeWithParameter (G := G) (v := v) (x := xs (i + 1)) (y := xs (i + 2)) h
  refine r_aload_n hC (q := 868) dL_law_867 rfl rfl ?_
  refine r_aload_n hC (q := 869) dL_law_868 rfl rfl ?_
  refine r_iload_n hC (q := 870) dL_law_869 rfl rfl ?_
  refine r_iconst hC (x := 1) (q := 871) dL_law_870 (by decide) rfl ?_
  refine r_iaddN hC (q := 872) (a := i) (b := 1) dL_law_871 rfl rfl rfl ?_
  refine r_sldN hC hX (q := 873) rfl (by omega) (by omega) dL_law_872 rfl ?_
  refine r_aload_n hC (q := 874) dL_law_873 rfl rfl ?_
  refine r_iload_n hC (q := 875) dL_law_874 rfl rfl ?_
  refine r_iconst hC (x := 2) (q := 876) dL_law_875 (by decide) rfl ?_
  refine r_iaddN hC (q := 877) (a := i) (b := 2) dL_law_876 rfl rfl rfl ?_
  refine r_sldN hC hX (q := 878) rfl (by omega) (by omega) dL_law_877 rfl ?_
  refine r_cVI hC (q := 881) (n := 2) (As := [_, _]) m1 gL_law_X3_mergeWithParameter rfl (by decide +kernel) ⟨by decide, by decide⟩ ob_0 rfl rfl rfl rfl (Nat.le_of_ble_eq_true rfl) dL_law_878 rfl ?_
  intro r1 v1 h1
  obtain ⟨post2, m2, n2⟩ := n1 r1 v1 h1
  refine r_aload_n hC (q := 882) dL_law_881 rfl rfl ?_
  refine r_aload_n hC (q := 883) dL_law_882 rfl rfl ?_
  refine r_iload_n hC (q := 884) dL_law_883 rfl rfl ?_
  refine r_iconst hC (x := 1) (q := 885) dL_law_884 (by decide) rfl ?_
  refine r_iaddN hC (q := 886) (a := i) (b := 1) dL_law_885 rfl rfl rfl ?_
  refine r_sldN hC hX (q := 887) rfl (by omega) (by omega) dL_law_886 rfl ?_
  refine r_aload_n hC (q := 888) dL_law_887 rfl rfl ?_
  refine r_iload_n hC (q := 889) dL_law_888 rfl rfl ?_
  refine r_iconst hC (x := 2) (q := 890) dL_law_889 (by decide) rfl ?_
  refine r_iaddN hC (q := 891) (a := i) (b := 2) dL_law_890 rfl rfl rfl ?_
  refine r_sldN hC hX (q := 892) rfl (by omega) (by omega) dL_law_891 rfl ?_
  refine r_cVI hC (q := 895) (n := 2) (As := [_, _]) m2 gL_law_X4_mergeWithParameter rfl (by decide +kernel) ⟨by decide, by decide⟩ ob_270 rfl rfl rfl rfl (Nat.le_of_ble_eq_true rfl) dL_law_892 rfl ?_
  intro r2 v2 h2
  obtain ⟨he, hr⟩ := n2 r2 v2 h2
  subst he
  exact r_icmp_eq hC (q := 898) (t := 1074) dL_law_895 (by decide) rfl (fun _ => kk _ hr) (fun hne => absurd rfl hne)

set_option maxRecDepth 100000 in
set_option maxHeartbeats 4000000 in
theorem law_24 {E : TE} {G : GG} {v : VV} {b N i : Nat} {xs : Nat → Int32} (hC : Cx E G cL_law RL 4 wsL_law 10 370) (hX : Sx E G b N xs) (hN : N ≤ 3584) (hi : i + 7 ≤ N) (h : Rel v) (kk : ∀ v', Rel v' → Wv E G v' 1074 [some (.ref b), some (.ref (G.1 0)), some (.ref (G.1 270)), some (.int (nI i))] []) : Wv E G v 900 [some (.ref b), some (.ref (G.1 0)), some (.ref (G.1 270)), some (.int (nI i))] [] := by
  obtain ⟨post1, m1, n1⟩ := k_mergeAll (G := G) (v := v)  h
  refine r_aload_n hC (q := 901) dL_law_900 rfl rfl ?_
  refine r_cVI hC (q := 904) (n := 0) (As := []) m1 gL_law_X3_mergeAll rfl (by decide +kernel) ⟨by decide, by decide⟩ ob_0 rfl rfl rfl rfl (Nat.le_of_ble_eq_true rfl) dL_law_901 rfl ?_
  intro r1 v1 h1
  obtain ⟨post2, m2, n2⟩ := n1 r1 v1 h1
  refine r_aload_n hC (q := 905) dL_law_904 rfl rfl ?_
  refine r_cVI hC (q := 908) (n := 0) (As := []) m2 gL_law_X4_mergeAll rfl (by decide +kernel) ⟨by decide, by decide⟩ ob_270 rfl rfl rfl rfl (Nat.le_of_ble_eq_true rfl) dL_law_905 rfl ?_
  intro r2 v2 h2
  obtain ⟨he, hr⟩ := n2 r2 v2 h2
  subst he
  exact r_icmp_eq hC (q := 911) (t := 1074) dL_law_908 (by decide) rfl (fun _ => kk _ hr) (fun hne => absurd rfl hne)

set_option maxRecDepth 100000 in
set_option maxHeartbeats 4000000 in
theorem law_25 {E : TE} {G : GG} {v : VV} {b N i : Nat} {xs : Nat → Int32} (hC : Cx E G cL_law RL 4 wsL_law 10 370) (hX : Sx E G b N xs) (hN : N ≤ 3584) (hi : i + 7 ≤ N) (h : Rel v) (kk : ∀ v', Rel v' → Wv E G v' 1074 [some (.ref b), some (.ref (G.1 0)), some (.ref (G.1 270)), some (.int (nI i))] []) : Wv E G v 913 [some (.ref b), some (.ref (G.1 0)), some (.ref (G.1 270)), some (.int (nI i))] [] := by
  obtain ⟨post1, m1, n1⟩ := k_setRegister (G := G) (v := v) (x := xs (i + 1)) (y := xs (i + 2)) h
  refine r_aload_n hC (q := 914) dL_law_913 rfl rfl ?_
  refine r_aload_n hC (q := 915) dL_law_914 rfl rfl ?_
  refine r_iload_n hC (q := 916) dL_law_915 rfl rfl ?_
  refine r_iconst hC (x := 1) (q := 917) dL_law_916 (by decide) rfl ?_
  refine r_iaddN hC (q := 918) (a := i) (b := 1) dL_law_917 rfl rfl rfl ?_
  refine r_sldN hC hX (q := 919) rfl (by omega) (by omega) dL_law_918 rfl ?_
  refine r_aload_n hC (q := 920) dL_law_919 rfl rfl ?_
  refine r_iload_n hC (q := 921) dL_law_920 rfl rfl ?_
  refine r_iconst hC (x := 2) (q := 922) dL_law_921 (by decide) rfl ?_
  refine r_iaddN hC (q := 923) (a := i) (b := 2) dL_law_922 rfl rfl rfl ?_
  refine r_sldN hC hX (q := 924) rfl (by omega) (by omega) dL_law_923 rfl ?_
  refine r_cVI hC (q := 927) (n := 2) (As := [_, _]) m1 gL_law_X3_setRegister rfl (by decide +kernel) ⟨by decide, by decide⟩ ob_0 rfl rfl rfl rfl (Nat.le_of_ble_eq_true rfl) dL_law_924 rfl ?_
  intro r1 v1 h1
  obtain ⟨post2, m2, n2⟩ := n1 r1 v1 h1
  refine r_aload_n hC (q := 928) dL_law_927 rfl rfl ?_
  refine r_aload_n hC (q := 929) dL_law_928 rfl rfl ?_
  refine r_iload_n hC (q := 930) dL_law_929 rfl rfl ?_
  refine r_iconst hC (x := 1) (q := 931) dL_law_930 (by decide) rfl ?_
  refine r_iaddN hC (q := 932) (a := i) (b := 1) dL_law_931 rfl rfl rfl ?_
  refine r_sldN hC hX (q := 933) rfl (by omega) (by omega) dL_law_932 rfl ?_
  refine r_aload_n hC (q := 934) dL_law_933 rfl rfl ?_
  refine r_iload_n hC (q := 935) dL_law_934 rfl rfl ?_
  refine r_iconst hC (x := 2) (q := 936) dL_law_935 (by decide) rfl ?_
  refine r_iaddN hC (q := 937) (a := i) (b := 2) dL_law_936 rfl rfl rfl ?_
  refine r_sldN hC hX (q := 938) rfl (by omega) (by omega) dL_law_937 rfl ?_
  refine r_cVI hC (q := 941) (n := 2) (As := [_, _]) m2 gL_law_X4_setRegister rfl (by decide +kernel) ⟨by decide, by decide⟩ ob_270 rfl rfl rfl rfl (Nat.le_of_ble_eq_true rfl) dL_law_938 rfl ?_
  intro r2 v2 h2
  obtain ⟨he, hr⟩ := n2 r2 v2 h2
  subst he
  exact r_icmp_eq hC (q := 944) (t := 1074) dL_law_941 (by decide) rfl (fun _ => kk _ hr) (fun hne => absurd rfl hne)

set_option maxRecDepth 100000 in
set_option maxHeartbeats 4000000 in
theorem law_26 {E : TE} {G : GG} {v : VV} {b N i : Nat} {xs : Nat → Int32} (hC : Cx E G cL_law RL 4 wsL_law 10 370) (hX : Sx E G b N xs) (hN : N ≤ 3584) (hi : i + 7 ≤ N) (h : Rel v) (kk : ∀ v', Rel v' → Wv E G v' 1074 [some (.ref b), some (.ref (G.1 0)), some (.ref (G.1 270)), some (.int (nI i))] []) : Wv E G v 946 [some (.ref b), some (.ref (G.1 0)), some (.ref (G.1 270)), some (.int (nI i))] [] := by
  obtain ⟨post1, m1, n1⟩ := k_run (G := G) (v := v) (x := xs (i + 1)) h
  refine r_aload_n hC (q := 947) dL_law_946 rfl rfl ?_
  refine r_aload_n hC (q := 948) dL_law_947 rfl rfl ?_
  refine r_iload_n hC (q := 949) dL_law_948 rfl rfl ?_
  refine r_iconst hC (x := 1) (q := 950) dL_law_949 (by decide) rfl ?_
  refine r_iaddN hC (q := 951) (a := i) (b := 1) dL_law_950 rfl rfl rfl ?_
  refine r_sldN hC hX (q := 952) rfl (by omega) (by omega) dL_law_951 rfl ?_
  refine r_cVI hC (q := 955) (n := 1) (As := [_]) m1 gL_law_X3_run rfl (by decide +kernel) ⟨by decide, by decide⟩ ob_0 rfl rfl rfl rfl (Nat.le_of_ble_eq_true rfl) dL_law_952 rfl ?_
  intro r1 v1 h1
  obtain ⟨post2, m2, n2⟩ := n1 r1 v1 h1
  refine r_aload_n hC (q := 956) dL_law_955 rfl rfl ?_
  refine r_aload_n hC (q := 957) dL_law_956 rfl rfl ?_
  refine r_iload_n hC (q := 958) dL_law_957 rfl rfl ?_
  refine r_iconst hC (x := 1) (q := 959) dL_law_958 (by decide) rfl ?_
  refine r_iaddN hC (q := 960) (a := i) (b := 1) dL_law_959 rfl rfl rfl ?_
  refine r_sldN hC hX (q := 961) rfl (by omega) (by omega) dL_law_960 rfl ?_
  refine r_cVI hC (q := 964) (n := 1) (As := [_]) m2 gL_law_X4_run rfl (by decide +kernel) ⟨by decide, by decide⟩ ob_270 rfl rfl rfl rfl (Nat.le_of_ble_eq_true rfl) dL_law_961 rfl ?_
  intro r2 v2 h2
  obtain ⟨he, hr⟩ := n2 r2 v2 h2
  subst he
  exact r_icmp_eq hC (q := 967) (t := 1074) dL_law_964 (by decide) rfl (fun _ => kk _ hr) (fun hne => absurd rfl hne)

set_option maxRecDepth 100000 in
set_option maxHeartbeats 4000000 in
theorem law_27 {E : TE} {G : GG} {v : VV} {b N i : Nat} {xs : Nat → Int32} (hC : Cx E G cL_law RL 4 wsL_law 10 370) (hX : Sx E G b N xs) (hN : N ≤ 3584) (hi : i + 7 ≤ N) (h : Rel v) (kk : ∀ v', Rel v' → Wv E G v' 1074 [some (.ref b), some (.ref (G.1 0)), some (.ref (G.1 270)), some (.int (nI i))] []) : Wv E G v 969 [some (.ref b), some (.ref (G.1 0)), some (.ref (G.1 270)), some (.int (nI i))] [] := by
  obtain ⟨post1, m1, n1⟩ := k_traceLength (G := G) (v := v)  h
  refine r_aload_n hC (q := 970) dL_law_969 rfl rfl ?_
  refine r_cVI hC (q := 973) (n := 0) (As := []) m1 gL_law_X3_traceLength rfl (by decide +kernel) ⟨by decide, by decide⟩ ob_0 rfl rfl rfl rfl (Nat.le_of_ble_eq_true rfl) dL_law_970 rfl ?_
  intro r1 v1 h1
  obtain ⟨post2, m2, n2⟩ := n1 r1 v1 h1
  refine r_aload_n hC (q := 974) dL_law_973 rfl rfl ?_
  refine r_cVI hC (q := 977) (n := 0) (As := []) m2 gL_law_X4_traceLength rfl (by decide +kernel) ⟨by decide, by decide⟩ ob_270 rfl rfl rfl rfl (Nat.le_of_ble_eq_true rfl) dL_law_974 rfl ?_
  intro r2 v2 h2
  obtain ⟨he, hr⟩ := n2 r2 v2 h2
  subst he
  exact r_icmp_eq hC (q := 980) (t := 1074) dL_law_977 (by decide) rfl (fun _ => kk _ hr) (fun hne => absurd rfl hne)

set_option maxRecDepth 100000 in
set_option maxHeartbeats 4000000 in
theorem law_28 {E : TE} {G : GG} {v : VV} {b N i : Nat} {xs : Nat → Int32} (hC : Cx E G cL_law RL 4 wsL_law 10 370) (hX : Sx E G b N xs) (hN : N ≤ 3584) (hi : i + 7 ≤ N) (h : Rel v) (kk : ∀ v', Rel v' → Wv E G v' 1074 [some (.ref b), some (.ref (G.1 0)), some (.ref (G.1 270)), some (.int (nI i))] []) : Wv E G v 982 [some (.ref b), some (.ref (G.1 0)), some (.ref (G.1 270)), some (.int (nI i))] [] := by
  obtain ⟨post1, m1, n1⟩ := k_trace (G := G) (v := v) (x := xs (i + 1)) h
  refine r_aload_n hC (q := 983) dL_law_982 rfl rfl ?_
  refine r_aload_n hC (q := 984) dL_law_983 rfl rfl ?_
  refine r_iload_n hC (q := 985) dL_law_984 rfl rfl ?_
  refine r_iconst hC (x := 1) (q := 986) dL_law_985 (by decide) rfl ?_
  refine r_iaddN hC (q := 987) (a := i) (b := 1) dL_law_986 rfl rfl rfl ?_
  refine r_sldN hC hX (q := 988) rfl (by omega) (by omega) dL_law_987 rfl ?_
  refine r_cVI hC (q := 991) (n := 1) (As := [_]) m1 gL_law_X3_trace rfl (by decide +kernel) ⟨by decide, by decide⟩ ob_0 rfl rfl rfl rfl (Nat.le_of_ble_eq_true rfl) dL_law_988 rfl ?_
  intro r1 v1 h1
  obtain ⟨post2, m2, n2⟩ := n1 r1 v1 h1
  refine r_aload_n hC (q := 992) dL_law_991 rfl rfl ?_
  refine r_aload_n hC (q := 993) dL_law_992 rfl rfl ?_
  refine r_iload_n hC (q := 994) dL_law_993 rfl rfl ?_
  refine r_iconst hC (x := 1) (q := 995) dL_law_994 (by decide) rfl ?_
  refine r_iaddN hC (q := 996) (a := i) (b := 1) dL_law_995 rfl rfl rfl ?_
  refine r_sldN hC hX (q := 997) rfl (by omega) (by omega) dL_law_996 rfl ?_
  refine r_cVI hC (q := 1000) (n := 1) (As := [_]) m2 gL_law_X4_trace rfl (by decide +kernel) ⟨by decide, by decide⟩ ob_270 rfl rfl rfl rfl (Nat.le_of_ble_eq_true rfl) dL_law_997 rfl ?_
  intro r2 v2 h2
  obtain ⟨he, hr⟩ := n2 r2 v2 h2
  subst he
  exact r_icmp_eq hC (q := 1003) (t := 1074) dL_law_1000 (by decide) rfl (fun _ => kk _ hr) (fun hne => absurd rfl hne)

set_option maxRecDepth 100000 in
set_option maxHeartbeats 4000000 in
theorem law_29 {E : TE} {G : GG} {v : VV} {b N i : Nat} {xs : Nat → Int32} (hC : Cx E G cL_law RL 4 wsL_law 10 370) (hX : Sx E G b N xs) (hN : N ≤ 3584) (hi : i + 7 ≤ N) (h : Rel v) (kk : ∀ v', Rel v' → Wv E G v' 1074 [some (.ref b), some (.ref (G.1 0)), some (.ref (G.1 270)), some (.int (nI i))] []) : Wv E G v 1005 [some (.ref b), some (.ref (G.1 0)), some (.ref (G.1 270)), some (.int (nI i))] [] := by
  obtain ⟨post1, m1, n1⟩ := k_register (G := G) (v := v) (x := xs (i + 1)) h
  refine r_aload_n hC (q := 1006) dL_law_1005 rfl rfl ?_
  refine r_aload_n hC (q := 1007) dL_law_1006 rfl rfl ?_
  refine r_iload_n hC (q := 1008) dL_law_1007 rfl rfl ?_
  refine r_iconst hC (x := 1) (q := 1009) dL_law_1008 (by decide) rfl ?_
  refine r_iaddN hC (q := 1010) (a := i) (b := 1) dL_law_1009 rfl rfl rfl ?_
  refine r_sldN hC hX (q := 1011) rfl (by omega) (by omega) dL_law_1010 rfl ?_
  refine r_cVI hC (q := 1014) (n := 1) (As := [_]) m1 gL_law_X3_register rfl (by decide +kernel) ⟨by decide, by decide⟩ ob_0 rfl rfl rfl rfl (Nat.le_of_ble_eq_true rfl) dL_law_1011 rfl ?_
  intro r1 v1 h1
  obtain ⟨post2, m2, n2⟩ := n1 r1 v1 h1
  refine r_aload_n hC (q := 1015) dL_law_1014 rfl rfl ?_
  refine r_aload_n hC (q := 1016) dL_law_1015 rfl rfl ?_
  refine r_iload_n hC (q := 1017) dL_law_1016 rfl rfl ?_
  refine r_iconst hC (x := 1) (q := 1018) dL_law_1017 (by decide) rfl ?_
  refine r_iaddN hC (q := 1019) (a := i) (b := 1) dL_law_1018 rfl rfl rfl ?_
  refine r_sldN hC hX (q := 1020) rfl (by omega) (by omega) dL_law_1019 rfl ?_
  refine r_cVI hC (q := 1023) (n := 1) (As := [_]) m2 gL_law_X4_register rfl (by decide +kernel) ⟨by decide, by decide⟩ ob_270 rfl rfl rfl rfl (Nat.le_of_ble_eq_true rfl) dL_law_1020 rfl ?_
  intro r2 v2 h2
  obtain ⟨he, hr⟩ := n2 r2 v2 h2
  subst he
  exact r_icmp_eq hC (q := 1026) (t := 1074) dL_law_1023 (by decide) rfl (fun _ => kk _ hr) (fun hne => absurd rfl hne)

set_option maxRecDepth 100000 in
set_option maxHeartbeats 4000000 in
theorem law_30 {E : TE} {G : GG} {v : VV} {b N i : Nat} {xs : Nat → Int32} (hC : Cx E G cL_law RL 4 wsL_law 10 370) (hX : Sx E G b N xs) (hN : N ≤ 3584) (hi : i + 7 ≤ N) (h : Rel v) (kk : ∀ v', Rel v' → Wv E G v' 1074 [some (.ref b), some (.ref (G.1 0)), some (.ref (G.1 270)), some (.int (nI i))] []) : Wv E G v 1028 [some (.ref b), some (.ref (G.1 0)), some (.ref (G.1 270)), some (.int (nI i))] [] := by
  obtain ⟨post1, m1, n1⟩ := k_save (G := G) (v := v) (x := xs (i + 1)) h
  refine r_aload_n hC (q := 1029) dL_law_1028 rfl rfl ?_
  refine r_aload_n hC (q := 1030) dL_law_1029 rfl rfl ?_
  refine r_iload_n hC (q := 1031) dL_law_1030 rfl rfl ?_
  refine r_iconst hC (x := 1) (q := 1032) dL_law_1031 (by decide) rfl ?_
  refine r_iaddN hC (q := 1033) (a := i) (b := 1) dL_law_1032 rfl rfl rfl ?_
  refine r_sldN hC hX (q := 1034) rfl (by omega) (by omega) dL_law_1033 rfl ?_
  refine r_cVI hC (q := 1037) (n := 1) (As := [_]) m1 gL_law_X3_save rfl (by decide +kernel) ⟨by decide, by decide⟩ ob_0 rfl rfl rfl rfl (Nat.le_of_ble_eq_true rfl) dL_law_1034 rfl ?_
  intro r1 v1 h1
  obtain ⟨post2, m2, n2⟩ := n1 r1 v1 h1
  refine r_aload_n hC (q := 1038) dL_law_1037 rfl rfl ?_
  refine r_aload_n hC (q := 1039) dL_law_1038 rfl rfl ?_
  refine r_iload_n hC (q := 1040) dL_law_1039 rfl rfl ?_
  refine r_iconst hC (x := 1) (q := 1041) dL_law_1040 (by decide) rfl ?_
  refine r_iaddN hC (q := 1042) (a := i) (b := 1) dL_law_1041 rfl rfl rfl ?_
  refine r_sldN hC hX (q := 1043) rfl (by omega) (by omega) dL_law_1042 rfl ?_
  refine r_cVI hC (q := 1046) (n := 1) (As := [_]) m2 gL_law_X4_save rfl (by decide +kernel) ⟨by decide, by decide⟩ ob_270 rfl rfl rfl rfl (Nat.le_of_ble_eq_true rfl) dL_law_1043 rfl ?_
  intro r2 v2 h2
  obtain ⟨he, hr⟩ := n2 r2 v2 h2
  subst he
  exact r_icmp_eq hC (q := 1049) (t := 1074) dL_law_1046 (by decide) rfl (fun _ => kk _ hr) (fun hne => absurd rfl hne)

set_option maxRecDepth 100000 in
set_option maxHeartbeats 4000000 in
theorem law_31 {E : TE} {G : GG} {v : VV} {b N i : Nat} {xs : Nat → Int32} (hC : Cx E G cL_law RL 4 wsL_law 10 370) (hX : Sx E G b N xs) (hN : N ≤ 3584) (hi : i + 7 ≤ N) (h : Rel v) (kk : ∀ v', Rel v' → Wv E G v' 1074 [some (.ref b), some (.ref (G.1 0)), some (.ref (G.1 270)), some (.int (nI i))] []) : Wv E G v 1051 [some (.ref b), some (.ref (G.1 0)), some (.ref (G.1 270)), some (.int (nI i))] [] := by
  obtain ⟨post1, m1, n1⟩ := k_restore (G := G) (v := v) (x := xs (i + 1)) h
  refine r_aload_n hC (q := 1052) dL_law_1051 rfl rfl ?_
  refine r_aload_n hC (q := 1053) dL_law_1052 rfl rfl ?_
  refine r_iload_n hC (q := 1054) dL_law_1053 rfl rfl ?_
  refine r_iconst hC (x := 1) (q := 1055) dL_law_1054 (by decide) rfl ?_
  refine r_iaddN hC (q := 1056) (a := i) (b := 1) dL_law_1055 rfl rfl rfl ?_
  refine r_sldN hC hX (q := 1057) rfl (by omega) (by omega) dL_law_1056 rfl ?_
  refine r_cVI hC (q := 1060) (n := 1) (As := [_]) m1 gL_law_X3_restore rfl (by decide +kernel) ⟨by decide, by decide⟩ ob_0 rfl rfl rfl rfl (Nat.le_of_ble_eq_true rfl) dL_law_1057 rfl ?_
  intro r1 v1 h1
  obtain ⟨post2, m2, n2⟩ := n1 r1 v1 h1
  refine r_aload_n hC (q := 1061) dL_law_1060 rfl rfl ?_
  refine r_aload_n hC (q := 1062) dL_law_1061 rfl rfl ?_
  refine r_iload_n hC (q := 1063) dL_law_1062 rfl rfl ?_
  refine r_iconst hC (x := 1) (q := 1064) dL_law_1063 (by decide) rfl ?_
  refine r_iaddN hC (q := 1065) (a := i) (b := 1) dL_law_1064 rfl rfl rfl ?_
  refine r_sldN hC hX (q := 1066) rfl (by omega) (by omega) dL_law_1065 rfl ?_
  refine r_cVI hC (q := 1069) (n := 1) (As := [_]) m2 gL_law_X4_restore rfl (by decide +kernel) ⟨by decide, by decide⟩ ob_270 rfl rfl rfl rfl (Nat.le_of_ble_eq_true rfl) dL_law_1066 rfl ?_
  intro r2 v2 h2
  obtain ⟨he, hr⟩ := n2 r2 v2 h2
  subst he
  exact r_icmp_eq hC (q := 1072) (t := 1074) dL_law_1069 (by decide) rfl (fun _ => kk _ hr) (fun hne => absurd rfl hne)

set_option maxRecDepth 100000 in
set_option maxHeartbeats 4000000 in
theorem law_loop {E : TE} {G : GG} {b N : Nat} {xs : Nat → Int32} (hC : Cx E G cL_law RL 4 wsL_law 10 370) (hX : Sx E G b N xs) (hN : N ≤ 3584) (kend : ∀ (v : VV) (L : List (Option Value)), Wv E G v 1081 L [.int 1]) : ∀ (f i : Nat) (v : VV), N < i + f → i < 2 ^ 29 → Rel v → Wv E G v 18 [some (.ref b), some (.ref (G.1 0)), some (.ref (G.1 270)), some (.int (nI i))] [] := by
  intro f
  induction f with
  | zero =>
    intro i v hf hi h
    refine r_iload_n hC (q := 19) dL_law_18 rfl rfl ?_
    refine r_aload_n hC (q := 20) dL_law_19 rfl rfl ?_
    refine r_slen hC hX (q := 21) dL_law_20 rfl ?_
    refine r_bipush hC (x := 7) (q := 23) dL_law_21 (by decide) rfl ?_
    refine r_isub hC (q := 24) dL_law_23 rfl ?_
    refine r_icmp_gt hC (q := 27) (t := 1080) dL_law_24 (by decide) rfl (fun _ => ?_) (fun h24 => ?_)
    · exact r_iconst hC (x := 1) (q := 1081) dL_law_1080 (by decide) rfl (kend _ _)
    · have := len7 hN (by omega) h24
      omega
  | succ f ih =>
    intro i v hf hi h
    refine r_iload_n hC (q := 19) dL_law_18 rfl rfl ?_
    refine r_aload_n hC (q := 20) dL_law_19 rfl rfl ?_
    refine r_slen hC hX (q := 21) dL_law_20 rfl ?_
    refine r_bipush hC (x := 7) (q := 23) dL_law_21 (by decide) rfl ?_
    refine r_isub hC (q := 24) dL_law_23 rfl ?_
    refine r_icmp_gt hC (q := 27) (t := 1080) dL_law_24 (by decide) rfl (fun _ => ?_) (fun h24 => ?_)
    · exact r_iconst hC (x := 1) (q := 1081) dL_law_1080 (by decide) rfl (kend _ _)
    · have h7 := len7 hN (by omega) h24
      have kk : ∀ v', Rel v' → Wv E G v' 1074 [some (.ref b), some (.ref (G.1 0)), some (.ref (G.1 270)), some (.int (nI i))] [] := by
        intro v' hr
        refine r_iincN hC (q := 1077) (L' := [_, _, _, _]) (c := 7) dL_law_1074 rfl rfl rfl rfl rfl ?_
        refine r_goto hC (t := 18) dL_law_1077 (by decide) ?_
        exact ih (i + 7) v' (by omega) (by omega) hr
      refine r_aload_n hC (q := 28) dL_law_27 rfl rfl ?_
      refine r_iload_n hC (q := 29) dL_law_28 rfl rfl ?_
      refine r_sldN hC hX (q := 30) rfl (by omega) (by omega) dL_law_29 rfl ?_
      refine r_bipush hC (x := 31) (q := 32) dL_law_30 (by decide) rfl ?_
      refine r_iand hC (q := 33) dL_law_32 rfl ?_
      exact r_tsw31 hC (td := 1074) (t0 := 176) (t1 := 189) (t2 := 264) (t3 := 297) (t4 := 350) (t5 := 383) (t6 := 396) (t7 := 419) (t8 := 452) (t9 := 485) (t10 := 518) (t11 := 551) (t12 := 584) (t13 := 607) (t14 := 640) (t15 := 673) (t16 := 706) (t17 := 739) (t18 := 762) (t19 := 775) (t20 := 798) (t21 := 811) (t22 := 834) (t23 := 867) (t24 := 900) (t25 := 913) (t26 := 946) (t27 := 969) (t28 := 982) (t29 := 1005) (t30 := 1028) (t31 := 1051) dL_law_33 (by decide) (by decide) (by decide) (by decide) (by decide) (by decide) (by decide) (by decide) (by decide) (by decide) (by decide) (by decide) (by decide) (by decide) (by decide) (by decide) (by decide) (by decide) (by decide) (by decide) (by decide) (by decide) (by decide) (by decide) (by decide) (by decide) (by decide) (by decide) (by decide) (by decide) (by decide) (by decide) (by decide) (fun _ => kk v h) (fun _ => law_0 hC hX hN h7 h kk) (fun _ => law_1 hC hX hN h7 h kk) (fun _ => law_2 hC hX hN h7 h kk) (fun _ => law_3 hC hX hN h7 h kk) (fun _ => law_4 hC hX hN h7 h kk) (fun _ => law_5 hC hX hN h7 h kk) (fun _ => law_6 hC hX hN h7 h kk) (fun _ => law_7 hC hX hN h7 h kk) (fun _ => law_8 hC hX hN h7 h kk) (fun _ => law_9 hC hX hN h7 h kk) (fun _ => law_10 hC hX hN h7 h kk) (fun _ => law_11 hC hX hN h7 h kk) (fun _ => law_12 hC hX hN h7 h kk) (fun _ => law_13 hC hX hN h7 h kk) (fun _ => law_14 hC hX hN h7 h kk) (fun _ => law_15 hC hX hN h7 h kk) (fun _ => law_16 hC hX hN h7 h kk) (fun _ => law_17 hC hX hN h7 h kk) (fun _ => law_18 hC hX hN h7 h kk) (fun _ => law_19 hC hX hN h7 h kk) (fun _ => law_20 hC hX hN h7 h kk) (fun _ => law_21 hC hX hN h7 h kk) (fun _ => law_22 hC hX hN h7 h kk) (fun _ => law_23 hC hX hN h7 h kk) (fun _ => law_24 hC hX hN h7 h kk) (fun _ => law_25 hC hX hN h7 h kk) (fun _ => law_26 hC hX hN h7 h kk) (fun _ => law_27 hC hX hN h7 h kk) (fun _ => law_28 hC hX hN h7 h kk) (fun _ => law_29 hC hX hN h7 h kk) (fun _ => law_30 hC hX hN h7 h kk) (fun _ => law_31 hC hX hN h7 h kk)
