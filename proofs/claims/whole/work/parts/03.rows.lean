/-! The world: one fixed layout of 276 cells, their numbers a function of two arguments; locals as a list. -/
abbrev VV : Type := Nat → Nat → Int32
abbrev GG : Type := (Nat → Nat) × va_G × (ClassId × ClassId × ClassId × ClassId) × (Nat → Prop)
abbrev TE : Type := Program × Launch × Env × Room × State × MethodId × Array Value × List Frame × Method × Code × Nat × Nat × (State → Prop)
def celP (G : GG) (p o : Nat) (w : Nat → Int32) : va_E :=
  if o = 0 then .inr (2, [.ref (G.1 (p + 1)), .int (w 1), .int (w 2), .ref (G.1 (p + 86)), .ref (G.1 (p + 87))])
  else if o = 1 then .inl (G.2.2.1.2.2.1, 12, .inr (.inr (.inr (.inr (fun b => some (G.1 (p + 2 + 7 * b)))))))
  else if o = 86 then .inl (G.2.2.1.1, 8, .inl w)
  else if o = 87 then .inl (G.2.2.1.1, 12, .inl w)
  else if (o - 2) % 7 = 0 then .inr (0, [.ref (G.1 (p + o + 1)), .ref (G.1 (p + o + 2)), .ref (G.1 (p + o + 3)), .ref (G.1 (p + o + 4)), .ref (G.1 (p + o + 5)), .int (w 5), .int (w 6), .ref (G.1 (p + o + 6))])
  else if (o - 2) % 7 = 6 then .inl (G.2.2.1.1, 3, .inl w)
  else .inl (G.2.2.1.1, 10, .inl w)
def cel (G : GG) (k : Nat) (w : Nat → Int32) : va_E :=
  if k = 0 then .inr (3, [.ref (G.1 1), .ref (G.1 89), .ref (G.1 266), .ref (G.1 267)])
  else if k < 89 then celP G 1 (k - 1) w
  else if k = 89 then .inl (G.2.2.1.2.2.2, 2, .inr (.inr (.inr (.inr (fun i => some (G.1 (90 + 88 * i)))))))
  else if k < 178 then celP G 90 (k - 90) w
  else if k < 266 then celP G 178 (k - 178) w
  else if k = 266 then .inl (G.2.2.1.2.1, 2, .inl w)
  else if k = 267 then .inr (1, [.ref (G.1 268), .ref (G.1 269), .int (w 2)])
  else if k = 268 then .inl (G.2.2.1.1, 8, .inl w)
  else if k = 269 then .inl (G.2.2.1.1, 1000, .inl w)
  else if k = 270 then .inr (4, [.ref (G.1 271), .ref (G.1 272), .ref (G.1 273), .int (w 3), .ref (G.1 274), .ref (G.1 275), .int (w 6)])
  else if k = 271 then .inl (G.2.2.1.1, 670, .inl w)
  else if k = 272 then .inl (G.2.2.1.1, 1340, .inl w)
  else if k = 273 then .inl (G.2.2.1.2.1, 2, .inl w)
  else if k = 274 then .inl (G.2.2.1.1, 8, .inl w)
  else .inl (G.2.2.1.1, 1000, .inl w)
def wl (G : GG) (v : VV) : va_W := (List.range 276).map fun k => (G.1 k, cel G k (v k))
def tysG (G : GG) : List (ClassId × FieldType) := [(G.2.2.1.1, .int), (G.2.2.1.2.1, .boolean), (G.2.2.1.2.2.1, .object RX0), (G.2.2.1.2.2.2, .object RX2)]
def Gok (G : GG) : Prop := (∀ i j, i < 276 → j < 276 → G.1 i = G.1 j → i = j) ∧ ∀ k, k < 276 → G.2.2.2 (G.1 k)
def isPr (p : Nat) : Prop := p = 1 ∨ p = 90 ∨ p = 178
def isBk (k : Nat) : Prop := ∃ p b, isPr p ∧ b < 12 ∧ k = p + 2 + 7 * b
theorem wl_get {G : GG} {v : VV} {k : Nat} (h : k < 276) : (wl G v)[k]? = some (G.1 k, cel G k (v k)) := by
  simp [wl, h]
theorem wl_set {G : GG} {v : VV} {k : Nat} {w : Nat → Int32} {e : va_E} (h : k < 276) (he : cel G k w = e) : (wl G v).set k (G.1 k, e) = wl G (va_up v k w) := by
  apply List.ext_getElem?
  intro j
  by_cases hj : j = k
  · subst hj
    rw [List.getElem?_set_self (by simp [wl, h]), wl_get h, va_up_self, he]
  · rw [List.getElem?_set_ne (Ne.symm hj)]
    simp only [wl, List.getElem?_map]
    cases hb : (List.range 276)[j]? with
    | none => simp only [Option.map_none]
    | some b =>
      have hbj : b = j := by
        obtain ⟨h1, h2⟩ := List.getElem?_eq_some_iff.mp hb
        simpa using h2.symm
      subst hbj
      simp [va_up, hj]
theorem wl_D {G : GG} (hG : Gok G) (v : VV) : va_D G.2.2.2 (wl G v) := by
  have key : ∀ (k : Nat) (q : Nat × va_E), (wl G v)[k]? = some q → k < 276 ∧ q = (G.1 k, cel G k (v k)) := by
    intro k q hk
    have hl : k < 276 := by
      have := (List.getElem?_eq_some_iff.mp hk).1
      simpa [wl] using this
    rw [wl_get hl] at hk
    exact ⟨hl, (Option.some.inj hk).symm⟩
  refine ⟨fun i j x y hi hj hxy => ?_, fun k q hk => ?_⟩
  · obtain ⟨a1, rfl⟩ := key i x hi
    obtain ⟨a2, rfl⟩ := key j y hj
    exact hG.1 i j a1 a2 hxy
  · obtain ⟨a1, rfl⟩ := key k q hk
    exact hG.2 k a1
/-! which cell is what -/
abbrev fsB (G : GG) (k : Nat) (w : Nat → Int32) : List Value := [.ref (G.1 (k + 1)), .ref (G.1 (k + 2)), .ref (G.1 (k + 3)), .ref (G.1 (k + 4)), .ref (G.1 (k + 5)), .int (w 5), .int (w 6), .ref (G.1 (k + 6))]
abbrev fsP (G : GG) (p : Nat) (w : Nat → Int32) : List Value := [.ref (G.1 (p + 1)), .int (w 1), .int (w 2), .ref (G.1 (p + 86)), .ref (G.1 (p + 87))]
abbrev fsT (G : GG) : List Value := [.ref (G.1 1), .ref (G.1 89), .ref (G.1 266), .ref (G.1 267)]
abbrev fsM (G : GG) (w : Nat → Int32) : List Value := [.ref (G.1 268), .ref (G.1 269), .int (w 2)]
abbrev fsR (G : GG) (w : Nat → Int32) : List Value := [.ref (G.1 271), .ref (G.1 272), .ref (G.1 273), .int (w 3), .ref (G.1 274), .ref (G.1 275), .int (w 6)]
theorem cel_in {G : GG} {p o : Nat} {w : Nat → Int32} (hp : isPr p) (ho : o < 88) : cel G (p + o) w = celP G p o w := by
  rcases hp with rfl | rfl | rfl
  · rw [cel, if_neg (by omega), if_pos (by omega), Nat.add_sub_cancel_left]
  · rw [cel, if_neg (by omega), if_neg (by omega), if_neg (by omega), if_pos (by omega), Nat.add_sub_cancel_left]
  · rw [cel, if_neg (by omega), if_neg (by omega), if_neg (by omega), if_neg (by omega), if_pos (by omega), Nat.add_sub_cancel_left]
theorem celB {G : GG} {k : Nat} (hk : isBk k) (w : Nat → Int32) : cel G k w = .inr (0, fsB G k w) := by
  obtain ⟨p, b, hp, hb, rfl⟩ := hk
  rw [Nat.add_assoc p 2, cel_in hp (by omega), celP, if_neg (by omega), if_neg (by omega), if_neg (by omega), if_neg (by omega), if_pos (by omega)]
theorem celBa {G : GG} {k c : Nat} (hk : isBk k) (hc : c < 5) (w : Nat → Int32) : cel G (k + (1 + c)) w = .inl (G.2.2.1.1, 10, .inl w) := by
  obtain ⟨p, b, hp, hb, rfl⟩ := hk
  rw [show p + 2 + 7 * b + (1 + c) = p + (2 + 7 * b + (1 + c)) by omega, cel_in hp (by omega), celP, if_neg (by omega), if_neg (by omega), if_neg (by omega), if_neg (by omega), if_neg (by omega), if_neg (by omega)]
theorem celBt {G : GG} {k : Nat} (hk : isBk k) (w : Nat → Int32) : cel G (k + 6) w = .inl (G.2.2.1.1, 3, .inl w) := by
  obtain ⟨p, b, hp, hb, rfl⟩ := hk
  rw [show p + 2 + 7 * b + 6 = p + (2 + 7 * b + 6) by omega, cel_in hp (by omega), celP, if_neg (by omega), if_neg (by omega), if_neg (by omega), if_neg (by omega), if_neg (by omega), if_pos (by omega)]
theorem celPo {G : GG} {p : Nat} (hp : isPr p) (w : Nat → Int32) : cel G p w = .inr (2, fsP G p w) := by
  have := cel_in (G := G) (o := 0) (w := w) hp (by omega)
  rw [Nat.add_zero] at this
  rw [this, celP, if_pos rfl]
theorem celPb {G : GG} {p : Nat} (hp : isPr p) (w : Nat → Int32) : cel G (p + 1) w = .inl (G.2.2.1.2.2.1, 12, .inr (.inr (.inr (.inr (fun b => some (G.1 (p + 2 + 7 * b))))))) := by
  rw [cel_in hp (by omega), celP, if_neg (by omega), if_pos rfl]
theorem celPi {G : GG} {p : Nat} (hp : isPr p) (w : Nat → Int32) : cel G (p + 86) w = .inl (G.2.2.1.1, 8, .inl w) := by
  rw [cel_in hp (by omega), celP, if_neg (by omega), if_neg (by omega), if_pos rfl]
theorem celPs {G : GG} {p : Nat} (hp : isPr p) (w : Nat → Int32) : cel G (p + 87) w = .inl (G.2.2.1.1, 12, .inl w) := by
  rw [cel_in hp (by omega), celP, if_neg (by omega), if_neg (by omega), if_neg (by omega), if_pos rfl]
theorem isPr_lt {p : Nat} (hp : isPr p) : p + 87 < 266 := by rcases hp with rfl | rfl | rfl <;> omega
theorem isBk_lt {k : Nat} (hk : isBk k) : k + 6 < 276 := by
  obtain ⟨p, b, hp, hb, rfl⟩ := hk
  have := isPr_lt hp
  omega
theorem isBk_of {p b : Nat} (hp : isPr p) (hb : b < 12) : isBk (p + 2 + 7 * b) := ⟨p, b, hp, hb, rfl⟩
theorem isPr_1 : isPr 1 := Or.inl rfl
theorem isPr_s {i : Nat} (h : i < 2) : isPr (90 + 88 * i) := by
  have : i = 0 ∨ i = 1 := by omega
  rcases this with rfl | rfl
  · exact Or.inr (Or.inl rfl)
  · exact Or.inr (Or.inr rfl)
/-- an int array of n places, a boolean one, an object of a class -/
def iA (k n : Nat) : Prop := (k < 276 ∧ n < 2000) ∧ ∀ (G : GG) (w : Nat → Int32), cel G k w = .inl (G.2.2.1.1, n, .inl w)
def zA (k n : Nat) : Prop := (k < 276 ∧ n < 2000) ∧ ∀ (G : GG) (w : Nat → Int32), cel G k w = .inl (G.2.2.1.2.1, n, .inl w)
def Ob (ci k : Nat) : Prop := k < 276 ∧ ∀ (G : GG) (w : Nat → Int32), ∃ fs, cel G k w = .inr (ci, fs)
theorem iA_b1 {k : Nat} (h : isBk k) : iA (k + 1) 10 := ⟨⟨by have := isBk_lt h; omega, by omega⟩, fun G w => celBa (c := 0) h (by omega) w⟩
theorem iA_b2 {k : Nat} (h : isBk k) : iA (k + 2) 10 := ⟨⟨by have := isBk_lt h; omega, by omega⟩, fun G w => celBa (c := 1) h (by omega) w⟩
theorem iA_b3 {k : Nat} (h : isBk k) : iA (k + 3) 10 := ⟨⟨by have := isBk_lt h; omega, by omega⟩, fun G w => celBa (c := 2) h (by omega) w⟩
theorem iA_b4 {k : Nat} (h : isBk k) : iA (k + 4) 10 := ⟨⟨by have := isBk_lt h; omega, by omega⟩, fun G w => celBa (c := 3) h (by omega) w⟩
theorem iA_b5 {k : Nat} (h : isBk k) : iA (k + 5) 10 := ⟨⟨by have := isBk_lt h; omega, by omega⟩, fun G w => celBa (c := 4) h (by omega) w⟩
theorem iA_b6 {k : Nat} (h : isBk k) : iA (k + 6) 3 := ⟨⟨by have := isBk_lt h; omega, by omega⟩, fun G w => celBt h w⟩
theorem iA_p86 {p : Nat} (h : isPr p) : iA (p + 86) 8 := ⟨⟨by have := isPr_lt h; omega, by omega⟩, fun G w => celPi h w⟩
theorem iA_p87 {p : Nat} (h : isPr p) : iA (p + 87) 12 := ⟨⟨by have := isPr_lt h; omega, by omega⟩, fun G w => celPs h w⟩
theorem iA_268 : iA 268 8 := ⟨⟨by omega, by omega⟩, fun G w => rfl⟩
theorem iA_269 : iA 269 1000 := ⟨⟨by omega, by omega⟩, fun G w => rfl⟩
theorem iA_271 : iA 271 670 := ⟨⟨by omega, by omega⟩, fun G w => rfl⟩
theorem iA_272 : iA 272 1340 := ⟨⟨by omega, by omega⟩, fun G w => rfl⟩
theorem iA_274 : iA 274 8 := ⟨⟨by omega, by omega⟩, fun G w => rfl⟩
theorem iA_275 : iA 275 1000 := ⟨⟨by omega, by omega⟩, fun G w => rfl⟩
theorem zA_266 : zA 266 2 := ⟨⟨by omega, by omega⟩, fun G w => rfl⟩
theorem zA_273 : zA 273 2 := ⟨⟨by omega, by omega⟩, fun G w => rfl⟩
theorem ob_b {k : Nat} (h : isBk k) : Ob 0 k := ⟨by have := isBk_lt h; omega, fun G w => ⟨_, celB h w⟩⟩
theorem ob_p {p : Nat} (h : isPr p) : Ob 2 p := ⟨by have := isPr_lt h; omega, fun G w => ⟨_, celPo h w⟩⟩
theorem ob_0 : Ob 3 0 := ⟨by omega, fun G w => ⟨_, rfl⟩⟩
theorem ob_267 : Ob 1 267 := ⟨by omega, fun G w => ⟨_, rfl⟩⟩
theorem ob_270 : Ob 4 270 := ⟨by omega, fun G w => ⟨_, rfl⟩⟩
/-! the words on private members of nest mates, as tables_1 has them -/
def nestF : List (String × Nat × String × String × String × String) := [(RX1, 65, RX0, "opcodes", "[I", "TailMerger"), (RX3, 69, RX0, "opcodes", "[I", "TailMerger"), (RX1, 56, RX0, "destinations", "[I", "TailMerger"), (RX3, 73, RX0, "destinations", "[I", "TailMerger"), (RX1, 59, RX0, "operandsA", "[I", "TailMerger"), (RX3, 76, RX0, "operandsA", "[I", "TailMerger"), (RX1, 62, RX0, "operandsB", "[I", "TailMerger"), (RX3, 79, RX0, "operandsB", "[I", "TailMerger"), (RX3, 82, RX0, "lineSets", "[I", "TailMerger"), (RX1, 37, RX0, "count", "I", "TailMerger"), (RX2, 45, RX0, "count", "I", "TailMerger"), (RX3, 64, RX0, "count", "I", "TailMerger"), (RX1, 46, RX0, "kind", "I", "TailMerger"), (RX2, 50, RX0, "kind", "I", "TailMerger"), (RX3, 85, RX0, "kind", "I", "TailMerger"), (RX1, 53, RX0, "terminatorOperands", "[I", "TailMerger"), (RX3, 88, RX0, "terminatorOperands", "[I", "TailMerger"), (RX1, 33, RX2, "blocks", "[LTailMerger$Block;", "TailMerger"), (RX3, 43, RX2, "blocks", "[LTailMerger$Block;", "TailMerger"), (RX3, 60, RX2, "count", "I", "TailMerger"), (RX3, 105, RX2, "jumpCost", "I", "TailMerger"), (RX1, 22, RX2, "initialValues", "[I", "TailMerger"), (RX3, 141, RX2, "initialValues", "[I", "TailMerger"), (RX3, 154, RX1, "values", "[I", "TailMerger"), (RX3, 151, RX1, "emitted", "[I", "TailMerger"), (RX3, 148, RX1, "emittedCount", "I", "TailMerger")]
def nestM : List (String × Nat × MethodName × String) := [(RX3, 9, yX2_init, "TailMerger"), (RX2, 17, yX0_init, "TailMerger"), (RX3, 26, yX1_init, "TailMerger"), (RX3, 31, yX2_appendBlock, "TailMerger"), (RX2, 32, yX0_clear, "TailMerger"), (RX3, 35, yX2_has, "TailMerger"), (RX3, 47, yX0_append, "TailMerger"), (RX3, 56, yX0_terminate, "TailMerger"), (RX3, 91, yX0_hashOfTail, "TailMerger"), (RX3, 98, yX0_tailSharedWith, "TailMerger"), (RX3, 102, yX0_parameterTailWith, "TailMerger"), (RX3, 108, yX2_size, "TailMerger"), (RX3, 122, yX2_tailOfSet, "TailMerger"), (RX2, 57, yX0_tailSharedWith, "TailMerger"), (RX3, 114, yX2_savingOfSet, "TailMerger"), (RX3, 125, yX2_bestSet, "TailMerger"), (RX3, 128, yX2_mergeSet, "TailMerger"), (RX2, 87, yX0_uniteLines, "TailMerger"), (RX2, 91, yX0_appendTail, "TailMerger"), (RX2, 94, yX0_replaceTailByJump, "TailMerger"), (RX3, 134, yX2_savingWithParameter, "TailMerger"), (RX3, 137, yX2_mergePair, "TailMerger"), (RX2, 98, yX0_isEqualAt, "TailMerger"), (RX2, 102, yX0_takeParameterAt, "TailMerger"), (RX2, 105, yX0_replaceTailByParameter, "TailMerger"), (RX3, 144, yX1_execute, "TailMerger"), (RX3, 157, yX2_copyFrom, "TailMerger"), (RX2, 35, yX0_copyFrom, "TailMerger")]
/-! locals as a list: known values of one slot each -/
def gl : List (Option Value) → Nat → Option Value
  | [], _ => none
  | a :: _, 0 => a
  | _ :: l, n + 1 => gl l n
def sl : List (Option Value) → Nat → Value → List (Option Value)
  | [], _, _ => []
  | _ :: l, 0, x => some x :: l
  | a :: l, n + 1, x => a :: sl l n x
theorem sl_len (L : List (Option Value)) : ∀ (i : Nat) (x : Value), (sl L i x).length = L.length := by
  induction L with
  | nil => intro i x; rfl
  | cons a l ih =>
    intro i x
    cases i with
    | zero => rfl
    | succ i => simp [sl, ih]
theorem gl_lt (L : List (Option Value)) : ∀ (j : Nat) (y : Value), gl L j = some y → j < L.length := by
  induction L with
  | nil => intro j y h; cases h
  | cons a l ih =>
    intro j y h
    cases j with
    | zero => simp
    | succ j => have := ih j y h; simp; omega
theorem gl_sl (L : List (Option Value)) : ∀ (i j : Nat) (x y : Value), gl (sl L i x) j = some y → (j = i ∧ y = x) ∨ (j ≠ i ∧ gl L j = some y) := by
  induction L with
  | nil => intro i j x y h; cases h
  | cons a l ih =>
    intro i j x y h
    cases i with
    | zero =>
      cases j with
      | zero => exact Or.inl ⟨rfl, (Option.some.inj h).symm⟩
      | succ j => exact Or.inr ⟨by omega, h⟩
    | succ i =>
      cases j with
      | zero => exact Or.inr ⟨by omega, h⟩
      | succ j =>
        rcases ih i j x y h with ⟨h1, h2⟩ | ⟨h1, h2⟩
        · exact Or.inl ⟨by omega, h2⟩
        · exact Or.inr ⟨by omega, h2⟩
def lk_l (L : List (Option Value)) : List (Nat × Value) := (List.range L.length).filterMap (fun j => (gl L j).map (fun x => (j, x)))
theorem lk_mem {L : List (Option Value)} {j : Nat} {x : Value} : (j, x) ∈ lk_l L ↔ gl L j = some x := by
  unfold lk_l
  rw [List.mem_filterMap]
  constructor
  · rintro ⟨i, -, hi⟩
    cases hg : gl L i with
    | none => rw [hg] at hi; cases hi
    | some y =>
      rw [hg] at hi
      have := Option.some.inj hi
      have h1 : i = j := congrArg Prod.fst this
      have h2 : y = x := congrArg Prod.snd this
      rw [← h1, ← h2]
      exact hg
  · intro h
    exact ⟨j, List.mem_range.mpr (gl_lt L j x h), by rw [h]; rfl⟩
def lk_ok (ls : Array Slot) (L : List (Option Value)) : Prop := ls.size = L.length ∧ lv_wf ls ∧ ∀ (i : Nat) (x : Value), gl L i = some x → ls[i]? = some (.val x) ∧ x.category = 1
theorem lk_to {ls : Array Slot} {L : List (Option Value)} (h : lk_ok ls L) : lv_has ls L.length (lk_l L) :=
  ⟨h.1, h.2.1, fun q hq => (h.2.2 q.1 q.2 (lk_mem.mp hq)).1⟩
theorem lk_st {ls ls' : Array Slot} {L : List (Option Value)} {i : Nat} {v : Value} (h : lk_ok ls L) (hc : v.category = 1) (h' : lv_has ls' L.length ((i, v) :: (lk_l L).filter (fun q => !(q.1 == i) && !(q.1 + 1 == i && q.2.category == 2)))) : lk_ok ls' (sl L i v) := by
  refine ⟨by rw [sl_len]; exact h'.1, h'.2.1, fun j x hx => ?_⟩
  rcases gl_sl L i j v x hx with ⟨h1, h2⟩ | ⟨h1, h2⟩
  · subst h1; subst h2
    exact ⟨h'.2.2 (j, x) List.mem_cons_self, hc⟩
  · have hcx := (h.2.2 j x h2).2
    refine ⟨h'.2.2 (j, x) (List.mem_cons_of_mem _ (List.mem_filter.mpr ⟨lk_mem.mpr h2, ?_⟩)), hcx⟩
    simp [h1, hcx]
/-! nest words -/
def NW (U : State) : Prop := (∀ q ∈ nestF, va_Nw (.fieldLinkNest q.1 q.2.1 q.2.2.1 q.2.2.2.1 q.2.2.2.2.1 q.2.2.2.2.2) U) ∧ ∀ q ∈ nestM, va_Nw (.methodLinkNest q.1 q.2.1 q.2.2.1 q.2.2.2) U
theorem NW.warm {s U : State} (hW : s.WarmedH U.vm) (h : NW s) : NW U := ⟨fun q hq => (h.1 q hq).warmF hW, fun q hq => (h.2 q hq).warmM hW⟩
theorem NW.same {s U : State} (hv : s.vm = U.vm) (h : NW s) : NW U := ⟨fun q hq => (h.1 q hq).same rfl hv, fun q hq => (h.2 q hq).same rfl hv⟩
/-! the judgement over the layout -/
def Wv (E : TE) (G : GG) (v : VV) (pc : Nat) (L : List (Option Value)) (st : List Value) : Prop :=
  match E with
  | (p, l, e, R, s, m, args, below, meth, c, cells, slots, Q) => ∀ (H : Heap) (locs : List Loc) (ls : Array Slot), va_P G.2.1 vwCl (wl G v) H → va_S G.2.2.2 s.heap H locs → lk_ok ls L → W p l e R s m args below meth c H locs cells slots Q (F0 m pc ls st)
def Cx (E : TE) (G : GG) (cc : ByteArray) (own : String) (nL : Nat) (Ts : List Cond) (fr lo : Nat) : Prop :=
  match E with
  | (p, _, _, R, s, m, args, _, _, c, cells, slots, _) => p.tables.exec = Jvm.exec ∧ c.code = cc ∧ c.maxLocals = nL ∧ s.vm.findClass own = some m.cls ∧ (∀ w ∈ Ts, w.before args s = true) ∧ va_K G.2.1 vwCl (tysG G) s ∧ Gok G ∧ NW s ∧ cells ≤ R.cells ∧ slots ≤ R.slots ∧ R.frames = fr ∧ R.locals = lo
/-- a word that holds at the method's start -/
def Wo (E : TE) (w : Cond) : Prop :=
  match E with
  | (_, _, _, _, s, _, args, _, _, _, _, _, _) => w.before args s = true
def lnk (E : TE) (own : String) (idx : Nat) (q : String × String × String × Bool) : Prop := Wo E (.fieldLink own idx q.1 q.2.1 q.2.2.1) ∨ ∃ host, Wo E (.fieldLinkNest own idx q.1 q.2.1 q.2.2.1 host)
section RW
variable {E : TE} {G : GG} {v : VV} {pc q t : Nat} {L L' : List (Option Value)} {st : List Value} {cc : ByteArray} {own : String} {nL fr lo : Nat} {Ts : List Cond}
theorem Cx.wo (hC : Cx E G cc own nL Ts fr lo) (w : Cond) (hw : w ∈ Ts) : Wo E w := by
  obtain ⟨p, l, e, R, s, m, args, below, meth, c, cells, slots, Q⟩ := E
  exact hC.2.2.2.2.1 w hw
theorem Cx.nf (hC : Cx E G cc own nL Ts fr lo) (i : Nat) {a b n d h : String} {k : Nat} {f : Bool} (hq : nestF[i]? = some (a, k, b, n, d, h)) : lnk E a k (b, n, d, f) := by
  obtain ⟨p, l, e, R, s, m, args, below, meth, c, cells, slots, Q⟩ := E
  exact Or.inr ⟨h, va_Nw.use rfl (hC.2.2.2.2.2.2.2.1.1 _ (List.mem_of_getElem? hq))⟩
theorem Cx.fl (hC : Cx E G cc own nL Ts fr lo) {a b n d : String} {k : Nat} {f : Bool} (hw : Cond.fieldLink a k b n d ∈ Ts) : lnk E a k (b, n, d, f) := Or.inl (hC.wo _ hw)
theorem r_iconst (hC : Cx E G cc own nL Ts fr lo) {n : Int} {x : Int32} (hd : decode cc pc = .ok (.iconst n, 1)) (hx : Int32.ofInt n = x) (hq : pc + 1 = q) (kk : Wv E G v q L (.int x :: st)) : Wv E G v pc L st := by
  obtain ⟨p, l, e, R, s, m, args, below, meth, c, cells, slots, Q⟩ := E
  subst hq
  obtain ⟨h1, h2, -⟩ := hC
  intro H locs ls hP hS hl
  exact lv_iconst h1 h2 hd hx (kk H locs ls hP hS hl)
theorem r_bipush (hC : Cx E G cc own nL Ts fr lo) {n : Int} {x : Int32} (hd : decode cc pc = .ok (.bipush n, 2)) (hx : (Int8.ofInt n).toInt32 = x) (hq : pc + 2 = q) (kk : Wv E G v q L (.int x :: st)) : Wv E G v pc L st := by
  obtain ⟨p, l, e, R, s, m, args, below, meth, c, cells, slots, Q⟩ := E
  subst hq
  obtain ⟨h1, h2, -⟩ := hC
  intro H locs ls hP hS hl
  exact lv_bipush h1 h2 hd hx (kk H locs ls hP hS hl)
theorem r_sipush (hC : Cx E G cc own nL Ts fr lo) {n : Int} {x : Int32} (hd : decode cc pc = .ok (.sipush n, 3)) (hx : (Int16.ofInt n).toInt32 = x) (hq : pc + 3 = q) (kk : Wv E G v q L (.int x :: st)) : Wv E G v pc L st := by
  obtain ⟨p, l, e, R, s, m, args, below, meth, c, cells, slots, Q⟩ := E
  subst hq
  obtain ⟨h1, h2, -⟩ := hC
  intro H locs ls hP hS hl
  exact lv_sipush h1 h2 hd hx (kk H locs ls hP hS hl)
theorem r_ldc (hC : Cx E G cc own nL Ts fr lo) {i : Nat} {x : Int32} (hw : Cond.constant own i x ∈ Ts) (hd : decode cc pc = .ok (.ldc i, 2)) (hq : pc + 2 = q) (kk : Wv E G v q L (.int x :: st)) : Wv E G v pc L st := by
  obtain ⟨p, l, e, R, s, m, args, below, meth, c, cells, slots, Q⟩ := E
  subst hq
  obtain ⟨h1, h2, -, h4, h5, -⟩ := hC
  intro H locs ls hP hS hl
  exact lv_ldc h1 h2 h4 (h5 _ hw) hd (kk H locs ls hP hS hl)
theorem r_ldcw (hC : Cx E G cc own nL Ts fr lo) {i : Nat} {x : Int32} (hw : Cond.constant own i x ∈ Ts) (hd : decode cc pc = .ok (.ldc_w i, 3)) (hq : pc + 3 = q) (kk : Wv E G v q L (.int x :: st)) : Wv E G v pc L st := by
  obtain ⟨p, l, e, R, s, m, args, below, meth, c, cells, slots, Q⟩ := E
  subst hq
  obtain ⟨h1, h2, -, h4, h5, -⟩ := hC
  intro H locs ls hP hS hl
  exact lv_ldcw h1 h2 h4 (h5 _ hw) hd (kk H locs ls hP hS hl)
theorem r_iload_n (hC : Cx E G cc own nL Ts fr lo) {k : Fin 4} {x : Int32} (hd : decode cc pc = .ok (.iload_n k, 1)) (hx : gl L k = some (.int x)) (hq : pc + 1 = q) (kk : Wv E G v q L (.int x :: st)) : Wv E G v pc L st := by
  obtain ⟨p, l, e, R, s, m, args, below, meth, c, cells, slots, Q⟩ := E
  subst hq
  obtain ⟨h1, h2, -⟩ := hC
  intro H locs ls hP hS hl
  exact lv_iload_n h1 h2 hd rfl (hl.2.2 _ _ hx).1 (kk H locs ls hP hS hl)
theorem r_iload (hC : Cx E G cc own nL Ts fr lo) {k : Nat} {x : Int32} (hd : decode cc pc = .ok (.iload k, 2)) (hx : gl L k = some (.int x)) (hq : pc + 2 = q) (kk : Wv E G v q L (.int x :: st)) : Wv E G v pc L st := by
  obtain ⟨p, l, e, R, s, m, args, below, meth, c, cells, slots, Q⟩ := E
  subst hq
  obtain ⟨h1, h2, -⟩ := hC
  intro H locs ls hP hS hl
  exact lv_iload h1 h2 hd (hl.2.2 _ _ hx).1 (kk H locs ls hP hS hl)
theorem r_aload_n (hC : Cx E G cc own nL Ts fr lo) {k : Fin 4} {x : Nat} (hd : decode cc pc = .ok (.aload_n k, 1)) (hx : gl L k = some (.ref x)) (hq : pc + 1 = q) (kk : Wv E G v q L (.ref x :: st)) : Wv E G v pc L st := by
  obtain ⟨p, l, e, R, s, m, args, below, meth, c, cells, slots, Q⟩ := E
  subst hq
  obtain ⟨h1, h2, -⟩ := hC
  intro H locs ls hP hS hl
  exact lv_aload_n h1 h2 hd rfl (hl.2.2 _ _ hx).1 (kk H locs ls hP hS hl)
theorem r_istore_n (hC : Cx E G cc own nL Ts fr lo) {k : Fin 4} {x : Int32} (hd : decode cc pc = .ok (.istore_n k, 1)) (hk : (k : Nat) < L.length) (hL : sl L k (.int x) = L') (hq : pc + 1 = q) (kk : Wv E G v q L' st) : Wv E G v pc L (.int x :: st) := by
  obtain ⟨p, l, e, R, s, m, args, below, meth, c, cells, slots, Q⟩ := E
  subst hq; subst hL
  obtain ⟨h1, h2, -⟩ := hC
  intro H locs ls hP hS hl
  exact lv_istore_n h1 h2 hd rfl (lk_to hl) hk rfl (fun ls' h' => kk H locs ls' hP hS (lk_st hl rfl h'))
theorem r_istore (hC : Cx E G cc own nL Ts fr lo) {k : Nat} {x : Int32} (hd : decode cc pc = .ok (.istore k, 2)) (hk : k < L.length) (hL : sl L k (.int x) = L') (hq : pc + 2 = q) (kk : Wv E G v q L' st) : Wv E G v pc L (.int x :: st) := by
  obtain ⟨p, l, e, R, s, m, args, below, meth, c, cells, slots, Q⟩ := E
  subst hq; subst hL
  obtain ⟨h1, h2, -⟩ := hC
  intro H locs ls hP hS hl
  exact lv_istore h1 h2 hd (lk_to hl) hk rfl (fun ls' h' => kk H locs ls' hP hS (lk_st hl rfl h'))
theorem r_astore_n (hC : Cx E G cc own nL Ts fr lo) {k : Fin 4} {x : Nat} (hd : decode cc pc = .ok (.astore_n k, 1)) (hk : (k : Nat) < L.length) (hL : sl L k (.ref x) = L') (hq : pc + 1 = q) (kk : Wv E G v q L' st) : Wv E G v pc L (.ref x :: st) := by
  obtain ⟨p, l, e, R, s, m, args, below, meth, c, cells, slots, Q⟩ := E
  subst hq; subst hL
  obtain ⟨h1, h2, -⟩ := hC
  intro H locs ls hP hS hl
  exact lv_astore_n h1 h2 hd rfl (lk_to hl) hk rfl (fun ls' h' => kk H locs ls' hP hS (lk_st hl rfl h'))
theorem r_iinc (hC : Cx E G cc own nL Ts fr lo) {k : Nat} {n : Int} {x y : Int32} (hd : decode cc pc = .ok (.iinc k n, 3)) (hx : gl L k = some (.int x)) (hy : x + Int32.ofInt n = y) (hL : sl L k (.int y) = L') (hq : pc + 3 = q) (kk : Wv E G v q L' st) : Wv E G v pc L st := by
  obtain ⟨p, l, e, R, s, m, args, below, meth, c, cells, slots, Q⟩ := E
  subst hq; subst hL
  obtain ⟨h1, h2, -⟩ := hC
  intro H locs ls hP hS hl
  obtain ⟨i, hi⟩ := List.getElem?_of_mem (lk_mem.mpr hx)
  exact lv_iinc h1 h2 hd (lk_to hl) hi hy (gl_lt _ _ _ hx) rfl (fun ls' h' => kk H locs ls' hP hS (lk_st hl rfl h'))
theorem r_iadd (hC : Cx E G cc own nL Ts fr lo) {x y : Int32} (hd : decode cc pc = .ok (.iadd, 1)) (hq : pc + 1 = q) (kk : Wv E G v q L (.int (x + y) :: st)) : Wv E G v pc L (.int y :: .int x :: st) := by
  obtain ⟨p, l, e, R, s, m, args, below, meth, c, cells, slots, Q⟩ := E
  subst hq
  obtain ⟨h1, h2, -⟩ := hC
  intro H locs ls hP hS hl
  exact lv_iadd h1 h2 hd (kk H locs ls hP hS hl)
theorem r_isub (hC : Cx E G cc own nL Ts fr lo) {x y : Int32} (hd : decode cc pc = .ok (.isub, 1)) (hq : pc + 1 = q) (kk : Wv E G v q L (.int (x - y) :: st)) : Wv E G v pc L (.int y :: .int x :: st) := by
  obtain ⟨p, l, e, R, s, m, args, below, meth, c, cells, slots, Q⟩ := E
  subst hq
  obtain ⟨h1, h2, -⟩ := hC
  intro H locs ls hP hS hl
  exact lv_isub h1 h2 hd (kk H locs ls hP hS hl)
theorem r_imul (hC : Cx E G cc own nL Ts fr lo) {x y : Int32} (hd : decode cc pc = .ok (.imul, 1)) (hq : pc + 1 = q) (kk : Wv E G v q L (.int (x * y) :: st)) : Wv E G v pc L (.int y :: .int x :: st) := by
  obtain ⟨p, l, e, R, s, m, args, below, meth, c, cells, slots, Q⟩ := E
  subst hq
  obtain ⟨h1, h2, -⟩ := hC
  intro H locs ls hP hS hl
  exact lv_imul h1 h2 hd (kk H locs ls hP hS hl)
theorem r_iand (hC : Cx E G cc own nL Ts fr lo) {x y : Int32} (hd : decode cc pc = .ok (.iand, 1)) (hq : pc + 1 = q) (kk : Wv E G v q L (.int (x &&& y) :: st)) : Wv E G v pc L (.int y :: .int x :: st) := by
  obtain ⟨p, l, e, R, s, m, args, below, meth, c, cells, slots, Q⟩ := E
  subst hq
  obtain ⟨h1, h2, -⟩ := hC
  intro H locs ls hP hS hl
  exact lv_iand h1 h2 hd (kk H locs ls hP hS hl)
theorem r_ior (hC : Cx E G cc own nL Ts fr lo) {x y : Int32} (hd : decode cc pc = .ok (.ior, 1)) (hq : pc + 1 = q) (kk : Wv E G v q L (.int (x ||| y) :: st)) : Wv E G v pc L (.int y :: .int x :: st) := by
  obtain ⟨p, l, e, R, s, m, args, below, meth, c, cells, slots, Q⟩ := E
  subst hq
  obtain ⟨h1, h2, -⟩ := hC
  intro H locs ls hP hS hl
  exact lv_ior h1 h2 hd (kk H locs ls hP hS hl)
theorem r_ishl (hC : Cx E G cc own nL Ts fr lo) {x y : Int32} (hd : decode cc pc = .ok (.ishl, 1)) (hq : pc + 1 = q) (kk : Wv E G v q L (.int (x <<< (y &&& 31)) :: st)) : Wv E G v pc L (.int y :: .int x :: st) := by
  obtain ⟨p, l, e, R, s, m, args, below, meth, c, cells, slots, Q⟩ := E
  subst hq
  obtain ⟨h1, h2, -⟩ := hC
  intro H locs ls hP hS hl
  exact lv_ishl h1 h2 hd (kk H locs ls hP hS hl)
theorem r_ishr (hC : Cx E G cc own nL Ts fr lo) {x y : Int32} (hd : decode cc pc = .ok (.ishr, 1)) (hq : pc + 1 = q) (kk : Wv E G v q L (.int (x >>> (y &&& 31)) :: st)) : Wv E G v pc L (.int y :: .int x :: st) := by
  obtain ⟨p, l, e, R, s, m, args, below, meth, c, cells, slots, Q⟩ := E
  subst hq
  obtain ⟨h1, h2, -⟩ := hC
  intro H locs ls hP hS hl
  exact lv_ishr h1 h2 hd (kk H locs ls hP hS hl)
theorem r_iushr (hC : Cx E G cc own nL Ts fr lo) {x y : Int32} (hd : decode cc pc = .ok (.iushr, 1)) (hq : pc + 1 = q) (kk : Wv E G v q L (.int (x.toUInt32 >>> (y.toUInt32 &&& Int32.toUInt32 31)).toInt32 :: st)) : Wv E G v pc L (.int y :: .int x :: st) := by
  obtain ⟨p, l, e, R, s, m, args, below, meth, c, cells, slots, Q⟩ := E
  subst hq
  obtain ⟨h1, h2, -⟩ := hC
  intro H locs ls hP hS hl
  exact lv_iushr h1 h2 hd rfl (kk H locs ls hP hS hl)
theorem r_dup (hC : Cx E G cc own nL Ts fr lo) {x : Value} (hx : x.category = 1) (hd : decode cc pc = .ok (.dup, 1)) (hq : pc + 1 = q) (kk : Wv E G v q L (x :: x :: st)) : Wv E G v pc L (x :: st) := by
  obtain ⟨p, l, e, R, s, m, args, below, meth, c, cells, slots, Q⟩ := E
  subst hq
  obtain ⟨h1, h2, -⟩ := hC
  intro H locs ls hP hS hl
  exact lv_dup h1 h2 hd hx (kk H locs ls hP hS hl)
theorem r_dup2 (hC : Cx E G cc own nL Ts fr lo) {x y : Value} (hx : x.category = 1) (hy : y.category = 1) (hd : decode cc pc = .ok (.dup2, 1)) (hq : pc + 1 = q) (kk : Wv E G v q L (x :: y :: x :: y :: st)) : Wv E G v pc L (x :: y :: st) := by
  obtain ⟨p, l, e, R, s, m, args, below, meth, c, cells, slots, Q⟩ := E
  subst hq
  obtain ⟨h1, h2, -⟩ := hC
  intro H locs ls hP hS hl
  exact lv_dup2_11 h1 h2 hd hx hy (kk H locs ls hP hS hl)
theorem r_pop (hC : Cx E G cc own nL Ts fr lo) {x : Value} (hx : x.category = 1) (hd : decode cc pc = .ok (.pop, 1)) (hq : pc + 1 = q) (kk : Wv E G v q L st) : Wv E G v pc L (x :: st) := by
  obtain ⟨p, l, e, R, s, m, args, below, meth, c, cells, slots, Q⟩ := E
  subst hq
  obtain ⟨h1, h2, -⟩ := hC
  intro H locs ls hP hS hl
  exact lv_pop h1 h2 hd hx (kk H locs ls hP hS hl)
theorem r_if_eq (hC : Cx E G cc own nL Ts fr lo) {x : Int32} {off : Int} (hd : decode cc pc = .ok (.ifCond .eq off, 3)) (ht : (pc : Int) + off = (t : Int)) (hq : pc + 3 = q) (kt : x = 0 → Wv E G v t L st) (kf : ¬ x = 0 → Wv E G v q L st) : Wv E G v pc L (.int x :: st) := by
  obtain ⟨p, l, e, R, s, m, args, below, meth, c, cells, slots, Q⟩ := E
  subst hq
  obtain ⟨h1, h2, -⟩ := hC
  intro H locs ls hP hS hl
  exact lv_if_eq h1 h2 hd ht (fun h => kt h H locs ls hP hS hl) (fun h => kf h H locs ls hP hS hl)
theorem r_icmp_eq (hC : Cx E G cc own nL Ts fr lo) {x y : Int32} {off : Int} (hd : decode cc pc = .ok (.if_icmp .eq off, 3)) (ht : (pc : Int) + off = (t : Int)) (hq : pc + 3 = q) (kt : x = y → Wv E G v t L st) (kf : ¬ x = y → Wv E G v q L st) : Wv E G v pc L (.int y :: .int x :: st) := by
  obtain ⟨p, l, e, R, s, m, args, below, meth, c, cells, slots, Q⟩ := E
  subst hq
  obtain ⟨h1, h2, -⟩ := hC
  intro H locs ls hP hS hl
  exact lv_icmp_eq h1 h2 hd ht (fun h => kt h H locs ls hP hS hl) (fun h => kf h H locs ls hP hS hl)
theorem r_if_ne (hC : Cx E G cc own nL Ts fr lo) {x : Int32} {off : Int} (hd : decode cc pc = .ok (.ifCond .ne off, 3)) (ht : (pc : Int) + off = (t : Int)) (hq : pc + 3 = q) (kt : ¬ x = 0 → Wv E G v t L st) (kf : x = 0 → Wv E G v q L st) : Wv E G v pc L (.int x :: st) := by
  obtain ⟨p, l, e, R, s, m, args, below, meth, c, cells, slots, Q⟩ := E
  subst hq
  obtain ⟨h1, h2, -⟩ := hC
  intro H locs ls hP hS hl
  exact lv_if_ne h1 h2 hd ht (fun h => kt h H locs ls hP hS hl) (fun h => kf h H locs ls hP hS hl)
theorem r_icmp_ne (hC : Cx E G cc own nL Ts fr lo) {x y : Int32} {off : Int} (hd : decode cc pc = .ok (.if_icmp .ne off, 3)) (ht : (pc : Int) + off = (t : Int)) (hq : pc + 3 = q) (kt : ¬ x = y → Wv E G v t L st) (kf : x = y → Wv E G v q L st) : Wv E G v pc L (.int y :: .int x :: st) := by
  obtain ⟨p, l, e, R, s, m, args, below, meth, c, cells, slots, Q⟩ := E
  subst hq
  obtain ⟨h1, h2, -⟩ := hC
  intro H locs ls hP hS hl
  exact lv_icmp_ne h1 h2 hd ht (fun h => kt h H locs ls hP hS hl) (fun h => kf h H locs ls hP hS hl)
theorem r_if_lt (hC : Cx E G cc own nL Ts fr lo) {x : Int32} {off : Int} (hd : decode cc pc = .ok (.ifCond .lt off, 3)) (ht : (pc : Int) + off = (t : Int)) (hq : pc + 3 = q) (kt : x < 0 → Wv E G v t L st) (kf : ¬ x < 0 → Wv E G v q L st) : Wv E G v pc L (.int x :: st) := by
  obtain ⟨p, l, e, R, s, m, args, below, meth, c, cells, slots, Q⟩ := E
  subst hq
  obtain ⟨h1, h2, -⟩ := hC
  intro H locs ls hP hS hl
  exact lv_if_lt h1 h2 hd ht (fun h => kt h H locs ls hP hS hl) (fun h => kf h H locs ls hP hS hl)
theorem r_icmp_lt (hC : Cx E G cc own nL Ts fr lo) {x y : Int32} {off : Int} (hd : decode cc pc = .ok (.if_icmp .lt off, 3)) (ht : (pc : Int) + off = (t : Int)) (hq : pc + 3 = q) (kt : x < y → Wv E G v t L st) (kf : ¬ x < y → Wv E G v q L st) : Wv E G v pc L (.int y :: .int x :: st) := by
  obtain ⟨p, l, e, R, s, m, args, below, meth, c, cells, slots, Q⟩ := E
  subst hq
  obtain ⟨h1, h2, -⟩ := hC
  intro H locs ls hP hS hl
  exact lv_icmp_lt h1 h2 hd ht (fun h => kt h H locs ls hP hS hl) (fun h => kf h H locs ls hP hS hl)
theorem r_if_ge (hC : Cx E G cc own nL Ts fr lo) {x : Int32} {off : Int} (hd : decode cc pc = .ok (.ifCond .ge off, 3)) (ht : (pc : Int) + off = (t : Int)) (hq : pc + 3 = q) (kt : 0 ≤ x → Wv E G v t L st) (kf : ¬ 0 ≤ x → Wv E G v q L st) : Wv E G v pc L (.int x :: st) := by
  obtain ⟨p, l, e, R, s, m, args, below, meth, c, cells, slots, Q⟩ := E
  subst hq
  obtain ⟨h1, h2, -⟩ := hC
  intro H locs ls hP hS hl
  exact lv_if_ge h1 h2 hd ht (fun h => kt h H locs ls hP hS hl) (fun h => kf h H locs ls hP hS hl)
theorem r_icmp_ge (hC : Cx E G cc own nL Ts fr lo) {x y : Int32} {off : Int} (hd : decode cc pc = .ok (.if_icmp .ge off, 3)) (ht : (pc : Int) + off = (t : Int)) (hq : pc + 3 = q) (kt : y ≤ x → Wv E G v t L st) (kf : ¬ y ≤ x → Wv E G v q L st) : Wv E G v pc L (.int y :: .int x :: st) := by
  obtain ⟨p, l, e, R, s, m, args, below, meth, c, cells, slots, Q⟩ := E
  subst hq
  obtain ⟨h1, h2, -⟩ := hC
  intro H locs ls hP hS hl
  exact lv_icmp_ge h1 h2 hd ht (fun h => kt h H locs ls hP hS hl) (fun h => kf h H locs ls hP hS hl)
theorem r_if_gt (hC : Cx E G cc own nL Ts fr lo) {x : Int32} {off : Int} (hd : decode cc pc = .ok (.ifCond .gt off, 3)) (ht : (pc : Int) + off = (t : Int)) (hq : pc + 3 = q) (kt : 0 < x → Wv E G v t L st) (kf : ¬ 0 < x → Wv E G v q L st) : Wv E G v pc L (.int x :: st) := by
  obtain ⟨p, l, e, R, s, m, args, below, meth, c, cells, slots, Q⟩ := E
  subst hq
  obtain ⟨h1, h2, -⟩ := hC
  intro H locs ls hP hS hl
  exact lv_if_gt h1 h2 hd ht (fun h => kt h H locs ls hP hS hl) (fun h => kf h H locs ls hP hS hl)
theorem r_icmp_gt (hC : Cx E G cc own nL Ts fr lo) {x y : Int32} {off : Int} (hd : decode cc pc = .ok (.if_icmp .gt off, 3)) (ht : (pc : Int) + off = (t : Int)) (hq : pc + 3 = q) (kt : y < x → Wv E G v t L st) (kf : ¬ y < x → Wv E G v q L st) : Wv E G v pc L (.int y :: .int x :: st) := by
  obtain ⟨p, l, e, R, s, m, args, below, meth, c, cells, slots, Q⟩ := E
  subst hq
  obtain ⟨h1, h2, -⟩ := hC
  intro H locs ls hP hS hl
  exact lv_icmp_gt h1 h2 hd ht (fun h => kt h H locs ls hP hS hl) (fun h => kf h H locs ls hP hS hl)
theorem r_if_le (hC : Cx E G cc own nL Ts fr lo) {x : Int32} {off : Int} (hd : decode cc pc = .ok (.ifCond .le off, 3)) (ht : (pc : Int) + off = (t : Int)) (hq : pc + 3 = q) (kt : x ≤ 0 → Wv E G v t L st) (kf : ¬ x ≤ 0 → Wv E G v q L st) : Wv E G v pc L (.int x :: st) := by
  obtain ⟨p, l, e, R, s, m, args, below, meth, c, cells, slots, Q⟩ := E
  subst hq
  obtain ⟨h1, h2, -⟩ := hC
  intro H locs ls hP hS hl
  exact lv_if_le h1 h2 hd ht (fun h => kt h H locs ls hP hS hl) (fun h => kf h H locs ls hP hS hl)
theorem r_icmp_le (hC : Cx E G cc own nL Ts fr lo) {x y : Int32} {off : Int} (hd : decode cc pc = .ok (.if_icmp .le off, 3)) (ht : (pc : Int) + off = (t : Int)) (hq : pc + 3 = q) (kt : x ≤ y → Wv E G v t L st) (kf : ¬ x ≤ y → Wv E G v q L st) : Wv E G v pc L (.int y :: .int x :: st) := by
  obtain ⟨p, l, e, R, s, m, args, below, meth, c, cells, slots, Q⟩ := E
  subst hq
  obtain ⟨h1, h2, -⟩ := hC
  intro H locs ls hP hS hl
  exact lv_icmp_le h1 h2 hd ht (fun h => kt h H locs ls hP hS hl) (fun h => kf h H locs ls hP hS hl)
theorem r_goto (hC : Cx E G cc own nL Ts fr lo) {off : Int} (hd : decode cc pc = .ok (.goto off, 3)) (ht : (pc : Int) + off = (t : Int)) (kk : Wv E G v t L st) : Wv E G v pc L st := by
  obtain ⟨p, l, e, R, s, m, args, below, meth, c, cells, slots, Q⟩ := E
  obtain ⟨h1, h2, -⟩ := hC
  intro H locs ls hP hS hl
  exact lv_goto h1 h2 hd ht (kk H locs ls hP hS hl)
theorem r_lookup (hC : Cx E G cc own nL Ts fr lo) {dflt off : Int} {ps : Array (Int × Int)} {len : Nat} {x : Int32} (hd : decode cc pc = .ok (.lookupswitch dflt ps, len)) (hp : (ps.toList.zip (ps.toList.drop 1)).all (fun (a, next) => a.1 < next.1) = true) (ho : Op.lookupswitch.offset ps.toList dflt x.toInt = off) (ht : (pc : Int) + off = (t : Int)) (kk : Wv E G v t L st) : Wv E G v pc L (.int x :: st) := by
  obtain ⟨p, l, e, R, s, m, args, below, meth, c, cells, slots, Q⟩ := E
  obtain ⟨h1, h2, -⟩ := hC
  intro H locs ls hP hS hl
  exact lv_lookup h1 h2 hd hp ho ht (kk H locs ls hP hS hl)
theorem r_tableOut (hC : Cx E G cc own nL Ts fr lo) {dflt lo1 hi1 : Int} {offs : Array Int} {len : Nat} {x : Int32} (hd : decode cc pc = .ok (.tableswitch dflt lo1 hi1 offs, len)) (h : x.toInt < lo1 ∨ hi1 < x.toInt) (ht : (pc : Int) + dflt = (t : Int)) (kk : Wv E G v t L st) : Wv E G v pc L (.int x :: st) := by
  obtain ⟨p, l, e, R, s, m, args, below, meth, c, cells, slots, Q⟩ := E
  obtain ⟨h1, h2, -⟩ := hC
  intro H locs ls hP hS hl
  exact lv_tableOut h1 h2 hd h ht (kk H locs ls hP hS hl)
theorem r_tableIn (hC : Cx E G cc own nL Ts fr lo) {dflt lo1 hi1 off : Int} {offs : Array Int} {len : Nat} {x : Int32} (hd : decode cc pc = .ok (.tableswitch dflt lo1 hi1 offs, len)) (g1 : ¬ x.toInt < lo1) (g2 : ¬ hi1 < x.toInt) (ho : offs[(x.toInt - lo1).toNat]? = some off) (ht : (pc : Int) + off = (t : Int)) (kk : Wv E G v t L st) : Wv E G v pc L (.int x :: st) := by
  obtain ⟨p, l, e, R, s, m, args, below, meth, c, cells, slots, Q⟩ := E
  obtain ⟨h1, h2, -⟩ := hC
  intro H locs ls hP hS hl
  exact lv_tableIn h1 h2 hd g1 g2 ho ht (kk H locs ls hP hS hl)
theorem r_get (hC : Cx E G cc own nL Ts fr lo) {k ci N idx : Nat} {C : String} {T : u_T} {fs : List Value} {x : Value} (j : Nat) (hk : k < 276) (hcel : cel G k (v k) = .inr (ci, fs)) (hcl : vwCl[ci]? = some (C, T, N)) (hj : j < N) (hin : ∀ w ∈ u_ws C T N, w ∈ Ts) (hl : lnk E own idx (T j)) (hx : fs[j]? = some x) (hd : decode cc pc = .ok (.getfield idx, 3)) (hq : pc + 3 = q) (kk : Wv E G v q L (x :: st)) : Wv E G v pc L (.ref (G.1 k) :: st) := by
  obtain ⟨p, l, e, R, s, m, args, below, meth, c, cells, slots, Q⟩ := E
  subst hq
  obtain ⟨h1, h2, h3, h4, h5, h6, -⟩ := hC
  intro H locs ls hP hS hls
  have he : (wl G v)[k]? = some (G.1 k, .inr (ci, fs)) := by rw [wl_get hk, hcel]
  rcases hl with hl | ⟨host, hl⟩
  · exact va_get (D := G.2.1) h1 h2 h5 hin h4 h6 hP k he hcl j hj hl (fun _ h9 => h9) hx hd (kk H locs ls hP hS hls)
  · exact va_getN (D := G.2.1) h1 h2 h5 hin h4 h6 hP k he hcl j hj hl (fun _ h9 => h9) hx hd (kk H locs ls hP hS hls)
theorem r_put (hC : Cx E G cc own nL Ts fr lo) {k ci N idx : Nat} {C : String} {T : u_T} {fs : List Value} {w' : Nat → Int32} {x : Int32} (j : Nat) (hk : k < 276) (hcel : cel G k (v k) = .inr (ci, fs)) (hcel' : cel G k w' = .inr (ci, fs.set j (.int x))) (hcl : vwCl[ci]? = some (C, T, N)) (hj : j < N) (hin : ∀ w ∈ u_ws C T N, w ∈ Ts) (ty : Nat → FieldType) (hty : ∀ k, k < N → parseFieldDescriptor (T k).2.2.1 = some (ty k)) (hnm : ∀ a, a < N → ∀ b, b < N → a ≠ b → (T a).2.1 ≠ (T b).2.1) (hfin : (T j).2.2.2 = false) (hpd : parseFieldDescriptor (T j).2.2.1 = some .int) (hlen : j < fs.length) (hl : lnk E own idx (T j)) (hd : decode cc pc = .ok (.putfield idx, 3)) (hq : pc + 3 = q) (kk : Wv E G (va_up v k w') q L st) : Wv E G v pc L (.int x :: .ref (G.1 k) :: st) := by
  obtain ⟨p, l, e, R, s, m, args, below, meth, c, cells, slots, Q⟩ := E
  subst hq
  obtain ⟨h1, h2, h3, h4, h5, h6, h7, -⟩ := hC
  intro H locs ls hP hS hls
  have he : (wl G v)[k]? = some (G.1 k, .inr (ci, fs)) := by rw [wl_get hk, hcel]
  have hset : (wl G v).set k (G.1 k, .inr (ci, fs.set j (.int x))) = wl G (va_up v k w') := wl_set hk hcel'
  rcases hl with hl | ⟨host, hl⟩
  · refine va_put (D := G.2.1) (ty := .int) h1 h2 h5 hin ty hty hnm h4 h6 hP (wl_D h7 v) hS k he hcl j hj hl (fun _ h9 => h9) hfin hpd rfl rfl hlen hd (fun H1 locs1 hP1 _ hS1 => ?_)
    rw [hset] at hP1
    exact kk H1 locs1 ls hP1 hS1 hls
  · refine va_putN (D := G.2.1) (ty := .int) h1 h2 h5 hin ty hty hnm h4 h6 hP (wl_D h7 v) hS k he hcl j hj hl (fun _ h9 => h9) hfin hpd rfl rfl hlen hd (fun H1 locs1 hP1 _ hS1 => ?_)
    rw [hset] at hP1
    exact kk H1 locs1 ls hP1 hS1 hls
/-! by class: X0 Block, X1 Machine, X2 Program, X3 TailMerger, X4 TailMergerModel -/
theorem g_X0 (hC : Cx E G cc own nL Ts fr lo) {k idx : Nat} {x : Value} (j : Nat) (hin : ∀ w ∈ wsX00, w ∈ Ts) (hl : lnk E own idx (TX0 j)) (hj : j < 8) (hd : decode cc pc = .ok (.getfield idx, 3)) (hk : isBk k) (hx : (fsB G k (v k))[j]? = some x) (hq : pc + 3 = q) (kk : Wv E G v q L (x :: st)) : Wv E G v pc L (.ref (G.1 k) :: st) := r_get hC j (ob_b hk).1 (celB hk _) rfl hj hin hl hx hd hq kk
theorem g_X2 (hC : Cx E G cc own nL Ts fr lo) {k idx : Nat} {x : Value} (j : Nat) (hin : ∀ w ∈ wsX20, w ∈ Ts) (hl : lnk E own idx (TX2 j)) (hj : j < 5) (hd : decode cc pc = .ok (.getfield idx, 3)) (hk : isPr k) (hx : (fsP G k (v k))[j]? = some x) (hq : pc + 3 = q) (kk : Wv E G v q L (x :: st)) : Wv E G v pc L (.ref (G.1 k) :: st) := r_get hC j (ob_p hk).1 (celPo hk _) rfl hj hin hl hx hd hq kk
theorem g_X1 (hC : Cx E G cc own nL Ts fr lo) {idx : Nat} {x : Value} (j : Nat) (hin : ∀ w ∈ wsX10, w ∈ Ts) (hl : lnk E own idx (TX1 j)) (hj : j < 3) (hd : decode cc pc = .ok (.getfield idx, 3)) (hx : (fsM G (v 267))[j]? = some x) (hq : pc + 3 = q) (kk : Wv E G v q L (x :: st)) : Wv E G v pc L (.ref (G.1 267) :: st) := r_get hC j ob_267.1 rfl rfl hj hin hl hx hd hq kk
theorem g_X3 (hC : Cx E G cc own nL Ts fr lo) {idx : Nat} {x : Value} (j : Nat) (hin : ∀ w ∈ wsX30, w ∈ Ts) (hl : lnk E own idx (TX3 j)) (hj : j < 4) (hd : decode cc pc = .ok (.getfield idx, 3)) (hx : (fsT G)[j]? = some x) (hq : pc + 3 = q) (kk : Wv E G v q L (x :: st)) : Wv E G v pc L (.ref (G.1 0) :: st) := r_get hC j ob_0.1 rfl rfl hj hin hl hx hd hq kk
theorem g_X4 (hC : Cx E G cc own nL Ts fr lo) {idx : Nat} {x : Value} (j : Nat) (hin : ∀ w ∈ wsX40, w ∈ Ts) (hl : lnk E own idx (TX4 j)) (hj : j < 7) (hd : decode cc pc = .ok (.getfield idx, 3)) (hx : (fsR G (v 270))[j]? = some x) (hq : pc + 3 = q) (kk : Wv E G v q L (x :: st)) : Wv E G v pc L (.ref (G.1 270) :: st) := r_get hC j ob_270.1 rfl rfl hj hin hl hx hd hq kk
theorem p_X0_5 (hC : Cx E G cc own nL Ts fr lo) {k idx : Nat} {x : Int32} (hin : ∀ w ∈ wsX00, w ∈ Ts) (hl : lnk E own idx (TX0 5)) (hd : decode cc pc = .ok (.putfield idx, 3)) (hk : isBk k) (hq : pc + 3 = q) (kk : Wv E G (va_up v k (upd (v k) 5 x)) q L st) : Wv E G v pc L (.int x :: .ref (G.1 k) :: st) := r_put hC 5 (ob_b hk).1 (celB hk _) (by rw [celB hk]; rfl) rfl (by decide) hin tyX0 tyX0_ok nmX0 rfl (by decide +kernel) (Nat.le_of_ble_eq_true rfl) hl hd hq kk
theorem p_X0_6 (hC : Cx E G cc own nL Ts fr lo) {k idx : Nat} {x : Int32} (hin : ∀ w ∈ wsX00, w ∈ Ts) (hl : lnk E own idx (TX0 6)) (hd : decode cc pc = .ok (.putfield idx, 3)) (hk : isBk k) (hq : pc + 3 = q) (kk : Wv E G (va_up v k (upd (v k) 6 x)) q L st) : Wv E G v pc L (.int x :: .ref (G.1 k) :: st) := r_put hC 6 (ob_b hk).1 (celB hk _) (by rw [celB hk]; rfl) rfl (by decide) hin tyX0 tyX0_ok nmX0 rfl (by decide +kernel) (Nat.le_of_ble_eq_true rfl) hl hd hq kk
theorem p_X2_1 (hC : Cx E G cc own nL Ts fr lo) {k idx : Nat} {x : Int32} (hin : ∀ w ∈ wsX20, w ∈ Ts) (hl : lnk E own idx (TX2 1)) (hd : decode cc pc = .ok (.putfield idx, 3)) (hk : isPr k) (hq : pc + 3 = q) (kk : Wv E G (va_up v k (upd (v k) 1 x)) q L st) : Wv E G v pc L (.int x :: .ref (G.1 k) :: st) := r_put hC 1 (ob_p hk).1 (celPo hk _) (by rw [celPo hk]; rfl) rfl (by decide) hin tyX2 tyX2_ok nmX2 rfl (by decide +kernel) (Nat.le_of_ble_eq_true rfl) hl hd hq kk
theorem p_X2_2 (hC : Cx E G cc own nL Ts fr lo) {k idx : Nat} {x : Int32} (hin : ∀ w ∈ wsX20, w ∈ Ts) (hl : lnk E own idx (TX2 2)) (hd : decode cc pc = .ok (.putfield idx, 3)) (hk : isPr k) (hq : pc + 3 = q) (kk : Wv E G (va_up v k (upd (v k) 2 x)) q L st) : Wv E G v pc L (.int x :: .ref (G.1 k) :: st) := r_put hC 2 (ob_p hk).1 (celPo hk _) (by rw [celPo hk]; rfl) rfl (by decide) hin tyX2 tyX2_ok nmX2 rfl (by decide +kernel) (Nat.le_of_ble_eq_true rfl) hl hd hq kk
theorem p_X1_2 (hC : Cx E G cc own nL Ts fr lo) {idx : Nat} {x : Int32} (hin : ∀ w ∈ wsX10, w ∈ Ts) (hl : lnk E own idx (TX1 2)) (hd : decode cc pc = .ok (.putfield idx, 3)) (hq : pc + 3 = q) (kk : Wv E G (va_up v 267 (upd (v 267) 2 x)) q L st) : Wv E G v pc L (.int x :: .ref (G.1 267) :: st) := r_put hC 2 ob_267.1 rfl rfl rfl (by decide) hin tyX1 tyX1_ok nmX1 rfl (by decide +kernel) (Nat.le_of_ble_eq_true rfl) hl hd hq kk
theorem p_X4_3 (hC : Cx E G cc own nL Ts fr lo) {idx : Nat} {x : Int32} (hin : ∀ w ∈ wsX40, w ∈ Ts) (hl : lnk E own idx (TX4 3)) (hd : decode cc pc = .ok (.putfield idx, 3)) (hq : pc + 3 = q) (kk : Wv E G (va_up v 270 (upd (v 270) 3 x)) q L st) : Wv E G v pc L (.int x :: .ref (G.1 270) :: st) := r_put hC 3 ob_270.1 rfl rfl rfl (by decide) hin tyX4 tyX4_ok nmX4 rfl (by decide +kernel) (Nat.le_of_ble_eq_true rfl) hl hd hq kk
theorem p_X4_6 (hC : Cx E G cc own nL Ts fr lo) {idx : Nat} {x : Int32} (hin : ∀ w ∈ wsX40, w ∈ Ts) (hl : lnk E own idx (TX4 6)) (hd : decode cc pc = .ok (.putfield idx, 3)) (hq : pc + 3 = q) (kk : Wv E G (va_up v 270 (upd (v 270) 6 x)) q L st) : Wv E G v pc L (.int x :: .ref (G.1 270) :: st) := r_put hC 6 ob_270.1 rfl rfl rfl (by decide) hin tyX4 tyX4_ok nmX4 rfl (by decide +kernel) (Nat.le_of_ble_eq_true rfl) hl hd hq kk
theorem r_iaload (hC : Cx E G cc own nL Ts fr lo) {k n : Nat} {i : Int32} (hd : decode cc pc = .ok (.iaload, 1)) (hA : iA k n) (hi : vp_in i n) (hq : pc + 1 = q) (kk : Wv E G v q L (.int (v k i.toNatClampNeg) :: st)) : Wv E G v pc L (.int i :: .ref (G.1 k) :: st) := by
  obtain ⟨p, l, e, R, s, m, args, below, meth, c, cells, slots, Q⟩ := E
  subst hq
  obtain ⟨h1, h2, h3, h4, h5, h6, -⟩ := hC
  intro H locs ls hP hS hls
  exact va_iald (D := G.2.1) h1 h2 h6 hP k 0 (by rw [wl_get hA.1.1, hA.2]) rfl hi hd (kk H locs ls hP hS hls)
theorem r_iastore (hC : Cx E G cc own nL Ts fr lo) {k n : Nat} {i x : Int32} (hd : decode cc pc = .ok (.iastore, 1)) (hA : iA k n) (hi : vp_in i n) (hq : pc + 1 = q) (kk : Wv E G (va_up v k (upd (v k) i.toNatClampNeg x)) q L st) : Wv E G v pc L (.int x :: .int i :: .ref (G.1 k) :: st) := by
  obtain ⟨p, l, e, R, s, m, args, below, meth, c, cells, slots, Q⟩ := E
  subst hq
  obtain ⟨h1, h2, h3, h4, h5, h6, h7, -⟩ := hC
  intro H locs ls hP hS hls
  refine va_iast (D := G.2.1) h1 h2 h6 hP (wl_D h7 v) hS k 0 (by rw [wl_get hA.1.1, hA.2]) rfl hi hd (fun H1 locs1 hP1 _ hS1 => ?_)
  rw [wl_set hA.1.1 (hA.2 G _)] at hP1
  exact kk H1 locs1 ls hP1 hS1 hls
theorem r_zaload (hC : Cx E G cc own nL Ts fr lo) {k n : Nat} {i : Int32} (hd : decode cc pc = .ok (.baload, 1)) (hA : zA k n) (hi : vp_in i n) (hq : pc + 1 = q) (kk : Wv E G v q L (.int (v k i.toNatClampNeg) :: st)) : Wv E G v pc L (.int i :: .ref (G.1 k) :: st) := by
  obtain ⟨p, l, e, R, s, m, args, below, meth, c, cells, slots, Q⟩ := E
  subst hq
  obtain ⟨h1, h2, h3, h4, h5, h6, -⟩ := hC
  intro H locs ls hP hS hls
  exact va_zald (D := G.2.1) h1 h2 h6 hP k 1 (by rw [wl_get hA.1.1, hA.2]) rfl hi hd (kk H locs ls hP hS hls)
theorem r_zastore (hC : Cx E G cc own nL Ts fr lo) {k n : Nat} {i x : Int32} (hd : decode cc pc = .ok (.bastore, 1)) (hA : zA k n) (hi : vp_in i n) (hq : pc + 1 = q) (kk : Wv E G (va_up v k (upd (v k) i.toNatClampNeg (vp_nar .boolean x))) q L st) : Wv E G v pc L (.int x :: .int i :: .ref (G.1 k) :: st) := by
  obtain ⟨p, l, e, R, s, m, args, below, meth, c, cells, slots, Q⟩ := E
  subst hq
  obtain ⟨h1, h2, h3, h4, h5, h6, h7, -⟩ := hC
  intro H locs ls hP hS hls
  refine va_zast (D := G.2.1) h1 h2 h6 hP (wl_D h7 v) hS k 1 (by rw [wl_get hA.1.1, hA.2]) rfl hi hd (fun H1 locs1 hP1 _ hS1 => ?_)
  rw [wl_set hA.1.1 (hA.2 G _)] at hP1
  exact kk H1 locs1 ls hP1 hS1 hls
theorem r_aloadB (hC : Cx E G cc own nL Ts fr lo) {k : Nat} {i : Int32} (hd : decode cc pc = .ok (.aaload, 1)) (hk : isPr k) (hi : vp_in i 12) (hq : pc + 1 = q) (kk : Wv E G v q L (.ref (G.1 (k + 2 + 7 * i.toNatClampNeg)) :: st)) : Wv E G v pc L (.int i :: .ref (G.1 (k + 1)) :: st) := by
  obtain ⟨p, l, e, R, s, m, args, below, meth, c, cells, slots, Q⟩ := E
  subst hq
  obtain ⟨h1, h2, h3, h4, h5, h6, -⟩ := hC
  intro H locs ls hP hS hls
  have hk1 : k + 1 < 276 := by have := isPr_lt hk; omega
  exact va_aldq (D := G.2.1) (C := RX0) (f := fun b => some (G.1 (k + 2 + 7 * b))) h1 h2 h6 hP (k + 1) 2 (by rw [wl_get hk1, celPb hk]) rfl hi hd (kk H locs ls hP hS hls)
theorem r_aloadP (hC : Cx E G cc own nL Ts fr lo) {i : Int32} (hd : decode cc pc = .ok (.aaload, 1)) (hi : vp_in i 2) (hq : pc + 1 = q) (kk : Wv E G v q L (.ref (G.1 (90 + 88 * i.toNatClampNeg)) :: st)) : Wv E G v pc L (.int i :: .ref (G.1 89) :: st) := by
  obtain ⟨p, l, e, R, s, m, args, below, meth, c, cells, slots, Q⟩ := E
  subst hq
  obtain ⟨h1, h2, h3, h4, h5, h6, -⟩ := hC
  intro H locs ls hP hS hls
  exact va_aldq (D := G.2.1) (C := RX2) (f := fun i => some (G.1 (90 + 88 * i))) h1 h2 h6 hP 89 3 (by rw [wl_get (by decide)]; rfl) rfl hi hd (kk H locs ls hP hS hls)
theorem r_min (hC : Cx E G cc own nL Ts fr lo) {idx : Nat} {x y : Int32} (hw1 : Cond.methodLink own idx Lib.Math.min.name ∈ Ts) (hw2 : Cond.static Lib.Math.min.name ∈ Ts) (hw3 : Cond.initialized "java/lang/Math" ∈ Ts) (hw4 : Cond.code Lib.Math.min.name Lib.Math.min.code 2 (some .int) ∈ Ts) (hL : L.length = nL) (hf : 1 ≤ fr) (hlo : (st.map fun v => v.category).sum + 13 ≤ lo) (hd : decode cc pc = .ok (.invokestatic idx, 3)) (hq : pc + 3 = q) (kk : Wv E G v q L (.int (if y < x then y else x) :: st)) : Wv E G v pc L (.int y :: .int x :: st) := by
  obtain ⟨p, l, e, R, s, m, args, below, meth, c, cells, slots, Q⟩ := E
  subst hq
  obtain ⟨h1, h2, h3, h4, h5, h6, h7, h8, h9, h10, h11, h12⟩ := hC
  intro H locs ls hP hS hls
  exact va_mmin h1 h2 (by rw [h3, hls.1, hL]) h4 (h5 _ hw1) (h5 _ hw2) (h5 _ hw3) (h5 _ hw4) (by rw [h11]; exact hf) (by rw [h12]; exact hlo) h9 h10 hd (kk H locs ls hP hS hls)
theorem r_copy (hC : Cx E G cc own nL Ts fr lo) {idx k0 k1 n0 n1 : Nat} {sp dp n : Int32} (hw1 : Cond.methodLink own idx arraycopyName ∈ Ts) (hw2 : Cond.native arraycopyName ∈ Ts) (hw3 : Cond.static arraycopyName ∈ Ts) (hw4 : Cond.initialized "java/lang/System" ∈ Ts) (hL : L.length = nL) (hf : 1 ≤ fr) (hlo : (st.map fun v => v.category).sum + (nativeFrameWords "java/lang/System" "arraycopy" 5 + 11) ≤ lo) (hA0 : iA k0 n0) (hA1 : iA k1 n1) (g1 : ¬ sp < 0) (g2 : ¬ dp < 0) (g3 : ¬ n < 0) (g4 : sp.toNatClampNeg + n.toNatClampNeg ≤ n0) (g5 : dp.toNatClampNeg + n.toNatClampNeg ≤ n1) (hd : decode cc pc = .ok (.invokestatic idx, 3)) (hq : pc + 3 = q) (kk : Wv E G (va_up v k1 (va_cpy (v k0) (v k1) sp.toNatClampNeg dp.toNatClampNeg n.toNatClampNeg)) q L st) : Wv E G v pc L (.int n :: .int dp :: .ref (G.1 k1) :: .int sp :: .ref (G.1 k0) :: st) := by
  obtain ⟨p, l, e, R, s, m, args, below, meth, c, cells, slots, Q⟩ := E
  subst hq
  obtain ⟨h1, h2, h3, h4, h5, h6, h7, h8, h9, h10, h11, h12⟩ := hC
  intro H locs ls hP hS hls
  refine va_copyi (D := G.2.1) h1 h2 (by rw [h3, hls.1, hL]) h4 (h5 _ hw1) (h5 _ hw2) (h5 _ hw3) (h5 _ hw4) h6 hP (wl_D h7 v) hS k0 k1 0 0 (ty := .int) (by rw [wl_get hA0.1.1, hA0.2]) (by rw [wl_get hA1.1.1, hA1.2]) rfl rfl rfl g1 g2 g3 g4 g5 (fun i _ => rfl) (by rw [h11]; exact hf) (by rw [h12]; exact hlo) hd (fun H1 locs1 hP1 _ hS1 => ?_)
  rw [wl_set hA1.1.1 (hA1.2 G _)] at hP1
  exact kk H1 locs1 ls hP1 hS1 hls
end RW
/-! contracts over the layout -/
def Wd (G : GG) (v : VV) (U : State) : Prop := va_P G.2.1 vwCl (wl G v) U.heap ∧ va_K G.2.1 vwCl (tysG G) U ∧ Gok G ∧ NW U
theorem Wd.calling {G : GG} {v : VV} {U : State} (g : JFrame) (mk : MethodId) (a : Array Value) (h : Wd G v U) : Wd G v (U.calling g mk a) :=
  ⟨h.1, va_K.moved (u := U) (U := U.calling g mk a) (Vm.Alike.refl U.vm) h.2.1, h.2.2.1, h.2.2.2.same rfl⟩
abbrev rmOf (fr lo : Nat) : Room := { frames := fr, cells := 0, slots := 0, locals := lo }
def MtI (l : Launch) (G : GG) (y : MethodName) (ws : List Cond) (fr lo : Nat) (as : List Value) (v : VV) (post : Int32 → VV → Prop) : Prop := Met l y ws (rmOf fr lo) (va_Pc as (Wd G v)) (va_Qi post (Wd G) G.2.2.2) 0 0 G.2.2.2
def MtV (l : Launch) (G : GG) (y : MethodName) (ws : List Cond) (fr lo : Nat) (as : List Value) (v : VV) (post : VV → Prop) : Prop := Met l y ws (rmOf fr lo) (va_Pc as (Wd G v)) (va_Qv post (Wd G) G.2.2.2) 0 0 G.2.2.2
def RtI (E : TE) (G : GG) (cc : ByteArray) (post : Int32 → VV → Prop) : Prop := ∀ (v' : VV) (pc : Nat) (L : List (Option Value)) (r : Int32), decode cc pc = .ok (.ireturn, 1) → post r v' → Wv E G v' pc L [.int r]
def RtV (E : TE) (G : GG) (cc : ByteArray) (post : VV → Prop) : Prop := ∀ (v' : VV) (pc : Nat) (L : List (Option Value)), decode cc pc = .ok (.return_, 1) → post v' → Wv E G v' pc L []
/-- all of the arguments take one slot -/
theorem lk_args : ∀ (as : List Value) (i : Nat), (∀ x ∈ as, x.category = 1) → ∀ (j : Nat) (x : Value), as[j]? = some x → (i + j, x) ∈ lv_args i as
  | [], i, _, j, x, h => by simp at h
  | a :: as, i, hc, j, x, h => by
    cases j with
    | zero =>
      rw [List.getElem?_cons_zero] at h
      cases h
      exact List.mem_cons_self
    | succ j =>
      rw [List.getElem?_cons_succ] at h
      have h1 := lk_args as (i + 1) (fun x hx => hc x (List.mem_cons_of_mem _ hx)) j x h
      have h2 : a.category = 1 := hc a List.mem_cons_self
      refine List.mem_cons_of_mem _ ?_
      show (i + (j + 1), x) ∈ lv_args (if a.category = 2 then i + 2 else i + 1) as
      rw [h2, show i + (j + 1) = i + 1 + j by omega]
      exact h1
theorem gl_at : ∀ (L : List (Option Value)) (i : Nat) (x : Value), gl L i = some x → L[i]? = some (some x)
  | [], i, x, h => by cases h
  | a :: L, 0, x, h => by rw [List.getElem?_cons_zero]; exact congrArg some h
  | a :: L, i + 1, x, h => by rw [List.getElem?_cons_succ]; exact gl_at L i x h
theorem lk_entry {as : List Value} {nL : Nat} {L : List (Option Value)} {ls : Array Slot} (hc : ∀ x ∈ as, x.category = 1) (hL : L = as.map some ++ List.replicate (nL - as.length) none) (hn : as.length ≤ nL) (h : lv_has ls nL (lv_args 0 as)) : lk_ok ls L := by
  subst hL
  refine ⟨by rw [h.1]; simp; omega, h.2.1, fun i x hx => ?_⟩
  have h1 := gl_at _ i x hx
  have h2 : as[i]? = some x := by
    by_cases hi : i < as.length
    · rw [List.getElem?_append_left (by simpa using hi), List.getElem?_map] at h1
      cases ha : as[i]? with
      | none => rw [ha] at h1; cases h1
      | some y => rw [ha] at h1; exact congrArg some (Option.some.inj (Option.some.inj h1))
    · rw [List.getElem?_append_right (by simpa using hi)] at h1
      obtain ⟨hz, he⟩ := List.getElem?_eq_some_iff.mp h1
      simp at he
  have h3 := lk_args as 0 hc i x h2
  rw [Nat.zero_add] at h3
  exact ⟨h.2.2 _ h3, hc x (List.mem_of_getElem? h2)⟩
theorem lg_len1 {as : List Value} (hc : ∀ x ∈ as, x.category = 1) : (lg_sl as).length = as.length := by
  induction as with
  | nil => rfl
  | cons a as ih =>
    have h1 := ih (fun x hx => hc x (List.mem_cons_of_mem _ hx))
    have h2 : a.category = 1 := hc a List.mem_cons_self
    simp only [lg_sl, List.flatMap_cons, h2] at h1 ⊢
    simp [h1]
theorem mt_int {l : Launch} {G : GG} {y : MethodName} {ws ws' : List Cond} {fr lo nL : Nat} {as : List Value} {v : VV} {post : Int32 → VV → Prop} {cc : ByteArray} {ty : FieldType} {L0 : List (Option Value)} {own : String} (hty : ty = .int ∨ (ty = .boolean ∧ ∀ r v', post r v' → r = 0 ∨ r = 1)) (hy : plainName y.cls = true) (hw : ws = Cond.code y cc nL (some ty) :: ws') (hc : ∀ x ∈ as, x.category = 1) (hn : as.length ≤ nL) (hL : L0 = as.map some ++ List.replicate (nL - as.length) none) (hown : y.cls = own) (body : ∀ E : TE, Cx E G cc own nL ws fr lo → RtI E G cc post → Wv E G v 0 L0 []) : MtI l G y ws fr lo as v post := by
  refine Met.ofW (cc := cc) (maxL := nL) (ret := some ty) hy hw ?_
  intro p e s m args below meth c s₁ B hml hv
  obtain ⟨rfl, hP, hK, hG, hN⟩ := hv
  have hts := atoms_spec (ws := ws) B.pre
  have hfc : s.vm.findClass own = some m.cls := by rw [← hown]; exact findClass_of_methodNamed B.named
  have hr := B.returns
  have hC : Cx (p, l, e, (headSpec ws (rmOf fr lo)).room, s, m, as.toArray, below, meth, c, 0, 0, MQ below (va_Qi post (Wd G) G.2.2.2) as.toArray s 0 0 G.2.2.2) G cc own nL ws fr lo := ⟨B.exec, B.bytes, hml, hfc, hts, hK, hG, hN, Nat.zero_le _, Nat.zero_le _, rfl, rfl⟩
  have hR : RtI (p, l, e, (headSpec ws (rmOf fr lo)).room, s, m, as.toArray, below, meth, c, 0, 0, MQ below (va_Qi post (Wd G) G.2.2.2) as.toArray s 0 0 G.2.2.2) G cc post := by
    intro v' pc L r hd hpost H locs ls hP' hS hls
    have hq : ∀ t : State, t.heap = H → s.WarmedH t.vm → va_Qi post (Wd G) G.2.2.2 as.toArray s (.returned (some (.int r))) t := fun t ht hW => ⟨⟨r, v', rfl, hpost, by rw [ht]; exact hP', va_K.moved hW.alike hK, hG, hN.warm hW⟩, hS.F ht⟩
    rcases hty with h | ⟨h, hz⟩
    · rw [h] at hr
      exact W.iret (v := r) B.exec B.bytes hr hq hS.2.2 hd B.notSynchronized
    · exact W.zret (v := r) B.exec B.bytes hr (by rw [h]; rcases hz r v' hpost with h | h <;> rw [h] <;> rfl) hq hS.2.2 hd B.notSynchronized
  have hl := lv_entry as (n := nL) (by rw [lg_len1 hc]; exact hn)
  rw [lg_entry_eq]
  exact body _ hC hR s.heap [] _ hP va_S.rf (lk_entry hc hL hn hl)
theorem mt_void {l : Launch} {G : GG} {y : MethodName} {ws ws' : List Cond} {fr lo nL : Nat} {as : List Value} {v : VV} {post : VV → Prop} {cc : ByteArray} {L0 : List (Option Value)} {own : String} (hy : plainName y.cls = true) (hw : ws = Cond.code y cc nL none :: ws') (hc : ∀ x ∈ as, x.category = 1) (hn : as.length ≤ nL) (hL : L0 = as.map some ++ List.replicate (nL - as.length) none) (hown : y.cls = own) (body : ∀ E : TE, Cx E G cc own nL ws fr lo → RtV E G cc post → Wv E G v 0 L0 []) : MtV l G y ws fr lo as v post := by
  refine Met.ofW (cc := cc) (maxL := nL) (ret := none) hy hw ?_
  intro p e s m args below meth c s₁ B hml hv
  obtain ⟨rfl, hP, hK, hG, hN⟩ := hv
  have hts := atoms_spec (ws := ws) B.pre
  have hfc : s.vm.findClass own = some m.cls := by rw [← hown]; exact findClass_of_methodNamed B.named
  have hr := B.returns
  have hC : Cx (p, l, e, (headSpec ws (rmOf fr lo)).room, s, m, as.toArray, below, meth, c, 0, 0, MQ below (va_Qv post (Wd G) G.2.2.2) as.toArray s 0 0 G.2.2.2) G cc own nL ws fr lo := ⟨B.exec, B.bytes, hml, hfc, hts, hK, hG, hN, Nat.zero_le _, Nat.zero_le _, rfl, rfl⟩
  have hR : RtV (p, l, e, (headSpec ws (rmOf fr lo)).room, s, m, as.toArray, below, meth, c, 0, 0, MQ below (va_Qv post (Wd G) G.2.2.2) as.toArray s 0 0 G.2.2.2) G cc post := by
    intro v' pc L hd hpost H locs ls hP' hS hls
    have hq : ∀ t : State, t.heap = H → s.WarmedH t.vm → va_Qv post (Wd G) G.2.2.2 as.toArray s (.returned none) t := fun t ht hW => ⟨⟨v', rfl, hpost, by rw [ht]; exact hP', va_K.moved hW.alike hK, hG, hN.warm hW⟩, hS.F ht⟩
    exact W.vret B.exec B.bytes hr hq hS.2.2 hd B.notSynchronized
  have hl := lv_entry as (n := nL) (by rw [lg_len1 hc]; exact hn)
  rw [lg_entry_eq]
  exact body _ hC hR s.heap [] _ hP va_S.rf (lk_entry hc hL hn hl)
section RC
variable {E : TE} {G : GG} {v : VV} {pc q : Nat} {L : List (Option Value)} {st stk : List Value} {cc : ByteArray} {own : String} {nL fr lo : Nat} {Ts : List Cond}
variable {y : MethodName} {ws ws' : List Cond} {bytes : ByteArray} {maxL : Nat} {ret : Option FieldType} {fr' lo' idx n k ci : Nat} {C : String} {T : u_T} {N : Nat} {As : List Value}
theorem r_cVI (hC : Cx E G cc own nL Ts fr lo) {post : Int32 → VV → Prop} (hM : ∀ l, MtI l G y ws fr' lo' (.ref (G.1 k) :: As) v post) (hg : GoodIn Ts (wsV own idx C y ws)) (hw : ws = Cond.code y bytes maxL ret :: ws') (hd1 : y.cls = C ∧ y.cls ≠ "java/lang/invoke/MethodHandle" ∧ y.cls ≠ "java/lang/invoke/VarHandle" ∧ (parseMethodDescriptor y.desc).map (fun d => d.parameters.length) = some n) (hr : fr' + 1 ≤ fr ∧ 8 + (maxL + 11) + lo' ≤ lo) (hob : Ob ci k) (hcl : vwCl[ci]? = some (C, T, N)) (hn : As.length = n) (hL : L.length = nL) (hst : stk = As.reverse ++ .ref (G.1 k) :: st) (hcat : (st.map fun v => v.category).sum ≤ 8) (hd : decode cc pc = .ok (.invokevirtual idx, 3)) (hq : pc + 3 = q) (kk : ∀ (r : Int32) (v' : VV), post r v' → Wv E G v' q L (.int r :: st)) : Wv E G v pc L stk := by
  obtain ⟨p, l, e, R, s, m, args, below, meth, c, cells, slots, Q⟩ := E
  subst hq; subst hst
  obtain ⟨h1, h2, h3, h4, h5, h6, h7, h8, h9, h10, h11, h12⟩ := hC
  intro H locs ls hP hS hls
  obtain ⟨fs, hfs⟩ := hob.2 G (v k)
  have he : (wl G v)[k]? = some (G.1 k, .inr (ci, fs)) := by rw [wl_get hob.1, hfs]
  refine va_calli (va_runV (As := As) (rest := st) ⟨h1, h2, h3, h4, h5⟩ (hM l) (cwV n h5 hg hw rfl rfl hd1 ⟨by rw [h11]; exact hr.1, by rw [h12]; exact hr.2⟩) ⟨fun a U g mk qq => ⟨qq.1, qq.2.calling g mk a⟩, va_recv h6 hP hcl he, fun U hU hW => ⟨rfl, ⟨by rw [hU]; exact hP, va_K.moved hW.alike h6, h7, h8.warm hW⟩⟩⟩ rfl hn (hls.1.trans hL) rfl (lv_room hcat) hd ⟨h9, h10⟩) hS (fun q _ h => h) (fun q h => h) (fun r u t H1 locs1 ht hvm hpost hB hz hk hS1 => ?_)
  have hP1 := hB.1
  rw [ht] at hP1
  exact kk r u hpost H1 locs1 ls hP1 hS1 hls
theorem r_cNI (hC : Cx E G cc own nL Ts fr lo) {post : Int32 → VV → Prop} {host : String} (hM : ∀ l, MtI l G y ws fr' lo' (.ref (G.1 k) :: As) v post) (hg : GoodIn Ts ws) (hw : ws = Cond.code y bytes maxL ret :: ws') (i : Nat) (hnest : nestM[i]? = some (own, idx, y, host)) (hw1 : Cond.initialized y.cls ∈ Ts) (hw2 : Cond.instanceMethod y ∈ Ts) (hw3 : Cond.selects C y y ∈ Ts) (hd1 : y.cls ≠ "java/lang/invoke/MethodHandle" ∧ y.cls ≠ "java/lang/invoke/VarHandle" ∧ (parseMethodDescriptor y.desc).map (fun d => d.parameters.length) = some n) (hr : fr' + 1 ≤ fr ∧ 8 + (maxL + 11) + lo' ≤ lo) (hob : Ob ci k) (hcl : vwCl[ci]? = some (C, T, N)) (hn : As.length = n) (hL : L.length = nL) (hst : stk = As.reverse ++ .ref (G.1 k) :: st) (hcat : (st.map fun v => v.category).sum ≤ 8) (hd : decode cc pc = .ok (.invokevirtual idx, 3)) (hq : pc + 3 = q) (kk : ∀ (r : Int32) (v' : VV), post r v' → Wv E G v' q L (.int r :: st)) : Wv E G v pc L stk := by
  obtain ⟨p, l, e, R, s, m, args, below, meth, c, cells, slots, Q⟩ := E
  subst hq; subst hst
  obtain ⟨h1, h2, h3, h4, h5, h6, h7, h8, h9, h10, h11, h12⟩ := hC
  intro H locs ls hP hS hls
  obtain ⟨fs, hfs⟩ := hob.2 G (v k)
  have he : (wl G v)[k]? = some (G.1 k, .inr (ci, fs)) := by rw [wl_get hob.1, hfs]
  refine va_calli (va_runVN (As := As) (rest := st) ⟨h1, h2, h3, h4, h5⟩ (hM l) ⟨va_cnB n h5 hg hw rfl rfl (h8.2 _ (List.mem_of_getElem? hnest)) (h5 _ hw1) hd1 ⟨by rw [h11]; exact hr.1, by rw [h12]; exact hr.2⟩, h5 _ hw2, h5 _ hw3⟩ ⟨fun a U g mk qq => ⟨qq.1, qq.2.calling g mk a⟩, va_recv h6 hP hcl he, fun U hU hW => ⟨rfl, ⟨by rw [hU]; exact hP, va_K.moved hW.alike h6, h7, h8.warm hW⟩⟩⟩ rfl hn (hls.1.trans hL) rfl (lv_room hcat) hd ⟨h9, h10⟩) hS (fun q _ h => h) (fun q h => h) (fun r u t H1 locs1 ht hvm hpost hB hz hk hS1 => ?_)
  have hP1 := hB.1
  rw [ht] at hP1
  exact kk r u hpost H1 locs1 ls hP1 hS1 hls
theorem r_cSI (hC : Cx E G cc own nL Ts fr lo) {post : Int32 → VV → Prop} (hM : ∀ l, MtI l G y ws fr' lo' (As) v post) (hg : GoodIn Ts (wsS own idx y ws)) (hw : ws = Cond.code y bytes maxL ret :: ws') (hd1 : y.cls = own ∧ y.cls ≠ "java/lang/invoke/MethodHandle" ∧ y.cls ≠ "java/lang/invoke/VarHandle" ∧ (parseMethodDescriptor y.desc).map (fun d => d.parameters.length) = some n) (hr : fr' + 1 ≤ fr ∧ 8 + (maxL + 11) + lo' ≤ lo) (hn : As.length = n) (hL : L.length = nL) (hst : stk = As.reverse ++ st) (hcat : (st.map fun v => v.category).sum ≤ 8) (hd : decode cc pc = .ok (.invokestatic idx, 3)) (hq : pc + 3 = q) (kk : ∀ (r : Int32) (v' : VV), post r v' → Wv E G v' q L (.int r :: st)) : Wv E G v pc L stk := by
  obtain ⟨p, l, e, R, s, m, args, below, meth, c, cells, slots, Q⟩ := E
  subst hq; subst hst
  obtain ⟨h1, h2, h3, h4, h5, h6, h7, h8, h9, h10, h11, h12⟩ := hC
  intro H locs ls hP hS hls
  refine va_calli (va_runS (As := As) (rest := st) ⟨h1, h2, h3, h4, h5⟩ (hM l) (cwS n h5 hg hw rfl rfl hd1 ⟨by rw [h11]; exact hr.1, by rw [h12]; exact hr.2⟩) ⟨fun a U g mk qq => ⟨qq.1, qq.2.calling g mk a⟩, fun U hU hW => ⟨rfl, ⟨by rw [hU]; exact hP, va_K.moved hW.alike h6, h7, h8.warm hW⟩⟩⟩ rfl hn (hls.1.trans hL) rfl (lv_room hcat) hd ⟨h9, h10⟩) hS (fun q _ h => h) (fun q h => h) (fun r u t H1 locs1 ht hvm hpost hB hz hk hS1 => ?_)
  have hP1 := hB.1
  rw [ht] at hP1
  exact kk r u hpost H1 locs1 ls hP1 hS1 hls
theorem r_cXI (hC : Cx E G cc own nL Ts fr lo) {post : Int32 → VV → Prop} (hM : ∀ l, MtI l G y ws fr' lo' (As) v post) (hg : GoodIn Ts (va_wsS own idx y ws)) (hw : ws = Cond.code y bytes maxL ret :: ws') (hd1 : y.cls ≠ "java/lang/invoke/MethodHandle" ∧ y.cls ≠ "java/lang/invoke/VarHandle" ∧ (parseMethodDescriptor y.desc).map (fun d => d.parameters.length) = some n) (hr : fr' + 1 ≤ fr ∧ 8 + (maxL + 11) + lo' ≤ lo) (hn : As.length = n) (hL : L.length = nL) (hst : stk = As.reverse ++ st) (hcat : (st.map fun v => v.category).sum ≤ 8) (hd : decode cc pc = .ok (.invokestatic idx, 3)) (hq : pc + 3 = q) (kk : ∀ (r : Int32) (v' : VV), post r v' → Wv E G v' q L (.int r :: st)) : Wv E G v pc L stk := by
  obtain ⟨p, l, e, R, s, m, args, below, meth, c, cells, slots, Q⟩ := E
  subst hq; subst hst
  obtain ⟨h1, h2, h3, h4, h5, h6, h7, h8, h9, h10, h11, h12⟩ := hC
  intro H locs ls hP hS hls
  refine va_calli (va_runS (As := As) (rest := st) ⟨h1, h2, h3, h4, h5⟩ (hM l) (va_cwS n h5 hg hw rfl rfl hd1 ⟨by rw [h11]; exact hr.1, by rw [h12]; exact hr.2⟩) ⟨fun a U g mk qq => ⟨qq.1, qq.2.calling g mk a⟩, fun U hU hW => ⟨rfl, ⟨by rw [hU]; exact hP, va_K.moved hW.alike h6, h7, h8.warm hW⟩⟩⟩ rfl hn (hls.1.trans hL) rfl (lv_room hcat) hd ⟨h9, h10⟩) hS (fun q _ h => h) (fun q h => h) (fun r u t H1 locs1 ht hvm hpost hB hz hk hS1 => ?_)
  have hP1 := hB.1
  rw [ht] at hP1
  exact kk r u hpost H1 locs1 ls hP1 hS1 hls
theorem r_cVV (hC : Cx E G cc own nL Ts fr lo) {post : VV → Prop} (hM : ∀ l, MtV l G y ws fr' lo' (.ref (G.1 k) :: As) v post) (hg : GoodIn Ts (wsV own idx C y ws)) (hw : ws = Cond.code y bytes maxL ret :: ws') (hd1 : y.cls = C ∧ y.cls ≠ "java/lang/invoke/MethodHandle" ∧ y.cls ≠ "java/lang/invoke/VarHandle" ∧ (parseMethodDescriptor y.desc).map (fun d => d.parameters.length) = some n) (hr : fr' + 1 ≤ fr ∧ 8 + (maxL + 11) + lo' ≤ lo) (hob : Ob ci k) (hcl : vwCl[ci]? = some (C, T, N)) (hn : As.length = n) (hL : L.length = nL) (hst : stk = As.reverse ++ .ref (G.1 k) :: st) (hcat : (st.map fun v => v.category).sum ≤ 8) (hd : decode cc pc = .ok (.invokevirtual idx, 3)) (hq : pc + 3 = q) (kk : ∀ (v' : VV), post v' → Wv E G v' q L st) : Wv E G v pc L stk := by
  obtain ⟨p, l, e, R, s, m, args, below, meth, c, cells, slots, Q⟩ := E
  subst hq; subst hst
  obtain ⟨h1, h2, h3, h4, h5, h6, h7, h8, h9, h10, h11, h12⟩ := hC
  intro H locs ls hP hS hls
  obtain ⟨fs, hfs⟩ := hob.2 G (v k)
  have he : (wl G v)[k]? = some (G.1 k, .inr (ci, fs)) := by rw [wl_get hob.1, hfs]
  refine va_callv (va_runV (As := As) (rest := st) ⟨h1, h2, h3, h4, h5⟩ (hM l) (cwV n h5 hg hw rfl rfl hd1 ⟨by rw [h11]; exact hr.1, by rw [h12]; exact hr.2⟩) ⟨fun a U g mk qq => ⟨qq.1, qq.2.calling g mk a⟩, va_recv h6 hP hcl he, fun U hU hW => ⟨rfl, ⟨by rw [hU]; exact hP, va_K.moved hW.alike h6, h7, h8.warm hW⟩⟩⟩ rfl hn (hls.1.trans hL) rfl (lv_room hcat) hd ⟨h9, h10⟩) hS (fun q _ h => h) (fun q h => h) (fun u t H1 locs1 ht hvm hpost hB hz hk hS1 => ?_)
  have hP1 := hB.1
  rw [ht] at hP1
  exact kk u hpost H1 locs1 ls hP1 hS1 hls
theorem r_cNV (hC : Cx E G cc own nL Ts fr lo) {post : VV → Prop} {host : String} (hM : ∀ l, MtV l G y ws fr' lo' (.ref (G.1 k) :: As) v post) (hg : GoodIn Ts ws) (hw : ws = Cond.code y bytes maxL ret :: ws') (i : Nat) (hnest : nestM[i]? = some (own, idx, y, host)) (hw1 : Cond.initialized y.cls ∈ Ts) (hw2 : Cond.instanceMethod y ∈ Ts) (hw3 : Cond.selects C y y ∈ Ts) (hd1 : y.cls ≠ "java/lang/invoke/MethodHandle" ∧ y.cls ≠ "java/lang/invoke/VarHandle" ∧ (parseMethodDescriptor y.desc).map (fun d => d.parameters.length) = some n) (hr : fr' + 1 ≤ fr ∧ 8 + (maxL + 11) + lo' ≤ lo) (hob : Ob ci k) (hcl : vwCl[ci]? = some (C, T, N)) (hn : As.length = n) (hL : L.length = nL) (hst : stk = As.reverse ++ .ref (G.1 k) :: st) (hcat : (st.map fun v => v.category).sum ≤ 8) (hd : decode cc pc = .ok (.invokevirtual idx, 3)) (hq : pc + 3 = q) (kk : ∀ (v' : VV), post v' → Wv E G v' q L st) : Wv E G v pc L stk := by
  obtain ⟨p, l, e, R, s, m, args, below, meth, c, cells, slots, Q⟩ := E
  subst hq; subst hst
  obtain ⟨h1, h2, h3, h4, h5, h6, h7, h8, h9, h10, h11, h12⟩ := hC
  intro H locs ls hP hS hls
  obtain ⟨fs, hfs⟩ := hob.2 G (v k)
  have he : (wl G v)[k]? = some (G.1 k, .inr (ci, fs)) := by rw [wl_get hob.1, hfs]
  refine va_callv (va_runVN (As := As) (rest := st) ⟨h1, h2, h3, h4, h5⟩ (hM l) ⟨va_cnB n h5 hg hw rfl rfl (h8.2 _ (List.mem_of_getElem? hnest)) (h5 _ hw1) hd1 ⟨by rw [h11]; exact hr.1, by rw [h12]; exact hr.2⟩, h5 _ hw2, h5 _ hw3⟩ ⟨fun a U g mk qq => ⟨qq.1, qq.2.calling g mk a⟩, va_recv h6 hP hcl he, fun U hU hW => ⟨rfl, ⟨by rw [hU]; exact hP, va_K.moved hW.alike h6, h7, h8.warm hW⟩⟩⟩ rfl hn (hls.1.trans hL) rfl (lv_room hcat) hd ⟨h9, h10⟩) hS (fun q _ h => h) (fun q h => h) (fun u t H1 locs1 ht hvm hpost hB hz hk hS1 => ?_)
  have hP1 := hB.1
  rw [ht] at hP1
  exact kk u hpost H1 locs1 ls hP1 hS1 hls
theorem r_cSV (hC : Cx E G cc own nL Ts fr lo) {post : VV → Prop} (hM : ∀ l, MtV l G y ws fr' lo' (As) v post) (hg : GoodIn Ts (wsS own idx y ws)) (hw : ws = Cond.code y bytes maxL ret :: ws') (hd1 : y.cls = own ∧ y.cls ≠ "java/lang/invoke/MethodHandle" ∧ y.cls ≠ "java/lang/invoke/VarHandle" ∧ (parseMethodDescriptor y.desc).map (fun d => d.parameters.length) = some n) (hr : fr' + 1 ≤ fr ∧ 8 + (maxL + 11) + lo' ≤ lo) (hn : As.length = n) (hL : L.length = nL) (hst : stk = As.reverse ++ st) (hcat : (st.map fun v => v.category).sum ≤ 8) (hd : decode cc pc = .ok (.invokestatic idx, 3)) (hq : pc + 3 = q) (kk : ∀ (v' : VV), post v' → Wv E G v' q L st) : Wv E G v pc L stk := by
  obtain ⟨p, l, e, R, s, m, args, below, meth, c, cells, slots, Q⟩ := E
  subst hq; subst hst
  obtain ⟨h1, h2, h3, h4, h5, h6, h7, h8, h9, h10, h11, h12⟩ := hC
  intro H locs ls hP hS hls
  refine va_callv (va_runS (As := As) (rest := st) ⟨h1, h2, h3, h4, h5⟩ (hM l) (cwS n h5 hg hw rfl rfl hd1 ⟨by rw [h11]; exact hr.1, by rw [h12]; exact hr.2⟩) ⟨fun a U g mk qq => ⟨qq.1, qq.2.calling g mk a⟩, fun U hU hW => ⟨rfl, ⟨by rw [hU]; exact hP, va_K.moved hW.alike h6, h7, h8.warm hW⟩⟩⟩ rfl hn (hls.1.trans hL) rfl (lv_room hcat) hd ⟨h9, h10⟩) hS (fun q _ h => h) (fun q h => h) (fun u t H1 locs1 ht hvm hpost hB hz hk hS1 => ?_)
  have hP1 := hB.1
  rw [ht] at hP1
  exact kk u hpost H1 locs1 ls hP1 hS1 hls
theorem r_cXV (hC : Cx E G cc own nL Ts fr lo) {post : VV → Prop} (hM : ∀ l, MtV l G y ws fr' lo' (As) v post) (hg : GoodIn Ts (va_wsS own idx y ws)) (hw : ws = Cond.code y bytes maxL ret :: ws') (hd1 : y.cls ≠ "java/lang/invoke/MethodHandle" ∧ y.cls ≠ "java/lang/invoke/VarHandle" ∧ (parseMethodDescriptor y.desc).map (fun d => d.parameters.length) = some n) (hr : fr' + 1 ≤ fr ∧ 8 + (maxL + 11) + lo' ≤ lo) (hn : As.length = n) (hL : L.length = nL) (hst : stk = As.reverse ++ st) (hcat : (st.map fun v => v.category).sum ≤ 8) (hd : decode cc pc = .ok (.invokestatic idx, 3)) (hq : pc + 3 = q) (kk : ∀ (v' : VV), post v' → Wv E G v' q L st) : Wv E G v pc L stk := by
  obtain ⟨p, l, e, R, s, m, args, below, meth, c, cells, slots, Q⟩ := E
  subst hq; subst hst
  obtain ⟨h1, h2, h3, h4, h5, h6, h7, h8, h9, h10, h11, h12⟩ := hC
  intro H locs ls hP hS hls
  refine va_callv (va_runS (As := As) (rest := st) ⟨h1, h2, h3, h4, h5⟩ (hM l) (va_cwS n h5 hg hw rfl rfl hd1 ⟨by rw [h11]; exact hr.1, by rw [h12]; exact hr.2⟩) ⟨fun a U g mk qq => ⟨qq.1, qq.2.calling g mk a⟩, fun U hU hW => ⟨rfl, ⟨by rw [hU]; exact hP, va_K.moved hW.alike h6, h7, h8.warm hW⟩⟩⟩ rfl hn (hls.1.trans hL) rfl (lv_room hcat) hd ⟨h9, h10⟩) hS (fun q _ h => h) (fun q h => h) (fun u t H1 locs1 ht hvm hpost hB hz hk hS1 => ?_)
  have hP1 := hB.1
  rw [ht] at hP1
  exact kk u hpost H1 locs1 ls hP1 hS1 hls
end RC
section RN
variable {E : TE} {G : GG} {v : VV} {pc q t : Nat} {L L' : List (Option Value)} {st : List Value} {cc : ByteArray} {own : String} {nL fr lo : Nat} {Ts : List Cond}
theorem r_top {x y : Int32} (h : x = y) (kk : Wv E G v pc L (.int y :: st)) : Wv E G v pc L (.int x :: st) := h ▸ kk
theorem r_iaN (hC : Cx E G cc own nL Ts fr lo) {k n i : Nat} {x : Int32} (hd : decode cc pc = .ok (.iaload, 1)) (hA : iA k n) (hx : x = nI i) (hi : i < n) (hq : pc + 1 = q) (kk : Wv E G v q L (.int (v k i) :: st)) : Wv E G v pc L (.int x :: .ref (G.1 k) :: st) := by
  subst hx
  have hn : n < 2 ^ 31 := by have := hA.1.2; omega
  refine r_iaload hC hd hA (vp_in_nI hi hn) hq ?_
  rw [nI_clamp (by omega)]
  exact kk
theorem r_isN (hC : Cx E G cc own nL Ts fr lo) {k n i : Nat} {x y : Int32} (hd : decode cc pc = .ok (.iastore, 1)) (hA : iA k n) (hx : x = nI i) (hi : i < n) (hq : pc + 1 = q) (kk : Wv E G (va_up v k (upd (v k) i y)) q L st) : Wv E G v pc L (.int y :: .int x :: .ref (G.1 k) :: st) := by
  subst hx
  have hn : n < 2 ^ 31 := by have := hA.1.2; omega
  refine r_iastore hC hd hA (vp_in_nI hi hn) hq ?_
  rw [nI_clamp (by omega)]
  exact kk
theorem r_zaN (hC : Cx E G cc own nL Ts fr lo) {k n i : Nat} {x : Int32} (hd : decode cc pc = .ok (.baload, 1)) (hA : zA k n) (hx : x = nI i) (hi : i < n) (hq : pc + 1 = q) (kk : Wv E G v q L (.int (v k i) :: st)) : Wv E G v pc L (.int x :: .ref (G.1 k) :: st) := by
  subst hx
  have hn : n < 2 ^ 31 := by have := hA.1.2; omega
  refine r_zaload hC hd hA (vp_in_nI hi hn) hq ?_
  rw [nI_clamp (by omega)]
  exact kk
theorem r_zsN (hC : Cx E G cc own nL Ts fr lo) {k n i : Nat} {x y : Int32} (hd : decode cc pc = .ok (.bastore, 1)) (hA : zA k n) (hx : x = nI i) (hi : i < n) (hq : pc + 1 = q) (kk : Wv E G (va_up v k (upd (v k) i (vp_nar .boolean y))) q L st) : Wv E G v pc L (.int y :: .int x :: .ref (G.1 k) :: st) := by
  subst hx
  have hn : n < 2 ^ 31 := by have := hA.1.2; omega
  refine r_zastore hC hd hA (vp_in_nI hi hn) hq ?_
  rw [nI_clamp (by omega)]
  exact kk
theorem r_aBN (hC : Cx E G cc own nL Ts fr lo) {k i : Nat} {x : Int32} (hd : decode cc pc = .ok (.aaload, 1)) (hk : isPr k) (hx : x = nI i) (hi : i < 12) (hq : pc + 1 = q) (kk : Wv E G v q L (.ref (G.1 (k + 2 + 7 * i)) :: st)) : Wv E G v pc L (.int x :: .ref (G.1 (k + 1)) :: st) := by
  subst hx
  refine r_aloadB hC hd hk (vp_in_nI hi (by omega)) hq ?_
  rw [nI_clamp (by omega)]
  exact kk
theorem r_aPN (hC : Cx E G cc own nL Ts fr lo) {i : Nat} {x : Int32} (hd : decode cc pc = .ok (.aaload, 1)) (hx : x = nI i) (hi : i < 2) (hq : pc + 1 = q) (kk : Wv E G v q L (.ref (G.1 (90 + 88 * i)) :: st)) : Wv E G v pc L (.int x :: .ref (G.1 89) :: st) := by
  subst hx
  refine r_aloadP hC hd (vp_in_nI hi (by omega)) hq ?_
  rw [nI_clamp (by omega)]
  exact kk
theorem r_iaddN (hC : Cx E G cc own nL Ts fr lo) {a b : Nat} {x y : Int32} (hd : decode cc pc = .ok (.iadd, 1)) (hx : x = nI a) (hy : y = nI b) (hq : pc + 1 = q) (kk : Wv E G v q L (.int (nI (a + b)) :: st)) : Wv E G v pc L (.int y :: .int x :: st) := by
  subst hx; subst hy
  refine r_iadd hC hd hq ?_
  rw [nI_add]
  exact kk
theorem r_imulN (hC : Cx E G cc own nL Ts fr lo) {a b : Nat} {x y : Int32} (hd : decode cc pc = .ok (.imul, 1)) (hx : x = nI a) (hy : y = nI b) (hq : pc + 1 = q) (kk : Wv E G v q L (.int (nI (a * b)) :: st)) : Wv E G v pc L (.int y :: .int x :: st) := by
  subst hx; subst hy
  refine r_imul hC hd hq ?_
  rw [pk_mul]
  exact kk
theorem r_isubN (hC : Cx E G cc own nL Ts fr lo) {a b : Nat} {x y : Int32} (hd : decode cc pc = .ok (.isub, 1)) (hx : x = nI a) (hy : y = nI b) (h : b ≤ a) (hq : pc + 1 = q) (kk : Wv E G v q L (.int (nI (a - b)) :: st)) : Wv E G v pc L (.int y :: .int x :: st) := by
  subst hx; subst hy
  refine r_isub hC hd hq ?_
  rw [pk_sub h]
  exact kk
theorem r_iincN (hC : Cx E G cc own nL Ts fr lo) {k a c : Nat} {n : Int} {x : Int32} (hd : decode cc pc = .ok (.iinc k n, 3)) (hx : gl L k = some (.int x)) (hxa : x = nI a) (hc : Int32.ofInt n = nI c) (hL : sl L k (.int (nI (a + c))) = L') (hq : pc + 3 = q) (kk : Wv E G v q L' st) : Wv E G v pc L st :=
  r_iinc hC hd hx (by rw [hxa, hc, nI_add]) hL hq kk
theorem r_if_eqB (hC : Cx E G cc own nL Ts fr lo) {c : Prop} [Decidable c] {off : Int} (hd : decode cc pc = .ok (.ifCond .eq off, 3)) (ht : (pc : Int) + off = (t : Int)) (hq : pc + 3 = q) (kt : ¬ c → Wv E G v t L st) (kf : c → Wv E G v q L st) : Wv E G v pc L (.int (if c then 1 else 0) :: st) := by
  refine r_if_eq hC hd ht hq (fun h => kt (fun hc => ?_)) (fun h => kf ?_)
  · rw [if_pos hc] at h; exact absurd h (by decide)
  · by_cases hc : c
    · exact hc
    · rw [if_neg hc] at h; exact absurd rfl h
theorem r_if_neB (hC : Cx E G cc own nL Ts fr lo) {c : Prop} [Decidable c] {off : Int} (hd : decode cc pc = .ok (.ifCond .ne off, 3)) (ht : (pc : Int) + off = (t : Int)) (hq : pc + 3 = q) (kt : c → Wv E G v t L st) (kf : ¬ c → Wv E G v q L st) : Wv E G v pc L (.int (if c then 1 else 0) :: st) := by
  refine r_if_ne hC hd ht hq (fun h => kt ?_) (fun h => kf (fun hc => ?_))
  · by_cases hc : c
    · exact hc
    · rw [if_neg hc] at h; exact absurd rfl h
  · rw [if_pos hc] at h; exact absurd h (by decide)

theorem r_icmp_eqN (hC : Cx E G cc own nL Ts fr lo) {a b : Nat} {x y : Int32} {off : Int} (hd : decode cc pc = .ok (.if_icmp .eq off, 3)) (hx : x = nI a) (hy : y = nI b) (ha : a < 2 ^ 31) (hb : b < 2 ^ 31) (ht : (pc : Int) + off = (t : Int)) (hq : pc + 3 = q) (kt : a = b → Wv E G v t L st) (kf : ¬ a = b → Wv E G v q L st) : Wv E G v pc L (.int y :: .int x :: st) := by
  subst hx; subst hy
  exact r_icmp_eq hC hd ht hq (fun h => kt ((nI_eq ha hb).mp h)) (fun h => kf (fun e => h ((nI_eq ha hb).mpr e)))

theorem r_icmp_ltN (hC : Cx E G cc own nL Ts fr lo) {a b : Nat} {x y : Int32} {off : Int} (hd : decode cc pc = .ok (.if_icmp .lt off, 3)) (hx : x = nI a) (hy : y = nI b) (ha : a < 2 ^ 31) (hb : b < 2 ^ 31) (ht : (pc : Int) + off = (t : Int)) (hq : pc + 3 = q) (kt : a < b → Wv E G v t L st) (kf : b ≤ a → Wv E G v q L st) : Wv E G v pc L (.int y :: .int x :: st) := by
  subst hx; subst hy
  exact r_icmp_lt hC hd ht hq (fun h => kt ((nI_ltI ha hb).mp h)) (fun h => kf (by have := mt (nI_ltI ha hb).mpr h; omega))

theorem r_icmp_leN (hC : Cx E G cc own nL Ts fr lo) {a b : Nat} {x y : Int32} {off : Int} (hd : decode cc pc = .ok (.if_icmp .le off, 3)) (hx : x = nI a) (hy : y = nI b) (ha : a < 2 ^ 31) (hb : b < 2 ^ 31) (ht : (pc : Int) + off = (t : Int)) (hq : pc + 3 = q) (kt : a ≤ b → Wv E G v t L st) (kf : b < a → Wv E G v q L st) : Wv E G v pc L (.int y :: .int x :: st) := by
  subst hx; subst hy
  exact r_icmp_le hC hd ht hq (fun h => kt ((nI_leI ha hb).mp h)) (fun h => kf (by have := mt (nI_leI ha hb).mpr h; omega))

theorem r_icmp_geN (hC : Cx E G cc own nL Ts fr lo) {a b : Nat} {x y : Int32} {off : Int} (hd : decode cc pc = .ok (.if_icmp .ge off, 3)) (hx : x = nI a) (hy : y = nI b) (ha : a < 2 ^ 31) (hb : b < 2 ^ 31) (ht : (pc : Int) + off = (t : Int)) (hq : pc + 3 = q) (kt : b ≤ a → Wv E G v t L st) (kf : a < b → Wv E G v q L st) : Wv E G v pc L (.int y :: .int x :: st) := by
  subst hx; subst hy
  exact r_icmp_ge hC hd ht hq (fun h => kt ((nI_leI hb ha).mp h)) (fun h => kf (by have := mt (nI_leI hb ha).mpr h; omega))

theorem r_icmp_gtN (hC : Cx E G cc own nL Ts fr lo) {a b : Nat} {x y : Int32} {off : Int} (hd : decode cc pc = .ok (.if_icmp .gt off, 3)) (hx : x = nI a) (hy : y = nI b) (ha : a < 2 ^ 31) (hb : b < 2 ^ 31) (ht : (pc : Int) + off = (t : Int)) (hq : pc + 3 = q) (kt : b < a → Wv E G v t L st) (kf : a ≤ b → Wv E G v q L st) : Wv E G v pc L (.int y :: .int x :: st) := by
  subst hx; subst hy
  exact r_icmp_gt hC hd ht hq (fun h => kt ((nI_ltI hb ha).mp h)) (fun h => kf (by have := mt (nI_ltI hb ha).mpr h; omega))

theorem r_icmp_neN (hC : Cx E G cc own nL Ts fr lo) {a b : Nat} {x y : Int32} {off : Int} (hd : decode cc pc = .ok (.if_icmp .ne off, 3)) (hx : x = nI a) (hy : y = nI b) (ha : a < 2 ^ 31) (hb : b < 2 ^ 31) (ht : (pc : Int) + off = (t : Int)) (hq : pc + 3 = q) (kt : ¬ a = b → Wv E G v t L st) (kf : a = b → Wv E G v q L st) : Wv E G v pc L (.int y :: .int x :: st) := by
  subst hx; subst hy
  exact r_icmp_ne hC hd ht hq (fun h => kt (fun e => h ((nI_eq ha hb).mpr e))) (fun h => kf ((nI_eq ha hb).mp h))

theorem r_tsw5 (hC : Cx E G cc own nL Ts fr lo) {x : Int32} {d o0 o1 o2 o3 o4 o5 : Int} {len td t0 t1 t2 t3 t4 t5 : Nat} (hd : decode cc pc = .ok (.tableswitch d 0 5 #[o0, o1, o2, o3, o4, o5], len)) (gd : (pc : Int) + d = (td : Int)) (g0 : (pc : Int) + o0 = (t0 : Int)) (g1 : (pc : Int) + o1 = (t1 : Int)) (g2 : (pc : Int) + o2 = (t2 : Int)) (g3 : (pc : Int) + o3 = (t3 : Int)) (g4 : (pc : Int) + o4 = (t4 : Int)) (g5 : (pc : Int) + o5 = (t5 : Int)) (kd : (x.toInt < 0 ∨ 5 < x.toInt) → Wv E G v td L st) (k0 : x = 0 → Wv E G v t0 L st) (k1 : x = 1 → Wv E G v t1 L st) (k2 : x = 2 → Wv E G v t2 L st) (k3 : x = 3 → Wv E G v t3 L st) (k4 : x = 4 → Wv E G v t4 L st) (k5 : x = 5 → Wv E G v t5 L st) : Wv E G v pc L (.int x :: st) := by
  by_cases h : x.toInt < 0 ∨ 5 < x.toInt
  · exact r_tableOut hC hd h gd (kd h)
  · obtain ⟨j, hj, rfl⟩ := nI_of2 (x := x) (M := 5) (n := 5) rfl (by rw [Int32.lt_iff_toInt_lt]; simp; omega) (by rw [Int32.le_iff_toInt_le]; have : ((5 : Int32).toInt) = 5 := rfl; omega)
    have hj2 : j = 0 ∨ j = 1 ∨ j = 2 ∨ j = 3 ∨ j = 4 ∨ j = 5 := by omega
    rcases hj2 with rfl | rfl | rfl | rfl | rfl | rfl
    · exact r_tableIn hC hd (by decide) (by decide) rfl g0 (k0 rfl)
    · exact r_tableIn hC hd (by decide) (by decide) rfl g1 (k1 rfl)
    · exact r_tableIn hC hd (by decide) (by decide) rfl g2 (k2 rfl)
    · exact r_tableIn hC hd (by decide) (by decide) rfl g3 (k3 rfl)
    · exact r_tableIn hC hd (by decide) (by decide) rfl g4 (k4 rfl)
    · exact r_tableIn hC hd (by decide) (by decide) rfl g5 (k5 rfl)

theorem r_tsw6 (hC : Cx E G cc own nL Ts fr lo) {x : Int32} {d o0 o1 o2 o3 o4 o5 o6 : Int} {len td t0 t1 t2 t3 t4 t5 t6 : Nat} (hd : decode cc pc = .ok (.tableswitch d 0 6 #[o0, o1, o2, o3, o4, o5, o6], len)) (gd : (pc : Int) + d = (td : Int)) (g0 : (pc : Int) + o0 = (t0 : Int)) (g1 : (pc : Int) + o1 = (t1 : Int)) (g2 : (pc : Int) + o2 = (t2 : Int)) (g3 : (pc : Int) + o3 = (t3 : Int)) (g4 : (pc : Int) + o4 = (t4 : Int)) (g5 : (pc : Int) + o5 = (t5 : Int)) (g6 : (pc : Int) + o6 = (t6 : Int)) (kd : (x.toInt < 0 ∨ 6 < x.toInt) → Wv E G v td L st) (k0 : x = 0 → Wv E G v t0 L st) (k1 : x = 1 → Wv E G v t1 L st) (k2 : x = 2 → Wv E G v t2 L st) (k3 : x = 3 → Wv E G v t3 L st) (k4 : x = 4 → Wv E G v t4 L st) (k5 : x = 5 → Wv E G v t5 L st) (k6 : x = 6 → Wv E G v t6 L st) : Wv E G v pc L (.int x :: st) := by
  by_cases h : x.toInt < 0 ∨ 6 < x.toInt
  · exact r_tableOut hC hd h gd (kd h)
  · obtain ⟨j, hj, rfl⟩ := nI_of2 (x := x) (M := 6) (n := 6) rfl (by rw [Int32.lt_iff_toInt_lt]; simp; omega) (by rw [Int32.le_iff_toInt_le]; have : ((6 : Int32).toInt) = 6 := rfl; omega)
    have hj2 : j = 0 ∨ j = 1 ∨ j = 2 ∨ j = 3 ∨ j = 4 ∨ j = 5 ∨ j = 6 := by omega
    rcases hj2 with rfl | rfl | rfl | rfl | rfl | rfl | rfl
    · exact r_tableIn hC hd (by decide) (by decide) rfl g0 (k0 rfl)
    · exact r_tableIn hC hd (by decide) (by decide) rfl g1 (k1 rfl)
    · exact r_tableIn hC hd (by decide) (by decide) rfl g2 (k2 rfl)
    · exact r_tableIn hC hd (by decide) (by decide) rfl g3 (k3 rfl)
    · exact r_tableIn hC hd (by decide) (by decide) rfl g4 (k4 rfl)
    · exact r_tableIn hC hd (by decide) (by decide) rfl g5 (k5 rfl)
    · exact r_tableIn hC hd (by decide) (by decide) rfl g6 (k6 rfl)

theorem r_tsw31 (hC : Cx E G cc own nL Ts fr lo) {x : Int32} {d o0 o1 o2 o3 o4 o5 o6 o7 o8 o9 o10 o11 o12 o13 o14 o15 o16 o17 o18 o19 o20 o21 o22 o23 o24 o25 o26 o27 o28 o29 o30 o31 : Int} {len td t0 t1 t2 t3 t4 t5 t6 t7 t8 t9 t10 t11 t12 t13 t14 t15 t16 t17 t18 t19 t20 t21 t22 t23 t24 t25 t26 t27 t28 t29 t30 t31 : Nat} (hd : decode cc pc = .ok (.tableswitch d 0 31 #[o0, o1, o2, o3, o4, o5, o6, o7, o8, o9, o10, o11, o12, o13, o14, o15, o16, o17, o18, o19, o20, o21, o22, o23, o24, o25, o26, o27, o28, o29, o30, o31], len)) (gd : (pc : Int) + d = (td : Int)) (g0 : (pc : Int) + o0 = (t0 : Int)) (g1 : (pc : Int) + o1 = (t1 : Int)) (g2 : (pc : Int) + o2 = (t2 : Int)) (g3 : (pc : Int) + o3 = (t3 : Int)) (g4 : (pc : Int) + o4 = (t4 : Int)) (g5 : (pc : Int) + o5 = (t5 : Int)) (g6 : (pc : Int) + o6 = (t6 : Int)) (g7 : (pc : Int) + o7 = (t7 : Int)) (g8 : (pc : Int) + o8 = (t8 : Int)) (g9 : (pc : Int) + o9 = (t9 : Int)) (g10 : (pc : Int) + o10 = (t10 : Int)) (g11 : (pc : Int) + o11 = (t11 : Int)) (g12 : (pc : Int) + o12 = (t12 : Int)) (g13 : (pc : Int) + o13 = (t13 : Int)) (g14 : (pc : Int) + o14 = (t14 : Int)) (g15 : (pc : Int) + o15 = (t15 : Int)) (g16 : (pc : Int) + o16 = (t16 : Int)) (g17 : (pc : Int) + o17 = (t17 : Int)) (g18 : (pc : Int) + o18 = (t18 : Int)) (g19 : (pc : Int) + o19 = (t19 : Int)) (g20 : (pc : Int) + o20 = (t20 : Int)) (g21 : (pc : Int) + o21 = (t21 : Int)) (g22 : (pc : Int) + o22 = (t22 : Int)) (g23 : (pc : Int) + o23 = (t23 : Int)) (g24 : (pc : Int) + o24 = (t24 : Int)) (g25 : (pc : Int) + o25 = (t25 : Int)) (g26 : (pc : Int) + o26 = (t26 : Int)) (g27 : (pc : Int) + o27 = (t27 : Int)) (g28 : (pc : Int) + o28 = (t28 : Int)) (g29 : (pc : Int) + o29 = (t29 : Int)) (g30 : (pc : Int) + o30 = (t30 : Int)) (g31 : (pc : Int) + o31 = (t31 : Int)) (kd : (x.toInt < 0 ∨ 31 < x.toInt) → Wv E G v td L st) (k0 : x = 0 → Wv E G v t0 L st) (k1 : x = 1 → Wv E G v t1 L st) (k2 : x = 2 → Wv E G v t2 L st) (k3 : x = 3 → Wv E G v t3 L st) (k4 : x = 4 → Wv E G v t4 L st) (k5 : x = 5 → Wv E G v t5 L st) (k6 : x = 6 → Wv E G v t6 L st) (k7 : x = 7 → Wv E G v t7 L st) (k8 : x = 8 → Wv E G v t8 L st) (k9 : x = 9 → Wv E G v t9 L st) (k10 : x = 10 → Wv E G v t10 L st) (k11 : x = 11 → Wv E G v t11 L st) (k12 : x = 12 → Wv E G v t12 L st) (k13 : x = 13 → Wv E G v t13 L st) (k14 : x = 14 → Wv E G v t14 L st) (k15 : x = 15 → Wv E G v t15 L st) (k16 : x = 16 → Wv E G v t16 L st) (k17 : x = 17 → Wv E G v t17 L st) (k18 : x = 18 → Wv E G v t18 L st) (k19 : x = 19 → Wv E G v t19 L st) (k20 : x = 20 → Wv E G v t20 L st) (k21 : x = 21 → Wv E G v t21 L st) (k22 : x = 22 → Wv E G v t22 L st) (k23 : x = 23 → Wv E G v t23 L st) (k24 : x = 24 → Wv E G v t24 L st) (k25 : x = 25 → Wv E G v t25 L st) (k26 : x = 26 → Wv E G v t26 L st) (k27 : x = 27 → Wv E G v t27 L st) (k28 : x = 28 → Wv E G v t28 L st) (k29 : x = 29 → Wv E G v t29 L st) (k30 : x = 30 → Wv E G v t30 L st) (k31 : x = 31 → Wv E G v t31 L st) : Wv E G v pc L (.int x :: st) := by
  by_cases h : x.toInt < 0 ∨ 31 < x.toInt
  · exact r_tableOut hC hd h gd (kd h)
  · obtain ⟨j, hj, rfl⟩ := nI_of2 (x := x) (M := 31) (n := 31) rfl (by rw [Int32.lt_iff_toInt_lt]; simp; omega) (by rw [Int32.le_iff_toInt_le]; have : ((31 : Int32).toInt) = 31 := rfl; omega)
    have hj2 : j = 0 ∨ j = 1 ∨ j = 2 ∨ j = 3 ∨ j = 4 ∨ j = 5 ∨ j = 6 ∨ j = 7 ∨ j = 8 ∨ j = 9 ∨ j = 10 ∨ j = 11 ∨ j = 12 ∨ j = 13 ∨ j = 14 ∨ j = 15 ∨ j = 16 ∨ j = 17 ∨ j = 18 ∨ j = 19 ∨ j = 20 ∨ j = 21 ∨ j = 22 ∨ j = 23 ∨ j = 24 ∨ j = 25 ∨ j = 26 ∨ j = 27 ∨ j = 28 ∨ j = 29 ∨ j = 30 ∨ j = 31 := by omega
    rcases hj2 with rfl | rfl | rfl | rfl | rfl | rfl | rfl | rfl | rfl | rfl | rfl | rfl | rfl | rfl | rfl | rfl | rfl | rfl | rfl | rfl | rfl | rfl | rfl | rfl | rfl | rfl | rfl | rfl | rfl | rfl | rfl | rfl
    · exact r_tableIn hC hd (by decide) (by decide) rfl g0 (k0 rfl)
    · exact r_tableIn hC hd (by decide) (by decide) rfl g1 (k1 rfl)
    · exact r_tableIn hC hd (by decide) (by decide) rfl g2 (k2 rfl)
    · exact r_tableIn hC hd (by decide) (by decide) rfl g3 (k3 rfl)
    · exact r_tableIn hC hd (by decide) (by decide) rfl g4 (k4 rfl)
    · exact r_tableIn hC hd (by decide) (by decide) rfl g5 (k5 rfl)
    · exact r_tableIn hC hd (by decide) (by decide) rfl g6 (k6 rfl)
    · exact r_tableIn hC hd (by decide) (by decide) rfl g7 (k7 rfl)
    · exact r_tableIn hC hd (by decide) (by decide) rfl g8 (k8 rfl)
    · exact r_tableIn hC hd (by decide) (by decide) rfl g9 (k9 rfl)
    · exact r_tableIn hC hd (by decide) (by decide) rfl g10 (k10 rfl)
    · exact r_tableIn hC hd (by decide) (by decide) rfl g11 (k11 rfl)
    · exact r_tableIn hC hd (by decide) (by decide) rfl g12 (k12 rfl)
    · exact r_tableIn hC hd (by decide) (by decide) rfl g13 (k13 rfl)
    · exact r_tableIn hC hd (by decide) (by decide) rfl g14 (k14 rfl)
    · exact r_tableIn hC hd (by decide) (by decide) rfl g15 (k15 rfl)
    · exact r_tableIn hC hd (by decide) (by decide) rfl g16 (k16 rfl)
    · exact r_tableIn hC hd (by decide) (by decide) rfl g17 (k17 rfl)
    · exact r_tableIn hC hd (by decide) (by decide) rfl g18 (k18 rfl)
    · exact r_tableIn hC hd (by decide) (by decide) rfl g19 (k19 rfl)
    · exact r_tableIn hC hd (by decide) (by decide) rfl g20 (k20 rfl)
    · exact r_tableIn hC hd (by decide) (by decide) rfl g21 (k21 rfl)
    · exact r_tableIn hC hd (by decide) (by decide) rfl g22 (k22 rfl)
    · exact r_tableIn hC hd (by decide) (by decide) rfl g23 (k23 rfl)
    · exact r_tableIn hC hd (by decide) (by decide) rfl g24 (k24 rfl)
    · exact r_tableIn hC hd (by decide) (by decide) rfl g25 (k25 rfl)
    · exact r_tableIn hC hd (by decide) (by decide) rfl g26 (k26 rfl)
    · exact r_tableIn hC hd (by decide) (by decide) rfl g27 (k27 rfl)
    · exact r_tableIn hC hd (by decide) (by decide) rfl g28 (k28 rfl)
    · exact r_tableIn hC hd (by decide) (by decide) rfl g29 (k29 rfl)
    · exact r_tableIn hC hd (by decide) (by decide) rfl g30 (k30 rfl)
    · exact r_tableIn hC hd (by decide) (by decide) rfl g31 (k31 rfl)

theorem r_lsw (hC : Cx E G cc own nL Ts fr lo) {x : Int32} {d o0 o1 : Int} {len td t0 t1 : Nat} (hd : decode cc pc = .ok (.lookupswitch d #[(0, o0), (1, o1)], len)) (gd : (pc : Int) + d = (td : Int)) (g0 : (pc : Int) + o0 = (t0 : Int)) (g1 : (pc : Int) + o1 = (t1 : Int)) (kd : (¬ x = 0 ∧ ¬ x = 1) → Wv E G v td L st) (k0 : x = 0 → Wv E G v t0 L st) (k1 : x = 1 → Wv E G v t1 L st) : Wv E G v pc L (.int x :: st) := by
  by_cases h0 : x = 0
  · subst h0
    exact r_lookup hC hd (by rfl) (off := o0) (by simp [Op.lookupswitch.offset]) g0 (k0 rfl)
  · by_cases h1 : x = 1
    · subst h1
      exact r_lookup hC hd (by rfl) (off := o1) (by simp [Op.lookupswitch.offset]) g1 (k1 rfl)
    · have e0 : ¬ x.toInt = 0 := fun h => h0 (Int32.toInt_inj.mp h)
      have e1 : ¬ x.toInt = 1 := fun h => h1 (Int32.toInt_inj.mp h)
      exact r_lookup hC hd (by rfl) (off := d) (by simp [Op.lookupswitch.offset, e0, e1, Ne.symm e0, Ne.symm e1, eq_comm]) gd (kd ⟨h0, h1⟩)
end RN
