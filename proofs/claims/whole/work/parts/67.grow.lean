/-! a world that grows -/
def wlU (n : Nat) (U : Nat → Nat) (ent : Nat → va_E) : va_W := (List.range n).map fun k => (U k, ent k)
theorem wlU_get {n k : Nat} {U : Nat → Nat} {ent : Nat → va_E} (h : k < n) : (wlU n U ent)[k]? = some (U k, ent k) := by simp [wlU, h]
theorem wlU_congr {n : Nat} {U U' : Nat → Nat} {ent ent' : Nat → va_E} (h : ∀ k, k < n → U k = U' k ∧ ent k = ent' k) : wlU n U ent = wlU n U' ent' := by
  unfold wlU
  apply List.map_congr_left
  intro k hk
  have := h k (List.mem_range.mp hk)
  rw [this.1, this.2]
theorem wlU_push {n q : Nat} {U : Nat → Nat} {ent : Nat → va_E} {e : va_E} : wlU n U ent ++ [(q, e)] = wlU (n + 1) (va_up U n q) (va_up ent n e) := by
  have h : wlU n U ent = wlU n (va_up U n q) (va_up ent n e) := wlU_congr (fun k hk => ⟨(va_up_ne _ _ (by omega)).symm, (va_up_ne _ _ (by omega)).symm⟩)
  rw [h]
  unfold wlU
  rw [List.range_succ, List.map_append, List.map_cons, List.map_nil, va_up_self, va_up_self]
theorem wlU_set {n k : Nat} {U : Nat → Nat} {ent : Nat → va_E} {e : va_E} (h : k < n) : (wlU n U ent).set k (U k, e) = wlU n U (va_up ent k e) := by
  apply List.ext_getElem?
  intro j
  by_cases hj : j = k
  · subst hj
    rw [List.getElem?_set_self (by simp [wlU, h]), wlU_get h, va_up_self]
  · rw [List.getElem?_set_ne (Ne.symm hj)]
    by_cases hn : j < n
    · rw [wlU_get hn, wlU_get hn, va_up_ne _ _ hj]
    · rw [List.getElem?_eq_none (by simp [wlU]; omega), List.getElem?_eq_none (by simp [wlU]; omega)]
abbrev CS : Type := ClassId × ClassId × ClassId × ClassId
def tys4 (cs : CS) : List (ClassId × FieldType) := [(cs.1, .int), (cs.2.1, .boolean), (cs.2.2.1, .object RX0), (cs.2.2.2, .object RX2)]
def Wg (E : TE) (D : va_G) (A : Nat → Prop) (n : Nat) (U : Nat → Nat) (ent : Nat → va_E) (cells slots pc : Nat) (L : List (Option Value)) (st : List Value) : Prop :=
  match E with
  | (p, l, e, R, s, m, args, below, meth, c, _, _, Q) => ∀ (H : Heap) (locs : List Loc) (ls : Array Slot), va_P D vwCl (wlU n U ent) H → va_D A (wlU n U ent) → va_S A s.heap H locs → lk_ok ls L → W p l e R s m args below meth c H locs cells slots Q (F0 m pc ls st)
def Cg (E : TE) (D : va_G) (A : Nat → Prop) (cs : CS) (cc : ByteArray) (own : String) (nL : Nat) (Ts : List Cond) (fr lo rc rs : Nat) : Prop :=
  match E with
  | (p, _, _, R, s, m, args, _, _, c, _, _, _) => p.tables.exec = Jvm.exec ∧ c.code = cc ∧ c.maxLocals = nL ∧ s.vm.findClass own = some m.cls ∧ (∀ w ∈ Ts, w.before args s = true) ∧ va_K D vwCl (tys4 cs) s ∧ NW s ∧ (va_AO RX0 s ∧ va_AO RX2 s) ∧ (∀ q, s.heap.size ≤ q → A q) ∧ R.frames = fr ∧ R.locals = lo ∧ R.cells = rc ∧ R.slots = rs
def Ini (E : TE) : Prop :=
  match E with
  | (_, _, _, _, _, _, _, _, meth, _, _, _, _) => meth.name = "<init>"
section WG
variable {E : TE} {D : va_G} {A : Nat → Prop} {cs : CS} {n nW cells slots pc q t : Nat} {U : Nat → Nat} {ent : Nat → va_E} {L L' : List (Option Value)} {st : List Value} {cc : ByteArray} {own : String} {nL fr lo rc rs : Nat} {Ts : List Cond}

theorem w_iconst (hC : Cg E D A cs cc own nL Ts fr lo rc rs) {n : Int} {x : Int32} (hd : decode cc pc = .ok (.iconst n, 1)) (hx : Int32.ofInt n = x) (hq : pc + 1 = q) (kk : Wg E D A nW U ent cells slots q L (.int x :: st)) : Wg E D A nW U ent cells slots pc L st := by
  obtain ⟨p, l, e, R, s, m, args, below, meth, c, cells0, slots0, Q⟩ := E
  subst hq
  obtain ⟨h1, h2, -⟩ := hC
  intro H locs ls hP hD hS hl
  exact lv_iconst h1 h2 hd hx (kk H locs ls hP hD hS hl)

theorem w_bipush (hC : Cg E D A cs cc own nL Ts fr lo rc rs) {n : Int} {x : Int32} (hd : decode cc pc = .ok (.bipush n, 2)) (hx : (Int8.ofInt n).toInt32 = x) (hq : pc + 2 = q) (kk : Wg E D A nW U ent cells slots q L (.int x :: st)) : Wg E D A nW U ent cells slots pc L st := by
  obtain ⟨p, l, e, R, s, m, args, below, meth, c, cells0, slots0, Q⟩ := E
  subst hq
  obtain ⟨h1, h2, -⟩ := hC
  intro H locs ls hP hD hS hl
  exact lv_bipush h1 h2 hd hx (kk H locs ls hP hD hS hl)

theorem w_sipush (hC : Cg E D A cs cc own nL Ts fr lo rc rs) {n : Int} {x : Int32} (hd : decode cc pc = .ok (.sipush n, 3)) (hx : (Int16.ofInt n).toInt32 = x) (hq : pc + 3 = q) (kk : Wg E D A nW U ent cells slots q L (.int x :: st)) : Wg E D A nW U ent cells slots pc L st := by
  obtain ⟨p, l, e, R, s, m, args, below, meth, c, cells0, slots0, Q⟩ := E
  subst hq
  obtain ⟨h1, h2, -⟩ := hC
  intro H locs ls hP hD hS hl
  exact lv_sipush h1 h2 hd hx (kk H locs ls hP hD hS hl)

theorem w_iload_n (hC : Cg E D A cs cc own nL Ts fr lo rc rs) {k : Fin 4} {x : Int32} (hd : decode cc pc = .ok (.iload_n k, 1)) (hx : gl L k = some (.int x)) (hq : pc + 1 = q) (kk : Wg E D A nW U ent cells slots q L (.int x :: st)) : Wg E D A nW U ent cells slots pc L st := by
  obtain ⟨p, l, e, R, s, m, args, below, meth, c, cells0, slots0, Q⟩ := E
  subst hq
  obtain ⟨h1, h2, -⟩ := hC
  intro H locs ls hP hD hS hl
  exact lv_iload_n h1 h2 hd rfl (hl.2.2 _ _ hx).1 (kk H locs ls hP hD hS hl)

theorem w_aload_n (hC : Cg E D A cs cc own nL Ts fr lo rc rs) {k : Fin 4} {x : Nat} (hd : decode cc pc = .ok (.aload_n k, 1)) (hx : gl L k = some (.ref x)) (hq : pc + 1 = q) (kk : Wg E D A nW U ent cells slots q L (.ref x :: st)) : Wg E D A nW U ent cells slots pc L st := by
  obtain ⟨p, l, e, R, s, m, args, below, meth, c, cells0, slots0, Q⟩ := E
  subst hq
  obtain ⟨h1, h2, -⟩ := hC
  intro H locs ls hP hD hS hl
  exact lv_aload_n h1 h2 hd rfl (hl.2.2 _ _ hx).1 (kk H locs ls hP hD hS hl)

theorem w_istore_n (hC : Cg E D A cs cc own nL Ts fr lo rc rs) {k : Fin 4} {x : Int32} (hd : decode cc pc = .ok (.istore_n k, 1)) (hk : (k : Nat) < L.length) (hL : sl L k (.int x) = L') (hq : pc + 1 = q) (kk : Wg E D A nW U ent cells slots q L' st) : Wg E D A nW U ent cells slots pc L (.int x :: st) := by
  obtain ⟨p, l, e, R, s, m, args, below, meth, c, cells0, slots0, Q⟩ := E
  subst hq; subst hL
  obtain ⟨h1, h2, -⟩ := hC
  intro H locs ls hP hD hS hl
  exact lv_istore_n h1 h2 hd rfl (lk_to hl) hk rfl (fun ls' h' => kk H locs ls' hP hD hS (lk_st hl rfl h'))

theorem w_astore_n (hC : Cg E D A cs cc own nL Ts fr lo rc rs) {k : Fin 4} {x : Nat} (hd : decode cc pc = .ok (.astore_n k, 1)) (hk : (k : Nat) < L.length) (hL : sl L k (.ref x) = L') (hq : pc + 1 = q) (kk : Wg E D A nW U ent cells slots q L' st) : Wg E D A nW U ent cells slots pc L (.ref x :: st) := by
  obtain ⟨p, l, e, R, s, m, args, below, meth, c, cells0, slots0, Q⟩ := E
  subst hq; subst hL
  obtain ⟨h1, h2, -⟩ := hC
  intro H locs ls hP hD hS hl
  exact lv_astore_n h1 h2 hd rfl (lk_to hl) hk rfl (fun ls' h' => kk H locs ls' hP hD hS (lk_st hl rfl h'))

theorem w_dup (hC : Cg E D A cs cc own nL Ts fr lo rc rs) {x : Value} (hx : x.category = 1) (hd : decode cc pc = .ok (.dup, 1)) (hq : pc + 1 = q) (kk : Wg E D A nW U ent cells slots q L (x :: x :: st)) : Wg E D A nW U ent cells slots pc L (x :: st) := by
  obtain ⟨p, l, e, R, s, m, args, below, meth, c, cells0, slots0, Q⟩ := E
  subst hq
  obtain ⟨h1, h2, -⟩ := hC
  intro H locs ls hP hD hS hl
  exact lv_dup h1 h2 hd hx (kk H locs ls hP hD hS hl)

theorem w_iinc (hC : Cg E D A cs cc own nL Ts fr lo rc rs) {k : Nat} {n : Int} {x y : Int32} (hd : decode cc pc = .ok (.iinc k n, 3)) (hx : gl L k = some (.int x)) (hy : x + Int32.ofInt n = y) (hL : sl L k (.int y) = L') (hq : pc + 3 = q) (kk : Wg E D A nW U ent cells slots q L' st) : Wg E D A nW U ent cells slots pc L st := by
  obtain ⟨p, l, e, R, s, m, args, below, meth, c, cells0, slots0, Q⟩ := E
  subst hq; subst hL
  obtain ⟨h1, h2, -⟩ := hC
  intro H locs ls hP hD hS hl
  obtain ⟨i, hi⟩ := List.getElem?_of_mem (lk_mem.mpr hx)
  exact lv_iinc h1 h2 hd (lk_to hl) hi hy (gl_lt _ _ _ hx) rfl (fun ls' h' => kk H locs ls' hP hD hS (lk_st hl rfl h'))

theorem w_icmp_ge (hC : Cg E D A cs cc own nL Ts fr lo rc rs) {x y : Int32} {off : Int} (hd : decode cc pc = .ok (.if_icmp .ge off, 3)) (ht : (pc : Int) + off = (t : Int)) (hq : pc + 3 = q) (kt : y ≤ x → Wg E D A nW U ent cells slots t L st) (kf : ¬ y ≤ x → Wg E D A nW U ent cells slots q L st) : Wg E D A nW U ent cells slots pc L (.int y :: .int x :: st) := by
  obtain ⟨p, l, e, R, s, m, args, below, meth, c, cells0, slots0, Q⟩ := E
  subst hq
  obtain ⟨h1, h2, -⟩ := hC
  intro H locs ls hP hD hS hl
  exact lv_icmp_ge h1 h2 hd ht (fun h => kt h H locs ls hP hD hS hl) (fun h => kf h H locs ls hP hD hS hl)

theorem w_goto (hC : Cg E D A cs cc own nL Ts fr lo rc rs) {off : Int} (hd : decode cc pc = .ok (.goto off, 3)) (ht : (pc : Int) + off = (t : Int)) (kk : Wg E D A nW U ent cells slots t L st) : Wg E D A nW U ent cells slots pc L st := by
  obtain ⟨p, l, e, R, s, m, args, below, meth, c, cells0, slots0, Q⟩ := E
  obtain ⟨h1, h2, -⟩ := hC
  intro H locs ls hP hD hS hl
  exact lv_goto h1 h2 hd ht (kk H locs ls hP hD hS hl)

theorem w_newa (hC : Cg E D A cs cc own nL Ts fr lo rc rs) {atype : ArrayType} {ty : FieldType} {cA0 : ClassId} {a0 : vp_A} {x : Int32} {N : Nat} (t0 : Nat) (harr : Cond.arrayClass ty ∈ Ts) (hty : newarray.typeOf atype = ty) (ht : (tys4 cs)[t0]? = some (cA0, ty)) (hRA : ∀ (V : State) (c : ClassId), va_RA V c ty → V.vm.findClass ("[" ++ ty.toString) = some c) (ha : ∀ cA : ClassId, vp_cell cA a0 = arrV cA N (fun _ => defaultValue ty)) (hn : ¬ x < 0) (hN : x.toNatClampNeg = N) (hb : N * componentBytes ty ≤ 536870912) (hrc : cells + 1 ≤ rc) (hrs : slots + N ≤ rs) (hd : decode cc pc = .ok (.newarray atype, 2)) (hq : pc + 2 = q) (kk : ∀ a, Wg E D A (n + 1) (va_up U n a) (va_up ent n (.inl (cA0, a0))) (cells + 1) (slots + N) q L (.ref a :: st)) : Wg E D A n U ent cells slots pc L (.int x :: st) := by
  obtain ⟨p, l, e, R, s, m, args, below, meth, c, cells0, slots0, Q⟩ := E
  subst hq
  obtain ⟨h1, h2, h3, h4, h5, h6, h7, h8, h9, h10, h11, h12, h13⟩ := hC
  intro H locs ls hP hD hS hl
  refine va_newa h1 h2 (by rw [hty]; exact h5 _ harr) hty h6 hP hD hS h9 ha hn hN hb (by rw [h12]; exact hrc) (by rw [h13]; exact hrs) hd (fun a cA H1 hK1 hP1 hD1 hS1 => ?_)
  have e1 := hRA _ _ (h6.2 t0 _ ht).2
  have e2 := hRA _ _ (hK1.2 4 (cA, ty) rfl).2
  have e3 : cA = cA0 := Option.some.inj (e2.symm.trans e1)
  subst e3
  rw [wlU_push] at hP1 hD1
  exact kk a H1 locs ls hP1 hD1 hS1 hl
theorem w_newq (hC : Cg E D A cs cc own nL Ts fr lo rc rs) {C : String} {cA0 : ClassId} {x : Int32} {N idx : Nat} (t0 : Nat) (hcl : Cond.classLink own idx C ∈ Ts) (hC2 : C = RX0 ∨ C = RX2) (ht : (tys4 cs)[t0]? = some (cA0, .object C)) (hn : ¬ x < 0) (hN : x.toNatClampNeg = N) (hb : N * 4 ≤ 536870912) (hrc : cells + 1 ≤ rc) (hrs : slots + N ≤ rs) (hd : decode cc pc = .ok (.anewarray idx, 3)) (hq : pc + 3 = q) (kk : ∀ a, Wg E D A (n + 1) (va_up U n a) (va_up ent n (.inl (cA0, N, .inr (.inr (.inr (.inr (fun _ => none))))))) (cells + 1) (slots + N) q L (.ref a :: st)) : Wg E D A n U ent cells slots pc L (.int x :: st) := by
  obtain ⟨p, l, e, R, s, m, args, below, meth, c, cells0, slots0, Q⟩ := E
  subst hq
  obtain ⟨h1, h2, h3, h4, h5, h6, h7, h8, h9, h10, h11, h12, h13⟩ := hC
  intro H locs ls hP hD hS hl
  have ho : va_AO C s := by
    rcases hC2 with rfl | rfl
    · exact h8.1
    · exact h8.2
  refine va_newq h1 h2 h4 (h5 _ hcl) ho h6 hP hD hS h9 hn hN hb (by rw [h12]; exact hrc) (by rw [h13]; exact hrs) hd (fun a cA H1 hK1 hP1 hD1 hS1 => ?_)
  obtain ⟨k1, c1, f1, f2, f3, f4⟩ := (h6.2 t0 _ ht).2
  obtain ⟨k2, c2, g1, g2, g3, g4⟩ := (hK1.2 4 (cA, .object C) rfl).2
  have e3 : cA = cA0 := Option.some.inj (g4.symm.trans f4)
  subst e3
  rw [wlU_push] at hP1 hD1
  exact kk a H1 locs ls hP1 hD1 hS1 hl
theorem w_new (hC : Cg E D A cs cc own nL Ts fr lo rc rs) {C : String} {T : u_T} {N idx ci : Nat} {fs : List Value} (ty : Nat → FieldType) (hcl : vwCl[ci]? = some (C, T, N)) (hin : ∀ w ∈ u_ws C T N, w ∈ Ts) (hty : ∀ k, k < N → parseFieldDescriptor (T k).2.2.1 = some (ty k)) (hw1 : Cond.classLink own idx C ∈ Ts) (hw2 : Cond.instantiable C N ∈ Ts) (hw3 : Cond.initialized C ∈ Ts) (hfs : ∀ j, j < N → defaultValue (ty j) = vp_V fs j) (hrc : cells + 1 ≤ rc) (hrs : slots + N ≤ rs) (hd : decode cc pc = .ok (.new idx, 3)) (hq : pc + 3 = q) (kk : ∀ a, Wg E D A (n + 1) (va_up U n a) (va_up ent n (.inr (ci, fs))) (cells + 1) (slots + N) q L (.ref a :: st)) : Wg E D A n U ent cells slots pc L st := by
  obtain ⟨p, l, e, R, s, m, args, below, meth, c, cells0, slots0, Q⟩ := E
  subst hq
  obtain ⟨h1, h2, h3, h4, h5, h6, h7, h8, h9, h10, h11, h12, h13⟩ := hC
  intro H locs ls hP hD hS hl
  refine va_new (ci := ci) (fs := fs) (C := C) (T := T) (N := N) h1 h2 h5 hin ty hty h4 (h5 _ hw1) (h5 _ hw2) (h5 _ hw3) h6 hP hD hS h9 hcl hfs (by rw [h12]; exact hrc) (by rw [h13]; exact hrs) hd (fun a H1 hP1 hD1 hS1 => ?_)
  rw [wlU_push] at hP1 hD1
  exact kk a H1 locs ls hP1 hD1 hS1 hl
theorem w_putF (hC : Cg E D A cs cc own nL Ts fr lo rc rs) (hI : Ini E) {C : String} {T : u_T} {N idx ci k : Nat} {fs : List Value} {x : Value} (j : Nat) (ty0 : Nat → FieldType) {a : Nat} (hk : k < n) (hU : U k = a) (hent : ent k = .inr (ci, fs)) (hcl : vwCl[ci]? = some (C, T, N)) (hj : j < N) (hin : ∀ w ∈ u_ws C T N, w ∈ Ts) (hty : ∀ k, k < N → parseFieldDescriptor (T k).2.2.1 = some (ty0 k)) (hnm : ∀ a, a < N → ∀ b, b < N → a ≠ b → (T a).2.1 ≠ (T b).2.1) (hl : Cond.fieldLink own idx (T j).1 (T j).2.1 (T j).2.2.1 ∈ Ts) (hfin : (T j).2.2.2 = true) (hdecl : (T j).1 = own) {ty : FieldType} (hpd : parseFieldDescriptor (T j).2.2.1 = some ty) (hnar : narrow ty x = x) (hfit : fits ty x = true) (hlen : j < fs.length) (hd : decode cc pc = .ok (.putfield idx, 3)) (hq : pc + 3 = q) (kk : Wg E D A n U (va_up ent k (.inr (ci, fs.set j x))) cells slots q L st) : Wg E D A n U ent cells slots pc L (x :: .ref a :: st) := by
  obtain ⟨p, l, e, R, s, m, args, below, meth, c, cells0, slots0, Q⟩ := E
  subst hq hU
  obtain ⟨h1, h2, h3, h4, h5, h6, h7, h8, h9, h10, h11, h12, h13⟩ := hC
  intro H locs ls hP hD hS hls
  refine va_putF (D := D) (ci := ci) (v := x) (ty := ty) (C := C) (T := T) (N := N) h1 h2 h5 hin ty0 hty hnm h4 h6 hP hD hS k (by rw [wlU_get hk, hent]) hcl j hj (h5 _ hl) (fun _ h9 => h9) hfin hI hdecl hpd hnar hfit hlen hd (fun H1 locs1 hP1 hD1 hS1 => ?_)
  rw [wlU_set hk] at hP1 hD1
  exact kk H1 locs1 ls hP1 hD1 hS1 hls
theorem w_put (hC : Cg E D A cs cc own nL Ts fr lo rc rs) {C : String} {T : u_T} {N idx ci k : Nat} {fs : List Value} {x : Int32} (j : Nat) (ty0 : Nat → FieldType) {a : Nat} (hk : k < n) (hU : U k = a) (hent : ent k = .inr (ci, fs)) (hcl : vwCl[ci]? = some (C, T, N)) (hj : j < N) (hin : ∀ w ∈ u_ws C T N, w ∈ Ts) (hty : ∀ k, k < N → parseFieldDescriptor (T k).2.2.1 = some (ty0 k)) (hnm : ∀ a, a < N → ∀ b, b < N → a ≠ b → (T a).2.1 ≠ (T b).2.1) (hl : Cond.fieldLink own idx (T j).1 (T j).2.1 (T j).2.2.1 ∈ Ts) (hfin : (T j).2.2.2 = false) (hpd : parseFieldDescriptor (T j).2.2.1 = some .int) (hlen : j < fs.length) (hd : decode cc pc = .ok (.putfield idx, 3)) (hq : pc + 3 = q) (kk : Wg E D A n U (va_up ent k (.inr (ci, fs.set j (.int x)))) cells slots q L st) : Wg E D A n U ent cells slots pc L (.int x :: .ref a :: st) := by
  obtain ⟨p, l, e, R, s, m, args, below, meth, c, cells0, slots0, Q⟩ := E
  subst hq hU
  obtain ⟨h1, h2, h3, h4, h5, h6, h7, h8, h9, h10, h11, h12, h13⟩ := hC
  intro H locs ls hP hD hS hls
  refine va_put (D := D) (ty := .int) h1 h2 h5 hin ty0 hty hnm h4 h6 hP hD hS k (by rw [wlU_get hk, hent]) hcl j hj (h5 _ hl) (fun _ h9 => h9) hfin hpd rfl rfl hlen hd (fun H1 locs1 hP1 hD1 hS1 => ?_)
  rw [wlU_set hk] at hP1 hD1
  exact kk H1 locs1 ls hP1 hD1 hS1 hls
theorem w_get (hC : Cg E D A cs cc own nL Ts fr lo rc rs) {C : String} {T : u_T} {N idx ci k : Nat} {fs : List Value} {x : Value} (j : Nat) {a : Nat} (hk : k < n) (hU : U k = a) (hent : ent k = .inr (ci, fs)) (hcl : vwCl[ci]? = some (C, T, N)) (hj : j < N) (hin : ∀ w ∈ u_ws C T N, w ∈ Ts) (hl : Cond.fieldLink own idx (T j).1 (T j).2.1 (T j).2.2.1 ∈ Ts) (hx : fs[j]? = some x) (hd : decode cc pc = .ok (.getfield idx, 3)) (hq : pc + 3 = q) (kk : Wg E D A n U ent cells slots q L (x :: st)) : Wg E D A n U ent cells slots pc L (.ref a :: st) := by
  obtain ⟨p, l, e, R, s, m, args, below, meth, c, cells0, slots0, Q⟩ := E
  subst hq hU
  obtain ⟨h1, h2, h3, h4, h5, h6, h7, h8, h9, h10, h11, h12, h13⟩ := hC
  intro H locs ls hP hD hS hls
  exact va_get (D := D) h1 h2 h5 hin h4 h6 hP k (by rw [wlU_get hk, hent]) hcl j hj (h5 _ hl) (fun _ h9 => h9) hx hd (kk H locs ls hP hD hS hls)
theorem w_aast (hC : Cg E D A cs cc own nL Ts fr lo rc rs) {C : String} {T : u_T} {N ci k k2 M : Nat} {cA0 : ClassId} {f : Nat → Option Nat} {vs : List Value} {i : Int32} (t0 : Nat) {a a2 : Nat} (hk : k < n) (hU : U k = a) (hU2 : U k2 = a2) (hent : ent k = .inl (cA0, M, .inr (.inr (.inr (.inr f))))) (ht : (tys4 cs)[t0]? = some (cA0, .object C)) (hk2 : k2 < n) (hent2 : ent k2 = .inr (ci, vs)) (hcl : vwCl[ci]? = some (C, T, N)) (hi : vp_in i M) (hd : decode cc pc = .ok (.aastore, 1)) (hq : pc + 1 = q) (kk : Wg E D A n U (va_up ent k (.inl (cA0, M, .inr (.inr (.inr (.inr (va_up f i.toNatClampNeg (some a2)))))))) cells slots q L st) : Wg E D A n U ent cells slots pc L (.ref a2 :: .int i :: .ref a :: st) := by
  obtain ⟨p, l, e, R, s, m, args, below, meth, c, cells0, slots0, Q⟩ := E
  subst hq hU hU2
  obtain ⟨h1, h2, h3, h4, h5, h6, h7, h8, h9, h10, h11, h12, h13⟩ := hC
  intro H locs ls hP hD hS hls
  refine va_astq (D := D) (r := (C, T, N)) h1 h2 h6 hP hD hS k t0 k2 ci (by rw [wlU_get hk, hent]) ht (by rw [wlU_get hk2, hent2]) hcl hi hd (fun H1 locs1 hP1 hD1 hS1 => ?_)
  rw [wlU_set hk] at hP1 hD1
  exact kk H1 locs1 ls hP1 hD1 hS1 hls
theorem w_iast (hC : Cg E D A cs cc own nL Ts fr lo rc rs) {k M : Nat} {cA0 : ClassId} {f : Nat → Int32} {i x : Int32} (t0 : Nat) {a : Nat} (hk : k < n) (hU : U k = a) (hent : ent k = .inl (cA0, M, .inl f)) (ht : (tys4 cs)[t0]? = some (cA0, .int)) (hi : vp_in i M) (hd : decode cc pc = .ok (.iastore, 1)) (hq : pc + 1 = q) (kk : Wg E D A n U (va_up ent k (.inl (cA0, M, .inl (upd f i.toNatClampNeg x)))) cells slots q L st) : Wg E D A n U ent cells slots pc L (.int x :: .int i :: .ref a :: st) := by
  obtain ⟨p, l, e, R, s, m, args, below, meth, c, cells0, slots0, Q⟩ := E
  subst hq hU
  obtain ⟨h1, h2, h3, h4, h5, h6, h7, h8, h9, h10, h11, h12, h13⟩ := hC
  intro H locs ls hP hD hS hls
  refine va_iast (D := D) h1 h2 h6 hP hD hS k t0 (by rw [wlU_get hk, hent]) ht hi hd (fun H1 locs1 hP1 hD1 hS1 => ?_)
  rw [wlU_set hk] at hP1 hD1
  exact kk H1 locs1 ls hP1 hD1 hS1 hls
theorem w_obj (hC : Cg E D A cs cc own nL Ts fr lo rc rs) {idx a : Nat} (hw1 : Cond.methodLink own idx objectInit ∈ Ts) (hw2 : Cond.instanceMethod objectInit ∈ Ts) (hw3 : Cond.code objectInit ⟨#[0xb1]⟩ 1 none ∈ Ts) (hL : L.length = nL) (hfr : 1 ≤ fr) (hlo : (st.map fun v => v.category).sum + 12 ≤ lo) (hd : decode cc pc = .ok (.invokespecial idx, 3)) (hq : pc + 3 = q) (kk : Wg E D A n U ent cells slots q L st) : Wg E D A n U ent cells slots pc L (.ref a :: st) := by
  obtain ⟨p, l, e, R, s, m, args, below, meth, c, cells0, slots0, Q⟩ := E
  subst hq
  obtain ⟨h1, h2, h3, h4, h5, h6, h7, h8, h9, h10, h11, h12, h13⟩ := hC
  intro H locs ls hP hD hS hls
  refine W.objInit h1 h2 h4 (h5 _ hw1) (h5 _ hw2) (h5 _ hw3) rfl (by rw [h3]; exact hls.1.trans hL) rfl hd (by rw [h10]; exact hfr) (by rw [h11]; show 2 * 0 + _ + 12 ≤ lo; omega) ?_
  exact kk H locs ls hP hD hS hls
end WG
/-! contracts of what makes -/
abbrev GW : Type := Nat × (Nat → Nat) × (Nat → va_E)
def Wq (D : va_G) (A : Nat → Prop) (cs : CS) (n : Nat) (U : Nat → Nat) (ent : Nat → va_E) (V : State) : Prop := va_P D vwCl (wlU n U ent) V.heap ∧ va_D A (wlU n U ent) ∧ va_K D vwCl (tys4 cs) V ∧ NW V ∧ (va_AO RX0 V ∧ va_AO RX2 V) ∧ ∀ q, V.heap.size ≤ q → A q
def Wr (D : va_G) (A : Nat → Prop) (u : GW) (t : State) : Prop := va_P D vwCl (wlU u.1 u.2.1 u.2.2) t.heap ∧ va_D A (wlU u.1 u.2.1 u.2.2)
def MtG (l : Launch) (D : va_G) (A : Nat → Prop) (cs : CS) (y : MethodName) (ws : List Cond) (fr lo mc ms : Nat) (as : List Value) (n : Nat) (U : Nat → Nat) (ent : Nat → va_E) (post : GW → Prop) : Prop := Met l y ws { frames := fr, cells := mc, slots := ms, locals := lo } (va_Pc as (Wq D A cs n U ent)) (va_Qv post (Wr D A) A) mc ms A
def RtG (E : TE) (D : va_G) (A : Nat → Prop) (cc : ByteArray) (mc ms : Nat) (post : GW → Prop) : Prop := ∀ (n : Nat) (U : Nat → Nat) (ent : Nat → va_E) (pc : Nat) (L : List (Option Value)), decode cc pc = .ok (.return_, 1) → post (n, U, ent) → Wg E D A n U ent mc ms pc L []
theorem Wq.calling {D : va_G} {A : Nat → Prop} {cs : CS} {n : Nat} {U : Nat → Nat} {ent : Nat → va_E} {V : State} (g : JFrame) (mk : MethodId) (a : Array Value) (h : Wq D A cs n U ent V) : Wq D A cs n U ent (V.calling g mk a) :=
  ⟨h.1, h.2.1, va_K.moved (u := V) (U := V.calling g mk a) (Vm.Alike.refl V.vm) h.2.2.1, h.2.2.2.1.same rfl, ⟨va_AO.moved (u := V) (U := V.calling g mk a) (Vm.Alike.refl V.vm) h.2.2.2.2.1.1, va_AO.moved (u := V) (U := V.calling g mk a) (Vm.Alike.refl V.vm) h.2.2.2.2.1.2⟩, h.2.2.2.2.2⟩
theorem mt_g {l : Launch} {D : va_G} {A : Nat → Prop} {cs : CS} {y : MethodName} {ws ws' : List Cond} {fr lo mc ms nL n : Nat} {as : List Value} {U : Nat → Nat} {ent : Nat → va_E} {post : GW → Prop} {cc : ByteArray} {L0 : List (Option Value)} {own : String} (hy : plainName y.cls = true) (hnm : y.name = "<init>") (hw : ws = Cond.code y cc nL none :: ws') (hc : ∀ x ∈ as, x.category = 1) (hn : as.length ≤ nL) (hL : L0 = as.map some ++ List.replicate (nL - as.length) none) (hown : y.cls = own) (body : ∀ E : TE, Cg E D A cs cc own nL ws fr lo mc ms → Ini E → RtG E D A cc mc ms post → Wg E D A n U ent 0 0 0 L0 []) : MtG l D A cs y ws fr lo mc ms as n U ent post := by
  refine Met.ofW (cc := cc) (maxL := nL) (ret := none) hy hw ?_
  intro p e s m args below meth c s₁ B hml hv
  obtain ⟨rfl, hP, hD, hK, hN, hO, hA⟩ := hv
  have hts := atoms_spec (ws := ws) B.pre
  have hfc : s.vm.findClass own = some m.cls := by rw [← hown]; exact findClass_of_methodNamed B.named
  have hr := B.returns
  have hI : meth.name = "<init>" := by rw [← hnm]; exact (name_of_methodNamed B.named B.method).1
  have hC : Cg (p, l, e, (headSpec ws { frames := fr, cells := mc, slots := ms, locals := lo }).room, s, m, as.toArray, below, meth, c, 0, 0, MQ below (va_Qv post (Wr D A) A) as.toArray s mc ms A) D A cs cc own nL ws fr lo mc ms := ⟨B.exec, B.bytes, hml, hfc, hts, hK, hN, hO, hA, rfl, rfl, rfl, rfl⟩
  have hR : RtG (p, l, e, (headSpec ws { frames := fr, cells := mc, slots := ms, locals := lo }).room, s, m, as.toArray, below, meth, c, 0, 0, MQ below (va_Qv post (Wr D A) A) as.toArray s mc ms A) D A cc mc ms post := by
    intro n' U' ent' pc L hd hpost H locs ls hP' hD' hS hls
    have hq : ∀ t : State, t.heap = H → s.WarmedH t.vm → va_Qv post (Wr D A) A as.toArray s (.returned none) t := fun t ht hW => ⟨⟨(n', U', ent'), rfl, hpost, by rw [ht]; exact hP', hD'⟩, hS.F ht⟩
    exact W.vret B.exec B.bytes hr hq hS.2.2 hd B.notSynchronized
  have hl := lv_entry as (n := nL) (by rw [lg_len1 hc]; exact hn)
  rw [lg_entry_eq]
  exact body _ hC hI hR s.heap [] _ hP hD va_S.rf (lk_entry hc hL hn hl)
section WC
variable {E : TE} {D : va_G} {A : Nat → Prop} {cs : CS} {n nW cells slots pc q t : Nat} {U : Nat → Nat} {ent : Nat → va_E} {L L' : List (Option Value)} {st : List Value} {cc : ByteArray} {own : String} {nL fr lo rc rs : Nat} {Ts : List Cond}
variable {y : MethodName} {ws ws' : List Cond} {bytes : ByteArray} {maxL fr' lo' mc ms idx a : Nat}
theorem w_cN (hC : Cg E D A cs cc own nL Ts fr lo rc rs) {post : GW → Prop} {host : String} (hM : ∀ l, MtG l D A cs y ws fr' lo' mc ms [.ref a] n U ent post) (hg : GoodIn Ts ws) (hw : ws = Cond.code y bytes maxL none :: ws') (i : Nat) (hnest : nestM[i]? = some (own, idx, y, host)) (hw1 : Cond.initialized y.cls ∈ Ts) (hw2 : Cond.instanceMethod y ∈ Ts) (hnm : y.name = "<init>") (hd1 : y.cls ≠ "java/lang/invoke/MethodHandle" ∧ y.cls ≠ "java/lang/invoke/VarHandle" ∧ (parseMethodDescriptor y.desc).map (fun d => d.parameters.length) = some 0) (hr : fr' + 1 ≤ fr ∧ 8 + (maxL + 11) + lo' ≤ lo) (hrc : cells + mc ≤ rc) (hrs : slots + ms ≤ rs) (hL : L.length = nL) (hcat : (st.map fun v => v.category).sum ≤ 8) (hd : decode cc pc = .ok (.invokespecial idx, 3)) (hq : pc + 3 = q) (kk : ∀ u : GW, post u → Wg E D A u.1 u.2.1 u.2.2 (cells + mc) (slots + ms) q L st) : Wg E D A n U ent cells slots pc L (.ref a :: st) := by
  obtain ⟨p, l, e, R, s, m, args, below, meth, c, cells0, slots0, Q⟩ := E
  subst hq
  obtain ⟨h1, h2, h3, h4, h5, h6, h7, h8, h9, h10, h11, h12, h13⟩ := hC
  intro H locs ls hP hD hS hls
  refine va_callv (va_runIN (As := []) (rest := st) ⟨h1, h2, h3, h4, h5⟩ (hM l) ⟨va_cnB 0 h5 hg hw rfl rfl (h7.2 _ (List.mem_of_getElem? hnest)) (h5 _ hw1) hd1 ⟨by rw [h10]; exact hr.1, by rw [h11]; exact hr.2⟩, hnm, h5 _ hw2⟩ ⟨fun a V g mk qq => ⟨qq.1, qq.2.calling g mk a⟩, fun V hV hW => ⟨rfl, by rw [hV]; exact hP, hD, va_K.moved hW.alike h6, h7.warm hW, ⟨va_AO.moved hW.alike h8.1, va_AO.moved hW.alike h8.2⟩, fun a ha => h9 a (Nat.le_trans hS.1 (by rw [hV] at ha; exact ha))⟩⟩ rfl rfl (hls.1.trans hL) rfl (lv_room hcat) hd ⟨by rw [h12]; exact hrc, by rw [h13]; exact hrs⟩) hS (fun q _ h => h) (fun q h => h) (fun u t H1 locs1 ht hvm hpost hB hz hk hS1 => ?_)
  have hP1 := hB.1
  rw [ht] at hP1
  exact kk u hpost H1 locs1 ls hP1 hB.2 hS1 hls
theorem w_cD (hC : Cg E D A cs cc own nL Ts fr lo rc rs) {post : GW → Prop} (hM : ∀ l, MtG l D A cs y ws fr' lo' mc ms [.ref a] n U ent post) (hg : GoodIn Ts ws) (hw : ws = Cond.code y bytes maxL none :: ws') (hw0 : Cond.methodLink own idx y ∈ Ts) (hw1 : Cond.initialized y.cls ∈ Ts) (hw2 : Cond.instanceMethod y ∈ Ts) (hnm : y.name = "<init>") (hd1 : y.cls ≠ "java/lang/invoke/MethodHandle" ∧ y.cls ≠ "java/lang/invoke/VarHandle" ∧ (parseMethodDescriptor y.desc).map (fun d => d.parameters.length) = some 0) (hr : fr' + 1 ≤ fr ∧ 8 + (maxL + 11) + lo' ≤ lo) (hrc : cells + mc ≤ rc) (hrs : slots + ms ≤ rs) (hL : L.length = nL) (hcat : (st.map fun v => v.category).sum ≤ 8) (hd : decode cc pc = .ok (.invokespecial idx, 3)) (hq : pc + 3 = q) (kk : ∀ u : GW, post u → Wg E D A u.1 u.2.1 u.2.2 (cells + mc) (slots + ms) q L st) : Wg E D A n U ent cells slots pc L (.ref a :: st) := by
  obtain ⟨p, l, e, R, s, m, args, below, meth, c, cells0, slots0, Q⟩ := E
  subst hq
  obtain ⟨h1, h2, h3, h4, h5, h6, h7, h8, h9, h10, h11, h12, h13⟩ := hC
  intro H locs ls hP hD hS hls
  refine va_callv (va_runI (As := []) (rest := st) ⟨h1, h2, h3, h4, h5⟩ (hM l) (cwI 0 h5 hg hw rfl rfl (h5 _ hw1) (h5 _ hw0) (h5 _ hw2) hnm hd1 ⟨by rw [h10]; exact hr.1, by rw [h11]; exact hr.2⟩) ⟨fun a V g mk qq => ⟨qq.1, qq.2.calling g mk a⟩, fun V hV hW => ⟨rfl, by rw [hV]; exact hP, hD, va_K.moved hW.alike h6, h7.warm hW, ⟨va_AO.moved hW.alike h8.1, va_AO.moved hW.alike h8.2⟩, fun a ha => h9 a (Nat.le_trans hS.1 (by rw [hV] at ha; exact ha))⟩⟩ rfl rfl (hls.1.trans hL) rfl (lv_room hcat) hd ⟨by rw [h12]; exact hrc, by rw [h13]; exact hrs⟩) hS (fun q _ h => h) (fun q h => h) (fun u t H1 locs1 ht hvm hpost hB hz hk hS1 => ?_)
  have hP1 := hB.1
  rw [ht] at hP1
  exact kk u hpost H1 locs1 ls hP1 hB.2 hS1 hls
end WC
