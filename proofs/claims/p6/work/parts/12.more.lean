/-! arraycopy, rows of a grid, switches, guards -/
def FU : Nat := 10000000
def bad (i : Int32) (n : Nat) : Bool := decide (i < 0) || decide (n ≤ i.toNatClampNeg)
theorem bad_s {α : Type} {i : Int32} {n : Nat} {a : Option α} {R : α} (h : (if bad i n = true then none else a) = some R) : vp_in i n ∧ a = some R := by
  obtain ⟨h1, h2⟩ := ite_n h
  refine ⟨fun z => h1 ?_, h2⟩
  rcases z with z | z
  · simp [bad, z]
  · simp [bad, z]
def isB (v : Int32) : Bool := v == 0 || v == 1
theorem isB_s {α : Type} {v : Int32} {a : Option α} {R : α} (h : (if isB v = true then a else none) = some R) : narrow .boolean (.int v) = .int v ∧ a = some R := by
  by_cases q : isB v = true
  · rw [if_pos q] at h
    refine ⟨?_, h⟩
    simp only [isB, Bool.or_eq_true, beq_iff_eq] at q
    rcases q with rfl | rfl <;> rfl
  · rw [if_neg q] at h
    cases h
theorem ite_p {α : Type} {c : Prop} {d : Decidable c} {a : Option α} {R : α} (h : (@ite _ c d a none) = some R) : c ∧ a = some R := by
  by_cases q : c
  · rw [if_pos q] at h; exact ⟨q, h⟩
  · rw [if_neg q] at h; cases h
theorem ite_t {α : Type} {c : Prop} {d : Decidable c} {a b : Option α} {R : α} (h : (@ite _ c d a b) = some R) (q : c) : a = some R := (if_pos q).symm.trans h
theorem ite_f {α : Type} {c : Prop} {d : Decidable c} {a b : Option α} {R : α} (h : (@ite _ c d a b) = some R) (q : ¬ c) : b = some R := (if_neg q).symm.trans h
theorem ne_int {x v : Int32} {z : Int} (h : ¬ x = v) (hz : v.toInt = z) : x.toInt ≠ z := fun q => h (Int32.toInt_inj.mp (by rw [q, hz]))
theorem g_sub {G : Gx} {C : Cx} {k n pc : Nat} {lv : List (Nat × Value)} {st : List Value} {ws : va_W} {lv2 : List (Nat × Value)} (ks : List Nat) (h : lv_pick lv ks = lv2) (K : vG G C k n pc lv2 st ws) : vG G C k n pc lv st ws := by
  obtain ⟨p, e, R, s, m, args, below, meth, c, A, Q⟩ := C
  intro H locs ls hP hD hS hl
  exact K H locs ls hP hD hS (lv_sub hl ks h)
theorem g_at {G : Gx} {C : Cx} {k n pc : Nat} {lv : List (Nat × Value)} {st : List Value} {ws : va_W} {pc2 : Nat} (h : pc2 = pc) (K : vG G C k n pc2 lv st ws) : vG G C k n pc lv st ws := h ▸ K
theorem g_copyI {G : Gx} {C : Cx} {cc : ByteArray} {own : String} {nL : Nat} {ret : Option FieldType} {R0 : Room} {k n pc : Nat} {lv : List (Nat × Value)} {st : List Value} {ws : va_W} {a a0 N0 N1 i : Nat} {f g f2 : Nat → Int32} {sp dp z : Int32} {ws2 : va_W} (q0 q1 : Nat) (hC : vH G C cc own nL ret R0) (lk : Cond.methodLink own i arraycopyName ∈ TB) (l2 : Cond.native arraycopyName ∈ TB) (l3 : Cond.static arraycopyName ∈ TB) (l4 : Cond.initialized "java/lang/System" ∈ TB) (d : decode cc pc = .ok (.invokestatic i, 3)) (ha0 : ws[q0]? = some (a0, eI G N0 f)) (ha1 : ws[q1]? = some (a, eI G N1 g)) (h1 : ¬ sp < 0) (h2 : ¬ dp < 0) (h3 : ¬ z < 0) (h4 : sp.toNatClampNeg + z.toNatClampNeg ≤ N0) (h5 : dp.toNatClampNeg + z.toNatClampNeg ≤ N1)  (hR1 : 1 ≤ R0.frames) (hR2 : (st.map fun v => v.category).sum + (nativeFrameWords "java/lang/System" "arraycopy" 5 + 11) ≤ R0.locals) (ef : f2 = va_cpy f g sp.toNatClampNeg dp.toNatClampNeg z.toNatClampNeg) (hw : ws.set q1 (a, eI G N1 f2) = ws2) (K : vG G C k n (pc + 3) lv st ws2) : vG G C k n pc lv (.int z :: .int dp :: .ref a :: .int sp :: .ref a0 :: st) ws := by
  obtain ⟨p, e, R, s, m, args, below, meth, c, A, Q⟩ := C
  obtain ⟨hx, hb, hml, hown, hts, hr, hlk, hK, hA, hE, hR⟩ := hC
  intro H locs ls hP hD hS hl
  subst hR; subst ef; subst hw
  exact va_copyi hx hb (hml.trans (hl.1.trans hml).symm) hown (hts _ lk) (hts _ l2) (hts _ l3) (hts _ l4) hK hP hD hS q0 q1 0 0 ha0 ha1 rfl rfl rfl h1 h2 h3 h4 h5 (fun _ _ => rfl) hR1 hR2 d (fun H locs hP hD hS => (K H locs ls hP hD hS hl))
theorem g_copyB {G : Gx} {C : Cx} {cc : ByteArray} {own : String} {nL : Nat} {ret : Option FieldType} {R0 : Room} {k n pc : Nat} {lv : List (Nat × Value)} {st : List Value} {ws : va_W} {a a0 N0 N1 i : Nat} {f g f2 : Nat → Int32} {sp dp z : Int32} {ws2 : va_W} (q0 q1 : Nat) (hC : vH G C cc own nL ret R0) (lk : Cond.methodLink own i arraycopyName ∈ TB) (l2 : Cond.native arraycopyName ∈ TB) (l3 : Cond.static arraycopyName ∈ TB) (l4 : Cond.initialized "java/lang/System" ∈ TB) (d : decode cc pc = .ok (.invokestatic i, 3)) (ha0 : ws[q0]? = some (a0, eB G N0 f)) (ha1 : ws[q1]? = some (a, eB G N1 g)) (h1 : ¬ sp < 0) (h2 : ¬ dp < 0) (h3 : ¬ z < 0) (h4 : sp.toNatClampNeg + z.toNatClampNeg ≤ N0) (h5 : dp.toNatClampNeg + z.toNatClampNeg ≤ N1) (hfit : ∀ i, i < z.toNatClampNeg → xi2b (f (sp.toNatClampNeg + i)) = f (sp.toNatClampNeg + i)) (hR1 : 1 ≤ R0.frames) (hR2 : (st.map fun v => v.category).sum + (nativeFrameWords "java/lang/System" "arraycopy" 5 + 11) ≤ R0.locals) (ef : f2 = va_cpy f g sp.toNatClampNeg dp.toNatClampNeg z.toNatClampNeg) (hw : ws.set q1 (a, eB G N1 f2) = ws2) (K : vG G C k n (pc + 3) lv st ws2) : vG G C k n pc lv (.int z :: .int dp :: .ref a :: .int sp :: .ref a0 :: st) ws := by
  obtain ⟨p, e, R, s, m, args, below, meth, c, A, Q⟩ := C
  obtain ⟨hx, hb, hml, hown, hts, hr, hlk, hK, hA, hE, hR⟩ := hC
  intro H locs ls hP hD hS hl
  subst hR; subst ef; subst hw
  exact va_copyi hx hb (hml.trans (hl.1.trans hml).symm) hown (hts _ lk) (hts _ l2) (hts _ l3) (hts _ l4) hK hP hD hS q0 q1 1 1 ha0 ha1 rfl rfl rfl h1 h2 h3 h4 h5 (fun i hi => by have h9 := hfit i hi; rw [← h9]; exact pk_fb _) hR1 hR2 d (fun H locs hP hD hS => (K H locs ls hP hD hS hl))
def cpyok (sp dp z : Int32) (n0 n1 : Nat) : Bool := decide (¬ sp < 0) && decide (¬ dp < 0) && decide (¬ z < 0) && decide (sp.toNatClampNeg + z.toNatClampNeg ≤ n0) && decide (dp.toNatClampNeg + z.toNatClampNeg ≤ n1)
theorem cpy_s {α : Type} {sp dp z : Int32} {n0 n1 : Nat} {a : Option α} {R : α} (h : (if cpyok sp dp z n0 n1 = true then a else none) = some R) : (¬ sp < 0 ∧ ¬ dp < 0 ∧ ¬ z < 0 ∧ sp.toNatClampNeg + z.toNatClampNeg ≤ n0 ∧ dp.toNatClampNeg + z.toNatClampNeg ≤ n1) ∧ a = some R := by
  obtain ⟨h1, h2⟩ := ite_p h
  simp only [cpyok, Bool.and_eq_true, decide_eq_true_eq] at h1
  exact ⟨⟨h1.1.1.1.1, h1.1.1.1.2, h1.1.1.2, h1.1.2, h1.2⟩, h2⟩
