/-! worlds: cells at places put anew; calls; ends -/
def vpick (j : Nat) : List Nat → va_W → (Nat × va_E) → (Nat × va_E)
  | i :: is, q :: qs, w => match Nat.beq i j with
    | true => q
    | false => vpick j is qs w
  | _, _, w => w
def vrep (is : List Nat) (qs : va_W) : Nat → va_W → va_W
  | _, [] => []
  | j, w :: ws => vpick j is qs w :: vrep is qs (j + 1) ws
def vset (ws : va_W) (is : List Nat) (qs : va_W) : va_W := vrep is qs 0 ws
theorem vpick_at (j : Nat) : ∀ (is : List Nat) (qs : va_W) (w : Nat × va_E), is.length = qs.length → (∃ k : Nat, is[k]? = some j ∧ qs[k]? = some (vpick j is qs w)) ∨ (j ∉ is ∧ vpick j is qs w = w)
  | [], [], w, _ => Or.inr ⟨List.not_mem_nil, rfl⟩
  | [], _ :: _, w, hl => by simp at hl
  | _ :: _, [], w, hl => by simp at hl
  | i :: is, q :: qs, w, hl => by
    by_cases e : i = j
    · subst e
      exact Or.inl ⟨0, rfl, by simp [vpick]⟩
    · have hb : Nat.beq i j = false := by
        cases h : Nat.beq i j with
        | false => rfl
        | true => exact absurd (Nat.eq_of_beq_eq_true h) e
      have hv : vpick j (i :: is) (q :: qs) w = vpick j is qs w := by simp [vpick, hb]
      rw [hv]
      rcases vpick_at j is qs w (by simpa using hl) with ⟨k, h1, h2⟩ | ⟨h1, h2⟩
      · exact Or.inl ⟨k + 1, by simpa using h1, by simpa using h2⟩
      · exact Or.inr ⟨by simp only [List.mem_cons, not_or]; exact ⟨fun z => e z.symm, h1⟩, h2⟩
theorem vrep_get (is : List Nat) (qs : va_W) : ∀ (ws : va_W) (j0 j : Nat), (vrep is qs j0 ws)[j]? = (ws[j]?).map (vpick (j0 + j) is qs)
  | [], j0, j => by simp [vrep]
  | w :: ws, j0, 0 => by simp [vrep]
  | w :: ws, j0, j + 1 => by
    have := vrep_get is qs ws (j0 + 1) j
    rw [show j0 + 1 + j = j0 + (j + 1) by omega] at this
    simpa [vrep] using this
theorem vset_at (is : List Nat) (qs ws : va_W) (hl : is.length = qs.length) (j : Nat) (q : Nat × va_E) (h : (vset ws is qs)[j]? = some q) : (∃ k : Nat, is[k]? = some j ∧ qs[k]? = some q) ∨ (j ∉ is ∧ ws[j]? = some q) := by
  rw [vset, vrep_get, Nat.zero_add] at h
  cases hw : ws[j]? with
  | none => rw [hw] at h; cases h
  | some w =>
    rw [hw] at h
    have e : vpick j is qs w = q := Option.some.inj h
    rcases vpick_at j is qs w hl with ⟨k, h1, h2⟩ | ⟨h1, h2⟩
    · exact Or.inl ⟨k, h1, by rw [h2, e]⟩
    · exact Or.inr ⟨h1, by rw [← e, h2]⟩
theorem vset_fst (is : List Nat) (wc qs ws : va_W) (hc : is.map (fun i => (ws.map Prod.fst)[i]?) = wc.map (fun q => some q.1)) (hf : qs.map Prod.fst = wc.map Prod.fst) : (vset ws is qs).map Prod.fst = ws.map Prod.fst := by
  have hl : is.length = qs.length := by
    have h1 := congrArg List.length hc
    have h2 := congrArg List.length hf
    simp only [List.length_map] at h1 h2
    omega
  apply List.ext_getElem?
  intro j
  rw [List.getElem?_map, List.getElem?_map, vset, vrep_get, Nat.zero_add]
  cases hw : ws[j]? with
  | none => rfl
  | some w =>
    show some (vpick j is qs w).1 = some w.1
    rcases vpick_at j is qs w hl with ⟨k, h1, h2⟩ | ⟨h1, h2⟩
    · have e1 : (is.map (fun i => (ws.map Prod.fst)[i]?))[k]? = some (some w.1) := by
        rw [List.getElem?_map, h1]
        simp [hw]
      rw [hc, List.getElem?_map] at e1
      have e2 : (qs.map Prod.fst)[k]? = some (vpick j is qs w).1 := by rw [List.getElem?_map, h2]; rfl
      rw [hf, List.getElem?_map] at e2
      cases hk : wc[k]? with
      | none => rw [hk] at e1; cases e1
      | some x =>
        rw [hk] at e1 e2
        have a1 : x.1 = w.1 := Option.some.inj (Option.some.inj e1)
        have a2 : x.1 = (vpick j is qs w).1 := Option.some.inj e2
        rw [← a1, ← a2]
    · rw [h2]
theorem va_D_fst {A : Nat → Prop} {w1 w2 : va_W} (h : w2.map Prod.fst = w1.map Prod.fst) (hD : va_D A w1) : va_D A w2 := by
  have key : ∀ (k : Nat) (q : Nat × va_E), w2[k]? = some q → ∃ e : va_E, w1[k]? = some (q.1, e) := by
    intro k q hq
    have h1 : (w2.map Prod.fst)[k]? = some q.1 := by rw [List.getElem?_map, hq]; rfl
    rw [h, List.getElem?_map] at h1
    cases hw : w1[k]? with
    | none => rw [hw] at h1; cases h1
    | some x =>
      rw [hw] at h1
      have e : x.1 = q.1 := by simpa using h1
      exact ⟨x.2, by rw [← e]⟩
  refine ⟨fun i j p q hi hj hpq => ?_, fun k q hk => ?_⟩
  · obtain ⟨e1, h1⟩ := key i p hi
    obtain ⟨e2, h2⟩ := key j q hj
    exact hD.1 i j _ _ h1 h2 hpq
  · obtain ⟨e1, h1⟩ := key k q hk
    exact hD.2 k (q.1, e1) h1
/-- behind a call: the caller's world, the callee's cells put anew at their places -/
theorem vset_join {A0 : Nat → Prop} {D : va_G} {cl : List vw_C} {ws wc w1 : va_W} {H H1 : Heap} (hP : va_P D cl ws H) (hD : va_D A0 ws) (is : List Nat) (hc : is.map (fun i => ws[i]?) = wc.map some) (hf : w1.map Prod.fst = wc.map Prod.fst)
    (hk : ∀ q : Nat, q < H.size → ¬ va_A wc H.size q → H1[q]? = H[q]?) (hP1 : va_P D cl w1 H1) : va_P D cl (vset ws is w1) H1 ∧ va_D A0 (vset ws is w1) := by
  have hlc : is.length = wc.length := by have := congrArg List.length hc; simpa using this
  have hl1 : w1.length = wc.length := by have := congrArg List.length hf; simpa using this
  have hc' : is.map (fun i => (ws.map Prod.fst)[i]?) = wc.map (fun q => some q.1) := by
    have := congrArg (List.map (Option.map Prod.fst)) hc
    simpa [List.map_map, Function.comp_def, List.getElem?_map] using this
  refine ⟨?_, va_D_fst (vset_fst is wc w1 ws hc' hf) hD⟩
  intro j q hj
  rcases vset_at is w1 ws (hlc.trans hl1.symm) j q hj with ⟨k, h1, h2⟩ | ⟨h1, h2⟩
  · exact hP1 k q h2
  · refine (hP j q h2).kept (hk q.1 (hP j q h2).lt ?_)
    rintro (⟨k2, e2, h3⟩ | h3)
    · have h4 : (is.map (fun i => ws[i]?))[k2]? = some (some (q.1, e2)) := by rw [hc, List.getElem?_map, h3]; rfl
      rw [List.getElem?_map] at h4
      cases hi : is[k2]? with
      | none => rw [hi] at h4; cases h4
      | some i =>
        rw [hi] at h4
        have h5 : ws[i]? = some (q.1, e2) := Option.some.inj h4
        have := hD.1 j i q (q.1, e2) h2 h5 rfl
        subst this
        exact h1 (List.mem_of_getElem? hi)
    · have := (hP j q h2).lt
      omega
/-- what the tables say of a method -/
def vY (y : MethodName) (cc : ByteArray) (nL : Nat) (ret : Option FieldType) (na : Nat) : Prop := Cond.code y cc nL ret ∈ TB ∧ Cond.initialized y.cls ∈ TB ∧ (y.cls ≠ "java/lang/invoke/MethodHandle" ∧ y.cls ≠ "java/lang/invoke/VarHandle") ∧ (parseMethodDescriptor y.desc).map (fun d => d.parameters.length) = some na
def vYi (y : MethodName) : Prop := Cond.instanceMethod y ∈ TB ∧ Cond.selects y.cls y y ∈ TB
theorem vY_cb {R : Room} {s : State} {args : Array Value} {own : String} {idx : Nat} {y : MethodName} {cc : ByteArray} {nL : Nat} {ret : Option FieldType} {na fr lo : Nat} (hts : ∀ w ∈ TB, w.before args s = true) (hY : vY y cc nL ret na) (hl : (Cond.methodLink own idx y).before args s = true) (hR : fr + 1 ≤ R.frames ∧ 8 + (nL + 11) + lo ≤ R.locals) :
    CallB R s args own idx y cc nL ret (Cond.code y cc nL ret :: TB) { frames := fr, cells := 0, slots := 0, locals := lo } 0 0 na := by
  have hG : GoodIn TB (Cond.code y cc nL ret :: TB) := fun w hw => by
    rcases List.mem_cons.mp hw with e | h
    · rw [e]; exact ⟨hY.1, good_of_word (tb_good hY.1)⟩
    · exact ⟨h, good_of_word (tb_good h)⟩
  refine ⟨rfl, rfl, hR.1, hR.2, pay_in hts hG, List.mem_cons_self, hts _ hY.1, hts _ hY.2.1, hY.2.2.1, fun sig h => ?_, hl⟩
  have h2 := hY.2.2.2
  rw [h] at h2
  exact (Option.some.inj h2).symm
theorem vM_pre {G : Gx} {U : State} {sz : Nat} {as : List Value} {ws : va_W} : FrameBlind (va_Pc as (fun U => U.heap.size = sz ∧ va_P G.2.1 classes ws U.heap ∧ va_K G.2.1 classes (tysG G) U ∧ va_D (fun _ => True) ws ∧ vE G (va_A ws sz) U U.heap)) := by
  intro a U g mk ⟨h0, h1, h2, h3, h4, h5⟩
  exact ⟨h0, h1, h2, va_K.moved (u := U) (U := U.calling g mk a) (Vm.Alike.refl U.vm) h3, h4, vE.same (s := U) rfl h5⟩
/-- a call's way on -/
theorem vG_back {G : Gx} {p : Program} {e : Env} {R : Room} {s : State} {m : MethodId} {args : Array Value} {below : List Frame} {meth : Method} {c : Code} {A : Nat → Prop} {Q : State → Prop} {k n pc : Nat} {lv : List (Nat × Value)} {st st2 stk : List Value} {ws wc wc2 ws2 : va_W} {o : Option Value} {a9 : Array Value} {H : Heap} {locs : List Loc} {ls : Array Slot}
    (hP : va_P G.2.1 classes ws H) (hD : va_D A ws) (hS : va_S A s.heap H locs) (hl : lv_has ls c.maxLocals lv) (hA : ∀ q, s.heap.size ≤ q → A q) (is : List Nat) (hc : is.map (fun i => ws[i]?) = wc.map some) (hf : wc2.map Prod.fst = wc.map Prod.fst) (h2 : vset ws is wc2 = ws2) (h3 : o.toList ++ st = st2)
    (hr : va_Run p G.1 e R s m args below meth c H locs k n 0 0 (F0 m pc ls stk) st (vQ G (va_A wc H.size) o wc2 a9) (va_A wc H.size))
    (K : vG G (p, e, R, s, m, args, below, meth, c, A, Q) k n (pc + 3) lv st2 ws2) : W p G.1 e R s m args below meth c H locs k n Q (F0 m pc ls stk) := by
  subst h2; subst h3
  have hF : ∀ q, va_A wc H.size q → A q := va_free hD hS hA is hc
  intro T hT X
  obtain ⟨v, st₀, t, T', L, h0, X', hL, e1, e2, ⟨⟨hv, hP1, -⟩, hz, hk⟩, stp⟩ := hr T hT X
  cases hv
  rw [h0] at hz hk
  obtain ⟨hP2, hD2⟩ := vset_join hP hD is hc hf hk hP1
  obtain ⟨t2, a1, b1⟩ := K T'.heap (locs ++ L) ls (by rw [e1]; exact hP2) hD2
    ⟨Nat.le_trans hS.1 (by rw [e1]; exact hz), fun q q1 q2 => by rw [e1, hk q (Nat.lt_of_lt_of_le q1 hS.1) (fun z => q2 (hF q z))]; exact hS.2.1 q q1 q2, fun q hq => by
      rcases List.mem_append.mp hq with h | h
      · exact hS.2.2 q h
      · exact hF _ (hL q h)⟩ hl T' rfl X'
  exact ⟨t2, stp t2 a1, b1⟩
theorem g_callVi {G : Gx} {C : Cx} {cc : ByteArray} {own : String} {nL : Nat} {ret : Option FieldType} {R0 : Room} {k n pc : Nat} {lv : List (Nat × Value)} {st : List Value} {ws : va_W} {y : MethodName} {cY : ByteArray} {nY : Nat} {rY : Option FieldType} {fY lY na i : Nat} {wc wc2 ws2 : va_W} {v : Value} {a ci : Nat} {cr : vw_C} {fs as : List Value} {stk : List Value} (is : List Nat) (q0 : Nat) (hC : vH G C cc own nL ret R0) (hM : vM G y cY nY rY fY lY (.ref a :: as) wc (some v) wc2) (hY : vY y cY nY rY na) (hYi : vYi y) (lk : Cond.methodLink own i y ∈ TB) (d : decode cc pc = .ok (.invokevirtual i, 3)) (hnd : va_nd is = true) (he : ws[q0]? = some (a, .inr (ci, fs))) (hcl : classes[ci]? = some cr) (hcr : cr.1 = y.cls) (hna : as.length = na) (hstk : as.reverse ++ .ref a :: st = stk)  (hc : is.map (fun i => ws[i]?) = wc.map some) (hf : wc2.map Prod.fst = wc.map Prod.fst) (h2 : vset ws is wc2 = ws2) (hR1 : fY + 1 ≤ R0.frames ∧ 8 + (nY + 11) + lY ≤ R0.locals) (hkn : k + 0 ≤ R0.cells ∧ n + 0 ≤ R0.slots) (hsum : (st.map fun v => v.category).sum ≤ 8) (K : vG G C k n (pc + 3) lv (v :: st) ws2) : vG G C k n pc lv stk ws := by
  obtain ⟨p, e, R, s, m, args, below, meth, c, A, Q⟩ := C
  obtain ⟨hx, hb, hml, hown, hts, hr, hlk, hK, hA, hE, hR⟩ := hC
  intro H locs ls hP hD hS hl
  subst hR
  have hF : ∀ q, va_A wc H.size q → A q := va_free hD hS hA is hc
  have hPc : va_P G.2.1 classes wc H := fun j q hj => by
    have h4 : (is.map (fun i => ws[i]?))[j]? = some (some q) := by rw [hc, List.getElem?_map, hj]; rfl
    rw [List.getElem?_map] at h4
    cases hi : is[j]? with
    | none => rw [hi] at h4; cases h4
    | some i9 => rw [hi] at h4; exact hP i9 q (Option.some.inj h4)
  have hDc : va_D (fun _ => True) wc := (hD.sub is hnd hc).weaken (fun _ _ _ _ => trivial)
  subst hstk
  have hq := va_recv hK hP hcl he
  rw [hcr] at hq
  refine vG_back hP hD hS hl hA is hc hf h2 rfl (va_runV (As := as) (rest := st) (nL := nL) ⟨hx, hb, hml, hown, hts⟩ (hM H.size) ⟨vY_cb hts hY (hts _ lk) hR1, hts _ hYi.1, hts _ hYi.2⟩ ⟨vM_pre (U := s), hq, fun U hU hW => ⟨rfl, by rw [hU], by rw [hU]; exact hPc, va_K.moved hW.alike hK, hDc, by rw [hU]; exact ((hE.warm hW).kept hS.2.1).narrow hF⟩⟩ rfl hna (hl.1.trans hml) rfl (lv_room hsum) d ⟨?_, ?_⟩) K
  · exact hkn.1
  · exact hkn.2
theorem g_callSi {G : Gx} {C : Cx} {cc : ByteArray} {own : String} {nL : Nat} {ret : Option FieldType} {R0 : Room} {k n pc : Nat} {lv : List (Nat × Value)} {st : List Value} {ws : va_W} {y : MethodName} {cY : ByteArray} {nY : Nat} {rY : Option FieldType} {fY lY na i : Nat} {wc wc2 ws2 : va_W} {v : Value} {as : List Value} {stk : List Value} (is : List Nat) (hC : vH G C cc own nL ret R0) (hM : vM G y cY nY rY fY lY as wc (some v) wc2) (hY : vY y cY nY rY na) (hYs : Cond.static y ∈ TB) (lk : Cond.methodLink own i y ∈ TB) (d : decode cc pc = .ok (.invokestatic i, 3)) (hnd : va_nd is = true) (hna : as.length = na) (hstk : as.reverse ++ st = stk)  (hc : is.map (fun i => ws[i]?) = wc.map some) (hf : wc2.map Prod.fst = wc.map Prod.fst) (h2 : vset ws is wc2 = ws2) (hR1 : fY + 1 ≤ R0.frames ∧ 8 + (nY + 11) + lY ≤ R0.locals) (hkn : k + 0 ≤ R0.cells ∧ n + 0 ≤ R0.slots) (hsum : (st.map fun v => v.category).sum ≤ 8) (K : vG G C k n (pc + 3) lv (v :: st) ws2) : vG G C k n pc lv stk ws := by
  obtain ⟨p, e, R, s, m, args, below, meth, c, A, Q⟩ := C
  obtain ⟨hx, hb, hml, hown, hts, hr, hlk, hK, hA, hE, hR⟩ := hC
  intro H locs ls hP hD hS hl
  subst hR
  have hF : ∀ q, va_A wc H.size q → A q := va_free hD hS hA is hc
  have hPc : va_P G.2.1 classes wc H := fun j q hj => by
    have h4 : (is.map (fun i => ws[i]?))[j]? = some (some q) := by rw [hc, List.getElem?_map, hj]; rfl
    rw [List.getElem?_map] at h4
    cases hi : is[j]? with
    | none => rw [hi] at h4; cases h4
    | some i9 => rw [hi] at h4; exact hP i9 q (Option.some.inj h4)
  have hDc : va_D (fun _ => True) wc := (hD.sub is hnd hc).weaken (fun _ _ _ _ => trivial)
  subst hstk
  exact vG_back hP hD hS hl hA is hc hf h2 rfl (va_runS (As := as) (rest := st) (nL := nL) ⟨hx, hb, hml, hown, hts⟩ (hM H.size) ⟨vY_cb hts hY (hts _ lk) hR1, hts _ hYs⟩ ⟨vM_pre (U := s), fun U hU hW => ⟨rfl, by rw [hU], by rw [hU]; exact hPc, va_K.moved hW.alike hK, hDc, by rw [hU]; exact ((hE.warm hW).kept hS.2.1).narrow hF⟩⟩ rfl hna (hl.1.trans hml) rfl (lv_room hsum) d hkn) K
theorem g_callVv {G : Gx} {C : Cx} {cc : ByteArray} {own : String} {nL : Nat} {ret : Option FieldType} {R0 : Room} {k n pc : Nat} {lv : List (Nat × Value)} {st : List Value} {ws : va_W} {y : MethodName} {cY : ByteArray} {nY : Nat} {rY : Option FieldType} {fY lY na i : Nat} {wc wc2 ws2 : va_W}  {a ci : Nat} {cr : vw_C} {fs as : List Value} {stk : List Value} (is : List Nat) (q0 : Nat) (hC : vH G C cc own nL ret R0) (hM : vM G y cY nY rY fY lY (.ref a :: as) wc none wc2) (hY : vY y cY nY rY na) (hYi : vYi y) (lk : Cond.methodLink own i y ∈ TB) (d : decode cc pc = .ok (.invokevirtual i, 3)) (hnd : va_nd is = true) (he : ws[q0]? = some (a, .inr (ci, fs))) (hcl : classes[ci]? = some cr) (hcr : cr.1 = y.cls) (hna : as.length = na) (hstk : as.reverse ++ .ref a :: st = stk)  (hc : is.map (fun i => ws[i]?) = wc.map some) (hf : wc2.map Prod.fst = wc.map Prod.fst) (h2 : vset ws is wc2 = ws2) (hR1 : fY + 1 ≤ R0.frames ∧ 8 + (nY + 11) + lY ≤ R0.locals) (hkn : k + 0 ≤ R0.cells ∧ n + 0 ≤ R0.slots) (hsum : (st.map fun v => v.category).sum ≤ 8) (K : vG G C k n (pc + 3) lv st ws2) : vG G C k n pc lv stk ws := by
  obtain ⟨p, e, R, s, m, args, below, meth, c, A, Q⟩ := C
  obtain ⟨hx, hb, hml, hown, hts, hr, hlk, hK, hA, hE, hR⟩ := hC
  intro H locs ls hP hD hS hl
  subst hR
  have hF : ∀ q, va_A wc H.size q → A q := va_free hD hS hA is hc
  have hPc : va_P G.2.1 classes wc H := fun j q hj => by
    have h4 : (is.map (fun i => ws[i]?))[j]? = some (some q) := by rw [hc, List.getElem?_map, hj]; rfl
    rw [List.getElem?_map] at h4
    cases hi : is[j]? with
    | none => rw [hi] at h4; cases h4
    | some i9 => rw [hi] at h4; exact hP i9 q (Option.some.inj h4)
  have hDc : va_D (fun _ => True) wc := (hD.sub is hnd hc).weaken (fun _ _ _ _ => trivial)
  subst hstk
  have hq := va_recv hK hP hcl he
  rw [hcr] at hq
  refine vG_back hP hD hS hl hA is hc hf h2 rfl (va_runV (As := as) (rest := st) (nL := nL) ⟨hx, hb, hml, hown, hts⟩ (hM H.size) ⟨vY_cb hts hY (hts _ lk) hR1, hts _ hYi.1, hts _ hYi.2⟩ ⟨vM_pre (U := s), hq, fun U hU hW => ⟨rfl, by rw [hU], by rw [hU]; exact hPc, va_K.moved hW.alike hK, hDc, by rw [hU]; exact ((hE.warm hW).kept hS.2.1).narrow hF⟩⟩ rfl hna (hl.1.trans hml) rfl (lv_room hsum) d ⟨?_, ?_⟩) K
  · exact hkn.1
  · exact hkn.2
theorem g_callSv {G : Gx} {C : Cx} {cc : ByteArray} {own : String} {nL : Nat} {ret : Option FieldType} {R0 : Room} {k n pc : Nat} {lv : List (Nat × Value)} {st : List Value} {ws : va_W} {y : MethodName} {cY : ByteArray} {nY : Nat} {rY : Option FieldType} {fY lY na i : Nat} {wc wc2 ws2 : va_W}  {as : List Value} {stk : List Value} (is : List Nat) (hC : vH G C cc own nL ret R0) (hM : vM G y cY nY rY fY lY as wc none wc2) (hY : vY y cY nY rY na) (hYs : Cond.static y ∈ TB) (lk : Cond.methodLink own i y ∈ TB) (d : decode cc pc = .ok (.invokestatic i, 3)) (hnd : va_nd is = true) (hna : as.length = na) (hstk : as.reverse ++ st = stk)  (hc : is.map (fun i => ws[i]?) = wc.map some) (hf : wc2.map Prod.fst = wc.map Prod.fst) (h2 : vset ws is wc2 = ws2) (hR1 : fY + 1 ≤ R0.frames ∧ 8 + (nY + 11) + lY ≤ R0.locals) (hkn : k + 0 ≤ R0.cells ∧ n + 0 ≤ R0.slots) (hsum : (st.map fun v => v.category).sum ≤ 8) (K : vG G C k n (pc + 3) lv st ws2) : vG G C k n pc lv stk ws := by
  obtain ⟨p, e, R, s, m, args, below, meth, c, A, Q⟩ := C
  obtain ⟨hx, hb, hml, hown, hts, hr, hlk, hK, hA, hE, hR⟩ := hC
  intro H locs ls hP hD hS hl
  subst hR
  have hF : ∀ q, va_A wc H.size q → A q := va_free hD hS hA is hc
  have hPc : va_P G.2.1 classes wc H := fun j q hj => by
    have h4 : (is.map (fun i => ws[i]?))[j]? = some (some q) := by rw [hc, List.getElem?_map, hj]; rfl
    rw [List.getElem?_map] at h4
    cases hi : is[j]? with
    | none => rw [hi] at h4; cases h4
    | some i9 => rw [hi] at h4; exact hP i9 q (Option.some.inj h4)
  have hDc : va_D (fun _ => True) wc := (hD.sub is hnd hc).weaken (fun _ _ _ _ => trivial)
  subst hstk
  exact vG_back hP hD hS hl hA is hc hf h2 rfl (va_runS (As := as) (rest := st) (nL := nL) ⟨hx, hb, hml, hown, hts⟩ (hM H.size) ⟨vY_cb hts hY (hts _ lk) hR1, hts _ hYs⟩ ⟨vM_pre (U := s), fun U hU hW => ⟨rfl, by rw [hU], by rw [hU]; exact hPc, va_K.moved hW.alike hK, hDc, by rw [hU]; exact ((hE.warm hW).kept hS.2.1).narrow hF⟩⟩ rfl hna (hl.1.trans hml) rfl (lv_room hsum) d hkn) K
theorem g_iret {G : Gx} {C : Cx} {cc : ByteArray} {own : String} {nL : Nat} {R0 : Room} {k n pc : Nat} {lv : List (Nat × Value)} {ws : va_W} {x : Int32} (hC : vH G C cc own nL (some .int) R0) (hQ : vR G C k n (some (.int x)) ws) (d : decode cc pc = .ok (.ireturn, 1)) : vG G C k n pc lv [.int x] ws := by
  obtain ⟨p, e, R, s, m, args, below, meth, c, A, Q⟩ := C
  obtain ⟨hx, hb, hml, hown, hts, hr, hlk, hK, hA, hE, hR⟩ := hC
  intro H locs ls hP hD hS hl
  subst hQ
  exact W.iret hx hb hr (fun t ht hW => ⟨⟨rfl, by rw [ht]; exact hP, hD⟩, hS.F ht⟩) hS.2.2 d hlk
theorem g_lret {G : Gx} {C : Cx} {cc : ByteArray} {own : String} {nL : Nat} {R0 : Room} {k n pc : Nat} {lv : List (Nat × Value)} {ws : va_W} {x : Int64} (hC : vH G C cc own nL (some .long) R0) (hQ : vR G C k n (some (.long x)) ws) (d : decode cc pc = .ok (.lreturn, 1)) : vG G C k n pc lv [.long x] ws := by
  obtain ⟨p, e, R, s, m, args, below, meth, c, A, Q⟩ := C
  obtain ⟨hx, hb, hml, hown, hts, hr, hlk, hK, hA, hE, hR⟩ := hC
  intro H locs ls hP hD hS hl
  subst hQ
  exact W.lret hx hb hr (fun t ht hW => ⟨⟨rfl, by rw [ht]; exact hP, hD⟩, hS.F ht⟩) hS.2.2 d hlk
theorem g_zret {G : Gx} {C : Cx} {cc : ByteArray} {own : String} {nL : Nat} {R0 : Room} {k n pc : Nat} {lv : List (Nat × Value)} {ws : va_W} {x : Int32} {ty : FieldType} (hC : vH G C cc own nL (some ty) R0) (hn : narrow ty (.int x) = .int x) (hQ : vR G C k n (some (.int x)) ws) (d : decode cc pc = .ok (.ireturn, 1)) : vG G C k n pc lv [.int x] ws := by
  obtain ⟨p, e, R, s, m, args, below, meth, c, A, Q⟩ := C
  obtain ⟨hx, hb, hml, hown, hts, hr, hlk, hK, hA, hE, hR⟩ := hC
  intro H locs ls hP hD hS hl
  subst hQ
  exact W.zret hx hb hr hn (fun t ht hW => ⟨⟨rfl, by rw [ht]; exact hP, hD⟩, hS.F ht⟩) hS.2.2 d hlk
theorem g_vret {G : Gx} {C : Cx} {cc : ByteArray} {own : String} {nL : Nat} {R0 : Room} {k n pc : Nat} {lv : List (Nat × Value)} {ws : va_W} (hC : vH G C cc own nL none R0) (hQ : vR G C k n none ws) (d : decode cc pc = .ok (.return_, 1)) : vG G C k n pc lv [] ws := by
  obtain ⟨p, e, R, s, m, args, below, meth, c, A, Q⟩ := C
  obtain ⟨hx, hb, hml, hown, hts, hr, hlk, hK, hA, hE, hR⟩ := hC
  intro H locs ls hP hD hS hl
  subst hQ
  exact W.vret hx hb hr (fun t ht hW => ⟨⟨rfl, by rw [ht]; exact hP, hD⟩, hS.F ht⟩) hS.2.2 d hlk
theorem g_aret {G : Gx} {C : Cx} {cc : ByteArray} {own : String} {nL : Nat} {R0 : Room} {k n pc : Nat} {lv : List (Nat × Value)} {ws : va_W} {x : Nat} {nmO : String} (hC : vH G C cc own nL (some (.object nmO)) R0) (hQ : vR G C k n (some (.ref x)) ws) (d : decode cc pc = .ok (.areturn, 1)) : vG G C k n pc lv [.ref x] ws := by
  obtain ⟨p, e, R, s, m, args, below, meth, c, A, Q⟩ := C
  obtain ⟨hx, hb, hml, hown, hts, hr, hlk, hK, hA, hE, hR⟩ := hC
  intro H locs ls hP hD hS hl
  subst hQ
  exact W.aret hx hb hr (Or.inl ⟨_, rfl⟩) (Or.inr ⟨_, rfl⟩) (fun t ht hW => ⟨⟨rfl, by rw [ht]; exact hP, hD⟩, hS.F ht⟩) hS.2.2 d hlk
def xmin (x y : Int32) : Int32 := if y < x then y else x
def xmax (x y : Int32) : Int32 := if x < y then y else x
theorem g_mmin {G : Gx} {C : Cx} {cc : ByteArray} {own : String} {nL : Nat} {ret : Option FieldType} {R0 : Room} {k n pc : Nat} {lv : List (Nat × Value)} {st : List Value} {ws : va_W} {x y : Int32} {i : Nat} (hC : vH G C cc own nL ret R0) (lk : Cond.methodLink own i Lib.Math.min.name ∈ TB) (h1 : Cond.static Lib.Math.min.name ∈ TB) (h3 : Cond.code Lib.Math.min.name Lib.Math.min.code 2 (some .int) ∈ TB) (h4 : Cond.initialized "java/lang/Math" ∈ TB) (d : decode cc pc = .ok (.invokestatic i, 3)) (hR1 : 1 ≤ R0.frames) (hR2 : (st.map fun v => v.category).sum + 13 ≤ R0.locals) (hkn : k ≤ R0.cells ∧ n ≤ R0.slots) (K : vG G C k n (pc + 3) lv (.int (xmin x y) :: st) ws) : vG G C k n pc lv (.int y :: .int x :: st) ws := by
  obtain ⟨p, e, R, s, m, args, below, meth, c, A, Q⟩ := C
  obtain ⟨hx, hb, hml, hown, hts, hr, hlk, hK, hA, hE, hR⟩ := hC
  intro H locs ls hP hD hS hl
  subst hR
  exact va_mmin hx hb (hml.trans (hl.1.trans hml).symm) hown (hts _ lk) (hts _ h1) (hts _ h4) (hts _ h3) hR1 hR2 hkn.1 hkn.2 d (K H locs ls hP hD hS hl)
theorem g_mmax {G : Gx} {C : Cx} {cc : ByteArray} {own : String} {nL : Nat} {ret : Option FieldType} {R0 : Room} {k n pc : Nat} {lv : List (Nat × Value)} {st : List Value} {ws : va_W} {x y : Int32} {i : Nat} (hC : vH G C cc own nL ret R0) (lk : Cond.methodLink own i Lib.Math.max.name ∈ TB) (h1 : Cond.static Lib.Math.max.name ∈ TB) (h3 : Cond.code Lib.Math.max.name Lib.Math.max.code 2 (some .int) ∈ TB) (h4 : Cond.initialized "java/lang/Math" ∈ TB) (d : decode cc pc = .ok (.invokestatic i, 3)) (hR1 : 1 ≤ R0.frames) (hR2 : (st.map fun v => v.category).sum + 13 ≤ R0.locals) (hkn : k ≤ R0.cells ∧ n ≤ R0.slots) (K : vG G C k n (pc + 3) lv (.int (xmax x y) :: st) ws) : vG G C k n pc lv (.int y :: .int x :: st) ws := by
  obtain ⟨p, e, R, s, m, args, below, meth, c, A, Q⟩ := C
  obtain ⟨hx, hb, hml, hown, hts, hr, hlk, hK, hA, hE, hR⟩ := hC
  intro H locs ls hP hD hS hl
  subst hR
  exact va_mmax hx hb (hml.trans (hl.1.trans hml).symm) hown (hts _ lk) (hts _ h1) (hts _ h4) (hts _ h3) hR1 hR2 hkn.1 hkn.2 d (K H locs ls hP hD hS hl)
def vlet {α β : Type} (e : α) (k : α → Option β) : Option β := k e
theorem vlet_s {α β : Type} {e : α} {k : α → Option β} {R : β} (h : vlet e k = some R) : ∃ x, x = e ∧ k x = some R := ⟨e, rfl, h⟩
theorem ite_n {α : Type} {c : Prop} {d : Decidable c} {a : Option α} {R : α} (h : (@ite _ c d none a) = some R) : ¬ c ∧ a = some R := by
  by_cases q : c
  · rw [if_pos q] at h; cases h
  · rw [if_neg q] at h; exact ⟨q, h⟩
theorem bnd_s {α β : Type} {o : Option α} {k : α → Option β} {R : β} (h : o.bind k = some R) : ∃ x, o = some x ∧ k x = some R := by
  cases o with
  | none => cases h
  | some x => exact ⟨x, rfl, h⟩
def cIx (i : Int32) (n : Nat) : Prop := i < 0 ∨ n ≤ i.toNatClampNeg
