/-! rows of a grid of longs; a nest mate's static method -/
theorem vp_lt {i : Int32} {n : Nat} (h : vp_in i n) : i.toNatClampNeg < n := Nat.not_le.mp fun q => h (Or.inr q)
def updG (f : Nat → Nat → Int64) (j k : Nat) (x : Int64) : Nat → Nat → Int64 := fun a => if a = j then vp_updL (f j) k x else f a
theorem acN : Cond.native arraycopyName ∈ TB := tb_2 163 rfl rfl
theorem g_aaldL {G : Gx} {C : Cx} {cc : ByteArray} {own : String} {nL : Nat} {ret : Option FieldType} {R0 : Room} {k n pc : Nat} {lv : List (Nat × Value)} {st : List Value} {ws : va_W} {a N : Nat} {f : Nat → Option Nat} {r : Nat} {i : Int32} (q0 : Nat) (hC : vH G C cc own nL ret R0) (d : decode cc pc = .ok (.aaload, 1)) (ha : ws[q0]? = some (a, eL G N f)) (hin : vp_in i N) (hv : f i.toNatClampNeg = some r) (K : vG G C k n (pc + 1) lv (.ref r :: st) ws) : vG G C k n pc lv (.int i :: .ref a :: st) ws := by
  obtain ⟨p, e, R, s, m, args, below, meth, c, A, Q⟩ := C
  obtain ⟨hx, hb, hml, hown, hts, hr, hlk, hK, hA, hE, hR⟩ := hC
  intro H locs ls hP hD hS hl
  have hlt : i.toNatClampNeg < N := Nat.not_le.mp fun q => hin (Or.inr q)
  exact W.aald (v := .ref r) (ty := .array .long) hx hb (hP q0 _ ha) ((hK.2 5 (G.2.2.1 5, .array .long) rfl).1 N (fun j => va_rf (f j))) rfl (fun q => by cases q) (by show ¬ (i < 0 ∨ (arrV _ _ _).slots.size ≤ _); rw [arrV_size]; exact hin) (by show (arrV _ _ _).slots[_]? = _; rw [arrV_read _ _ hlt, hv]; rfl) rfl rfl d (K H locs ls hP hD hS hl)
theorem g_aaldS {G : Gx} {C : Cx} {cc : ByteArray} {own : String} {nL : Nat} {ret : Option FieldType} {R0 : Room} {k n pc : Nat} {lv : List (Nat × Value)} {st : List Value} {ws : va_W} {a N : Nat} {f : Nat → Option Nat} {r : Nat} {i : Int32} (q0 : Nat) (hC : vH G C cc own nL ret R0) (d : decode cc pc = .ok (.aaload, 1)) (ha : ws[q0]? = some (a, eS G N f)) (hin : vp_in i N) (hv : f i.toNatClampNeg = some r) (K : vG G C k n (pc + 1) lv (.ref r :: st) ws) : vG G C k n pc lv (.int i :: .ref a :: st) ws := by
  obtain ⟨p, e, R, s, m, args, below, meth, c, A, Q⟩ := C
  obtain ⟨hx, hb, hml, hown, hts, hr, hlk, hK, hA, hE, hR⟩ := hC
  intro H locs ls hP hD hS hl
  refine va_aldq hx hb hK hP q0 4 ha rfl hin d ?_
  rw [hv]
  exact (K H locs ls hP hD hS hl)
theorem g_laldR {G : Gx} {C : Cx} {cc : ByteArray} {own : String} {nL : Nat} {ret : Option FieldType} {R0 : Room} {k n pc : Nat} {lv : List (Nat × Value)} {st : List Value} {ws : va_W} {r : Nat → Nat} {nm : Nat → Nat → Int64} {N j : Nat} {i : Int32} (q0 : Nat) (hC : vH G C cc own nL ret R0) (d : decode cc pc = .ok (.laload, 1)) (hj : j < 5) (r0 : ws[q0 + 0]? = some (r 0, eJ G N (nm 0))) (r1 : ws[q0 + 1]? = some (r 1, eJ G N (nm 1))) (r2 : ws[q0 + 2]? = some (r 2, eJ G N (nm 2))) (r3 : ws[q0 + 3]? = some (r 3, eJ G N (nm 3))) (r4 : ws[q0 + 4]? = some (r 4, eJ G N (nm 4))) (hin : vp_in i N) (K : vG G C k n (pc + 1) lv (.long (nm j i.toNatClampNeg) :: st) ws) : vG G C k n pc lv (.int i :: .ref (r j) :: st) ws := by
  match j, hj with
  | 0, _ => exact g_lald (q0 + 0) hC d r0 hin K
  | 1, _ => exact g_lald (q0 + 1) hC d r1 hin K
  | 2, _ => exact g_lald (q0 + 2) hC d r2 hin K
  | 3, _ => exact g_lald (q0 + 3) hC d r3 hin K
  | 4, _ => exact g_lald (q0 + 4) hC d r4 hin K
theorem g_lastR {G : Gx} {C : Cx} {cc : ByteArray} {own : String} {nL : Nat} {ret : Option FieldType} {R0 : Room} {k n pc : Nat} {lv : List (Nat × Value)} {st : List Value} {ws : va_W} {r : Nat → Nat} {nm nm2 : Nat → Nat → Int64} {N j : Nat} {i : Int32} {x : Int64} (WW : (Nat → Nat → Int64) → va_W) (q0 : Nat) (hC : vH G C cc own nL ret R0) (d : decode cc pc = .ok (.lastore, 1)) (hj : j < 5) (r0 : ws[q0 + 0]? = some (r 0, eJ G N (nm 0))) (r1 : ws[q0 + 1]? = some (r 1, eJ G N (nm 1))) (r2 : ws[q0 + 2]? = some (r 2, eJ G N (nm 2))) (r3 : ws[q0 + 3]? = some (r 3, eJ G N (nm 3))) (r4 : ws[q0 + 4]? = some (r 4, eJ G N (nm 4))) (hin : vp_in i N) (ef : nm2 = updG nm j i.toNatClampNeg x) (e0 : ∀ f : Nat → Int64, ws.set (q0 + 0) (r 0, eJ G N f) = WW (fun a => if a = 0 then f else nm a)) (e1 : ∀ f : Nat → Int64, ws.set (q0 + 1) (r 1, eJ G N f) = WW (fun a => if a = 1 then f else nm a)) (e2 : ∀ f : Nat → Int64, ws.set (q0 + 2) (r 2, eJ G N f) = WW (fun a => if a = 2 then f else nm a)) (e3 : ∀ f : Nat → Int64, ws.set (q0 + 3) (r 3, eJ G N f) = WW (fun a => if a = 3 then f else nm a)) (e4 : ∀ f : Nat → Int64, ws.set (q0 + 4) (r 4, eJ G N f) = WW (fun a => if a = 4 then f else nm a)) (K : vG G C k n (pc + 1) lv st (WW nm2)) : vG G C k n pc lv (.long x :: .int i :: .ref (r j) :: st) ws := by
  subst ef
  match j, hj with
  | 0, _ => exact g_last (q0 + 0) hC d r0 hin rfl (e0 _) K
  | 1, _ => exact g_last (q0 + 1) hC d r1 hin rfl (e1 _) K
  | 2, _ => exact g_last (q0 + 2) hC d r2 hin rfl (e2 _) K
  | 3, _ => exact g_last (q0 + 3) hC d r3 hin rfl (e3 _) K
  | 4, _ => exact g_last (q0 + 4) hC d r4 hin rfl (e4 _) K
theorem vY_cn {R : Room} {s : State} {args : Array Value} {own host : String} {idx : Nat} {y : MethodName} {cc : ByteArray} {nL : Nat} {ret : Option FieldType} {na fr lo : Nat} (hts : ∀ w ∈ TB, w.before args s = true) (hY : vY y cc nL ret na) (hl : va_Nw (.methodLinkNest own idx y host) s) (hR : fr + 1 ≤ R.frames ∧ 8 + (nL + 11) + lo ≤ R.locals) :
    va_CN R s args own idx y host cc nL ret (Cond.code y cc nL ret :: TB) { frames := fr, cells := 0, slots := 0, locals := lo } 0 0 na := by
  have hG : GoodIn TB (Cond.code y cc nL ret :: TB) := fun w hw => by
    rcases List.mem_cons.mp hw with e | h
    · rw [e]; exact ⟨hY.1, good_of_word (tb_good hY.1)⟩
    · exact ⟨h, good_of_word (tb_good h)⟩
  exact va_cnB na hts hG rfl rfl rfl hl (hts _ hY.2.1) ⟨hY.2.2.1.1, hY.2.2.1.2, hY.2.2.2⟩ hR
theorem g_callSNi {G : Gx} {C : Cx} {cc : ByteArray} {own : String} {nL : Nat} {ret : Option FieldType} {R0 : Room} {k n pc : Nat} {lv : List (Nat × Value)} {st : List Value} {ws : va_W} {y : MethodName} {cY : ByteArray} {nY : Nat} {rY : Option FieldType} {fY lY na i : Nat} {wc wc2 ws2 : va_W} {v : Value} {host : String} {as : List Value} {stk : List Value} (is : List Nat) (hC : vH G C cc own nL ret R0) (hM : vM G y cY nY rY fY lY as wc (some v) wc2) (hY : vY y cY nY rY na) (hYs : Cond.static y ∈ TB) (lk : (own, i, y, host) ∈ nwM) (d : decode cc pc = .ok (.invokestatic i, 3)) (hnd : va_nd is = true) (hna : as.length = na) (hstk : as.reverse ++ st = stk) (hc : is.map (fun i => ws[i]?) = wc.map some) (hf : wc2.map Prod.fst = wc.map Prod.fst) (h2 : vset ws is wc2 = ws2) (hR1 : fY + 1 ≤ R0.frames ∧ 8 + (nY + 11) + lY ≤ R0.locals) (hkn : k + 0 ≤ R0.cells ∧ n + 0 ≤ R0.slots) (hsum : (st.map fun v => v.category).sum ≤ 8) (K : vG G C k n (pc + 3) lv (v :: st) ws2) : vG G C k n pc lv stk ws := by
  obtain ⟨p, e, R, s, m, args, below, meth, c, A, Q⟩ := C
  obtain ⟨hx, hb, hml, hown, hts, hr, hlk, hK, hA, hE, hR⟩ := hC
  intro H locs ls hP hD hS hl
  subst hR
  have hF : ∀ q, va_A wc H.size q → A q := va_free hD hS hA is hc
  have hPc : va_P G.2.1 classes wc H := fun j q hj => by
    have h4 : (is.map (fun i => ws[i]?))[j]? = some (some q) := by rw [hc, List.getElem?_map, hj]; rfl
    rw [List.getElem?_map] at h4
    cases hi : is[j]? with
    | none => rw [hi] at h4; cases h4
    | some i9 => rw [hi] at h4; exact hP i9 q (Option.some.inj h4)
  have hDc : va_D (fun _ => True) wc := (hD.sub is hnd hc).weaken (fun _ _ _ _ => trivial)
  subst hstk
  exact vG_back hP hD hS hl hA is hc hf h2 rfl (va_runSN (As := as) (rest := st) (nL := nL) (host := host) ⟨hx, hb, hml, hown, hts⟩ (hM H.size) ⟨vY_cn hts hY (hE.2.2.2.2.2.2.2 _ lk) hR1, hts _ hYs, trivial⟩ ⟨vM_pre (U := s), fun U hU hW => ⟨rfl, by rw [hU], by rw [hU]; exact hPc, va_K.moved hW.alike hK, hDc, by rw [hU]; exact ((hE.warm hW).kept hS.2.1).narrow hF⟩⟩ rfl hna (hl.1.trans hml) rfl (lv_room hsum) d hkn) K
theorem g_callSNv {G : Gx} {C : Cx} {cc : ByteArray} {own : String} {nL : Nat} {ret : Option FieldType} {R0 : Room} {k n pc : Nat} {lv : List (Nat × Value)} {st : List Value} {ws : va_W} {y : MethodName} {cY : ByteArray} {nY : Nat} {rY : Option FieldType} {fY lY na i : Nat} {wc wc2 ws2 : va_W}  {host : String} {as : List Value} {stk : List Value} (is : List Nat) (hC : vH G C cc own nL ret R0) (hM : vM G y cY nY rY fY lY as wc none wc2) (hY : vY y cY nY rY na) (hYs : Cond.static y ∈ TB) (lk : (own, i, y, host) ∈ nwM) (d : decode cc pc = .ok (.invokestatic i, 3)) (hnd : va_nd is = true) (hna : as.length = na) (hstk : as.reverse ++ st = stk) (hc : is.map (fun i => ws[i]?) = wc.map some) (hf : wc2.map Prod.fst = wc.map Prod.fst) (h2 : vset ws is wc2 = ws2) (hR1 : fY + 1 ≤ R0.frames ∧ 8 + (nY + 11) + lY ≤ R0.locals) (hkn : k + 0 ≤ R0.cells ∧ n + 0 ≤ R0.slots) (hsum : (st.map fun v => v.category).sum ≤ 8) (K : vG G C k n (pc + 3) lv st ws2) : vG G C k n pc lv stk ws := by
  obtain ⟨p, e, R, s, m, args, below, meth, c, A, Q⟩ := C
  obtain ⟨hx, hb, hml, hown, hts, hr, hlk, hK, hA, hE, hR⟩ := hC
  intro H locs ls hP hD hS hl
  subst hR
  have hF : ∀ q, va_A wc H.size q → A q := va_free hD hS hA is hc
  have hPc : va_P G.2.1 classes wc H := fun j q hj => by
    have h4 : (is.map (fun i => ws[i]?))[j]? = some (some q) := by rw [hc, List.getElem?_map, hj]; rfl
    rw [List.getElem?_map] at h4
    cases hi : is[j]? with
    | none => rw [hi] at h4; cases h4
    | some i9 => rw [hi] at h4; exact hP i9 q (Option.some.inj h4)
  have hDc : va_D (fun _ => True) wc := (hD.sub is hnd hc).weaken (fun _ _ _ _ => trivial)
  subst hstk
  exact vG_back hP hD hS hl hA is hc hf h2 rfl (va_runSN (As := as) (rest := st) (nL := nL) (host := host) ⟨hx, hb, hml, hown, hts⟩ (hM H.size) ⟨vY_cn hts hY (hE.2.2.2.2.2.2.2 _ lk) hR1, hts _ hYs, trivial⟩ ⟨vM_pre (U := s), fun U hU hW => ⟨rfl, by rw [hU], by rw [hU]; exact hPc, va_K.moved hW.alike hK, hDc, by rw [hU]; exact ((hE.warm hW).kept hS.2.1).narrow hF⟩⟩ rfl hna (hl.1.trans hml) rfl (lv_room hsum) d hkn) K
theorem g_callTi {G : Gx} {C : Cx} {cc : ByteArray} {own : String} {nL : Nat} {ret : Option FieldType} {R0 : Room} {k n pc : Nat} {lv : List (Nat × Value)} {st : List Value} {ws : va_W} {y : MethodName} {cY : ByteArray} {nY : Nat} {rY : Option FieldType} {fY lY na i : Nat} {wc wc2 ws2 : va_W} {v : Value} {j : Nat} {as : List Value} {stk : List Value} (is : List Nat) (hj : j < 22) (hC : vH G C cc own nL ret R0) (hM : vM G y cY nY rY fY lY (.ref (sK G j) :: as) wc (some v) wc2) (hY : vY y cY nY rY na) (hYi : vYi y) (lk : Cond.methodLink own i y ∈ TB) (d : decode cc pc = .ok (.invokevirtual i, 3)) (hnd : va_nd is = true) (hcr : "java/lang/String" = y.cls) (hna : as.length = na) (hstk : as.reverse ++ .ref (sK G j) :: st = stk) (hc : is.map (fun i => ws[i]?) = wc.map some) (hf : wc2.map Prod.fst = wc.map Prod.fst) (h2 : vset ws is wc2 = ws2) (hR1 : fY + 1 ≤ R0.frames ∧ 8 + (nY + 11) + lY ≤ R0.locals) (hkn : k + 0 ≤ R0.cells ∧ n + 0 ≤ R0.slots) (hsum : (st.map fun v => v.category).sum ≤ 8) (K : vG G C k n (pc + 3) lv (v :: st) ws2) : vG G C k n pc lv stk ws := by
  obtain ⟨p, e, R, s, m, args, below, meth, c, A, Q⟩ := C
  obtain ⟨hx, hb, hml, hown, hts, hr, hlk, hK, hA, hE, hR⟩ := hC
  intro H locs ls hP hD hS hl
  subst hR
  have hF : ∀ q, va_A wc H.size q → A q := va_free hD hS hA is hc
  have hPc : va_P G.2.1 classes wc H := fun j q hj => by
    have h4 : (is.map (fun i => ws[i]?))[j]? = some (some q) := by rw [hc, List.getElem?_map, hj]; rfl
    rw [List.getElem?_map] at h4
    cases hi : is[j]? with
    | none => rw [hi] at h4; cases h4
    | some i9 => rw [hi] at h4; exact hP i9 q (Option.some.inj h4)
  have hDc : va_D (fun _ => True) wc := (hD.sub is hnd hc).weaken (fun _ _ _ _ => trivial)
  subst hstk
  have hq := vk_recv hE.2.2.2.2.1 hj hS
  rw [hcr] at hq
  refine vG_back hP hD hS hl hA is hc hf h2 rfl (va_runV (As := as) (rest := st) (nL := nL) ⟨hx, hb, hml, hown, hts⟩ (hM H.size) ⟨vY_cb hts hY (hts _ lk) hR1, hts _ hYi.1, hts _ hYi.2⟩ ⟨vM_pre (U := s), hq, fun U hU hW => ⟨rfl, by rw [hU], by rw [hU]; exact hPc, va_K.moved hW.alike hK, hDc, by rw [hU]; exact ((hE.warm hW).kept hS.2.1).narrow hF⟩⟩ rfl hna (hl.1.trans hml) rfl (lv_room hsum) d hkn) K
