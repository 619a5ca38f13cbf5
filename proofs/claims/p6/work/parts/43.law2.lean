def vOs : Cx → Prop
  | (_, _, _, s, _, _, _, _, _, _, _) => vO s
theorem g_callIL {G : Gx} {C : Cx} {cc : ByteArray} {own : String} {nL : Nat} {ret : Option FieldType} {R0 : Room} {k n pc : Nat} {lv : List (Nat × Value)} {st : List Value} {ws : va_W} {y : MethodName} {cY : ByteArray} {nY : Nat} {fY lY na i a mc ms : Nat} {as : List Value} {wc : va_W} {wh wt ws2 : (Nat → Nat → Nat) → va_W} (is : List Nat) (hC : vH G C cc own nL ret R0) (hO : vOs C) (hM : vMc G y cY nY fY lY mc ms (.ref a :: as) wc (fun qs => wh qs ++ wt qs)) (hY : vY y cY nY none na) (hyn : y.name = "<init>") (hYi : Cond.instanceMethod y ∈ TB) (lk : Cond.methodLink own i y ∈ TB) (d : decode cc pc = .ok (.invokespecial i, 3)) (hnd : va_nd is = true) (hna : as.length = na) {stk : List Value} (hstk : as.reverse ++ .ref a :: st = stk) (hc : is.map (fun i => ws[i]?) = wc.map some) (hf : ∀ qs, (wh qs).map Prod.fst = wc.map Prod.fst) (h2 : ∀ qs, vset ws is (wh qs) ++ wt qs = ws2 qs) (hR1 : fY + 1 ≤ R0.frames ∧ 8 + (nY + 11) + lY ≤ R0.locals) (hkn : k + mc ≤ R0.cells ∧ n + ms ≤ R0.slots) (hsum : (st.map fun v => v.category).sum ≤ 8) (K : ∀ qs, vG G C (k + mc) (n + ms) (pc + 3) lv st (ws2 qs)) : vG G C k n pc lv stk ws := by
  obtain ⟨p, e, R, s, m, args, below, meth, c, A, Q⟩ := C
  obtain ⟨hx, hb, hml, hown, hts, hr, hlk, hK, hA, hE, hR⟩ := hC
  intro H locs ls hP hD hS hl
  subst hR
  have hF : ∀ q, va_A wc H.size q → A q := va_free hD hS hA is hc
  have hPc : va_P G.2.1 classes wc H := fun j q hj => by
    have h4 : (is.map (fun i => ws[i]?))[j]? = some (some q) := by rw [hc, List.getElem?_map, hj]; rfl
    rw [List.getElem?_map] at h4
    cases hi : is[j]? with
    | none => rw [hi] at h4; cases h4
    | some i9 => rw [hi] at h4; exact hP i9 q (Option.some.inj h4)
  have hDc : va_D (fun _ => True) wc := (hD.sub is hnd hc).weaken (fun _ _ _ _ => trivial)
  subst hstk
  exact vG_backc hP hD hS hl hA is hc hf h2 (va_runI (As := as) (rest := st) (nL := nL) ⟨hx, hb, hml, hown, hts⟩ (hM H.size) ⟨vY_cbc hts hY (hts _ lk) hR1, hyn, hts _ hYi⟩ ⟨vMc_pre, fun U hU hW => ⟨rfl, by rw [hU], by rw [hU]; exact hPc, va_K.moved hW.alike hK, hDc, by rw [hU]; exact ((hE.warm hW).kept hS.2.1).narrow hF, hO.warm hW.alike⟩⟩ rfl hna (hl.1.trans hml) rfl (lv_room hsum) d hkn) K
def LEnd (b : Nat) : Cx → Prop
  | (_, _, _, s, _, args, below, _, _, A, Q) => args = #[Value.ref b] ∧ Q = lw_Z below #[Value.ref b] s ∧ A = (fun q : Nat => s.heap.size ≤ q)
theorem g_lawret {G : Gx} {C : Cx} {k n pc b : Nat} {lv : List (Nat × Value)} {ws : va_W} (hC : vH G C cL_law "CoilBenchLaw" 4 ret room_1) (hE : LEnd b C) (hk : k ≤ 600000) (hn : n ≤ 7302250) (d : decode cL_law pc = .ok (.ireturn, 1)) : vG G C k n pc lv [.int 1] ws := by
  obtain ⟨p, e, R, s, m, args, below, meth, c, A, Q⟩ := C
  obtain ⟨hx, hb, hml, hown, hts, hr, hlk, hK, hA, hE9, hR⟩ := hC
  obtain ⟨h1, h2, h3⟩ := hE
  subst h1; subst h2; subst h3; subst hR
  intro H locs ls hP hD hS hl
  exact va_forget (fun q hq => hS.2.2 q hq) (W.widen hk hn (lw_ret hx hb hr hlk d))
theorem vp_mk {x : Int32} {L : Nat} (h1 : 0 ≤ x.toInt) (h2 : x.toInt < L) : vp_in x L := by
  intro h
  rcases h with h | h
  · have := Int32.lt_iff_toInt_lt.mp h
    have e : (0 : Int32).toInt = 0 := by decide
    omega
  · have e : x.toNatClampNeg = x.toInt.toNat := rfl
    omega
theorem add_small {x : Int32} (z : Int32) {q : Int} (hz : z.toInt = q) (h1 : 0 ≤ x.toInt) (h2 : x.toInt ≤ 3100) (hq : 0 ≤ q) (hq2 : q ≤ 6) : (x + z).toInt = x.toInt + q := by
  rw [Int32.toInt_add, hz, Int.bmod_def]
  omega
theorem lawpast {G : Gx} {C : Cx} {k n : Nat} {b L : Nat} {xs : Nat → Int32} (hC : vH G C cL_law "CoilBenchLaw" 4 ret room_1) (hX : vX b L xs C) (hE : LEnd b C) (hkn : k + 0 ≤ room_1.cells ∧ n + 0 ≤ room_1.slots) (hL : L ≤ 3072) (qx qm : Nat) {x3 : Int32} {ws : va_W} (h1 : 0 ≤ x3.toInt) (h2 : x3.toInt ≤ 3078) (h3 : (L : Int) < x3.toInt) : vG G C k n 18 [(0, .ref b), (1, .ref qx), (2, .ref qm), (3, .int x3)] [] ws := by
  have hLL : (Int32.ofNat L).toInt = L := Int32.toInt_ofNat_of_lt (by omega)
  have h6 : (6 : Int32).toInt = 6 := by decide
  have hsub : (Int32.ofNat L - (6 : Int32)).toInt = L - 6 := by
    rw [Int32.toInt_sub, hLL, h6, Int.bmod_def]
    omega
  refine g_iload_n (pc := 18) 3 hC dL_law_18 rfl ?_
  refine g_aload_n (pc := 19) 0 hC dL_law_19 rfl ?_
  refine g_slen (pc := 20) hC hX dL_law_20 ?_
  refine g_bipush (pc := 21) (6 : Int32) hC dL_law_21 rfl ?_
  refine g_isub (pc := 23) hC dL_law_23 ?_
  refine g_icmp_gt (pc := 24) 712 hC dL_law_24 (by decide) (fun _ => ?_) (fun hgt => ?_)
  · refine g_iconst (pc := 712) (1 : Int32) hC dL_law_712 rfl ?_
    exact g_lawret hC hE hkn.1 hkn.2 dL_law_713
  · exfalso
    have := mt Int32.lt_iff_toInt_lt.mpr hgt
    omega
theorem LAW_loop {E : Nat → Prop} (hQ : E 4) {INV : XS → MS → Prop} (h : HOPS E INV INV) {G : Gx} {C : Cx} {k n : Nat} {b L : Nat} {xs : Nat → Int32} (hC : vH G C cL_law "CoilBenchLaw" 4 ret room_1) (hX : vX b L xs C) (hE : LEnd b C) (hkn : k + 0 ≤ room_1.cells ∧ n + 0 ≤ room_1.slots) (hL : L ≤ 3072) (qx qm : Nat) (am : Nat → Nat → Nat) : ∀ (fu : Nat) (ax : Nat → Nat → Nat) (x3 : Int32) (s : XS) (t : MS), INV s t → 0 ≤ x3.toInt → x3.toInt ≤ 3078 → (L : Int) < x3.toInt + 6 * fu → vG G C k n 18 [(0, .ref b), (1, .ref qx), (2, .ref qm), (3, .int x3)] [] (WL G qx qm ax am s t)
  | 0, _, x3, _, _, _, h1, h2, h3 => by
    exact lawpast hC hX hE hkn hL qx qm h1 h2 (by omega)
  | fu + 1, ax, x3, s, t, hI, h1, h2, h3 => by
    have hLL : (Int32.ofNat L).toInt = L := Int32.toInt_ofNat_of_lt (by omega)
    have h6 : (6 : Int32).toInt = 6 := by decide
    have hsub : (Int32.ofNat L - (6 : Int32)).toInt = L - 6 := by
      rw [Int32.toInt_sub, hLL, h6, Int.bmod_def]
      omega
    refine g_iload_n (pc := 18) 3 hC dL_law_18 rfl ?_
    refine g_aload_n (pc := 19) 0 hC dL_law_19 rfl ?_
    refine g_slen (pc := 20) hC hX dL_law_20 ?_
    refine g_bipush (pc := 21) (6 : Int32) hC dL_law_21 rfl ?_
    refine g_isub (pc := 23) hC dL_law_23 ?_
    refine g_icmp_gt (pc := 24) 712 hC dL_law_24 (by decide) (fun _ => ?_) (fun hgt => ?_)
    · refine g_iconst (pc := 712) (1 : Int32) hC dL_law_712 rfl ?_
      exact g_lawret hC hE hkn.1 hkn.2 dL_law_713
    · have hle : x3.toInt ≤ L - 6 := by
        have := mt Int32.lt_iff_toInt_lt.mpr hgt
        omega
      have hin0 : vp_in x3 L := vp_mk h1 (by omega)
      have hin1 : vp_in (x3 + (1 : Int32)) L := by
        have := add_small (x := x3) 1 (q := 1) (by decide) h1 (by omega) (by omega) (by omega)
        exact vp_mk (by omega) (by omega)
      have hin2 : vp_in (x3 + (2 : Int32)) L := by
        have := add_small (x := x3) 2 (q := 2) (by decide) h1 (by omega) (by omega) (by omega)
        exact vp_mk (by omega) (by omega)
      have hin3 : vp_in (x3 + (3 : Int32)) L := by
        have := add_small (x := x3) 3 (q := 3) (by decide) h1 (by omega) (by omega) (by omega)
        exact vp_mk (by omega) (by omega)
      have hin4 : vp_in (x3 + (4 : Int32)) L := by
        have := add_small (x := x3) 4 (q := 4) (by decide) h1 (by omega) (by omega) (by omega)
        exact vp_mk (by omega) (by omega)
      have hin5 : vp_in (x3 + (5 : Int32)) L := by
        have := add_small (x := x3) 5 (q := 5) (by decide) h1 (by omega) (by omega) (by omega)
        exact vp_mk (by omega) (by omega)
      refine g_aload_n (pc := 27) 0 hC dL_law_27 rfl ?_
      refine g_iload_n (pc := 28) 3 hC dL_law_28 rfl ?_
      refine g_sld (pc := 29) hC hX dL_law_29 hin0 ?_
      refine g_bipush (pc := 30) (31 : Int32) hC dL_law_30 rfl ?_
      refine g_iand (pc := 32) hC dL_law_32 ?_
      have K : ∀ ax' s' t', INV s' t' → vG G C k n 706 [(0, .ref b), (1, .ref qx), (2, .ref qm), (3, .int x3)] [] (WL G qx qm ax' am s' t') := by
        intro ax' s' t' hI'
        refine g_iinc (pc := 706) (lv2 := [(3, .int (x3 + (6 : Int32))), (0, .ref b), (1, .ref qx), (2, .ref qm)]) 3 hC dL_law_706 rfl rfl (Nat.le_of_ble_eq_true rfl) rfl ?_
        refine g_sub (lv2 := [(0, .ref b), (1, .ref qx), (2, .ref qm), (3, .int (x3 + (6 : Int32)))]) [1, 2, 3, 0] rfl ?_
        refine g_goto (pc := 709) 18 hC dL_law_709 (by decide) ?_
        have e6 := add_small (x := x3) 6 h6 h1 (by omega) (by omega) (by omega)
        exact LAW_loop hQ h hC hX hE hkn hL qx qm am fu ax' (x3 + 6) s' t' hI' (by omega) (by omega) (by omega)
      generalize hw : xs x3.toNatClampNeg &&& (31 : Int32) = w
      obtain ⟨h_feed, h_load, h_adder, h_wrong, h_count, h_letter, h_key, h_tick, h_quiet, h_relay, h_contact, h_lamp, h_net, h_stuck, h_dust, h_race, h_raced, h_back, _⟩ := h
      by_cases c0 : w = (0 : Int32)
      · subst c0
        refine g_tableIn (pc := 33) (off := 87) 120 hC dL_law_33 (by decide) (by decide) rfl (by decide) ?_
        exact LAW_feed h_feed hC hX hkn qx qm ax am x3 hin1 hin2 hin3 hin4 hin5 s t hI K
      by_cases c1 : w = (1 : Int32)
      · subst c1
        refine g_tableIn (pc := 33) (off := 150) 183 hC dL_law_33 (by decide) (by decide) rfl (by decide) ?_
        exact LAW_load h_load hC hX hkn qx qm ax am x3 hin1 s t hI K
      by_cases c2 : w = (2 : Int32)
      · subst c2
        refine g_tableIn (pc := 33) (off := 173) 206 hC dL_law_33 (by decide) (by decide) rfl (by decide) ?_
        exact LAW_adder h_adder hC hX hkn qx qm ax am x3 hin1 s t hI K
      by_cases c3 : w = (3 : Int32)
      · subst c3
        refine g_tableIn (pc := 33) (off := 196) 229 hC dL_law_33 (by decide) (by decide) rfl (by decide) ?_
        exact LAW_wrong h_wrong hC hX hkn qx qm ax am x3 hin1 s t hI K
      by_cases c4 : w = (4 : Int32)
      · subst c4
        refine g_tableIn (pc := 33) (off := 219) 252 hC dL_law_33 (by decide) (by decide) rfl (by decide) ?_
        exact LAW_count hQ h_count hC hX hkn qx qm ax am x3 hin1 s t hI K
      by_cases c5 : w = (5 : Int32)
      · subst c5
        refine g_tableIn (pc := 33) (off := 242) 275 hC dL_law_33 (by decide) (by decide) rfl (by decide) ?_
        exact LAW_letter h_letter hC hX hkn qx qm ax am x3 hin1 hin2 hin3 s t hI K
      by_cases c6 : w = (6 : Int32)
      · subst c6
        refine g_tableIn (pc := 33) (off := 285) 318 hC dL_law_33 (by decide) (by decide) rfl (by decide) ?_
        exact LAW_key h_key hC hX hkn qx qm ax am x3 hin1 hin2 s t hI K
      by_cases c7 : w = (7 : Int32)
      · subst c7
        refine g_tableIn (pc := 33) (off := 334) 367 hC dL_law_33 (by decide) (by decide) rfl (by decide) ?_
        exact LAW_tick h_tick hC hX hkn qx qm ax am x3 hin1 s t hI K
      by_cases c8 : w = (8 : Int32)
      · subst c8
        refine g_tableIn (pc := 33) (off := 357) 390 hC dL_law_33 (by decide) (by decide) rfl (by decide) ?_
        exact LAW_quiet h_quiet hC hX hkn qx qm ax am x3 s t hI K
      by_cases c9 : w = (9 : Int32)
      · subst c9
        refine g_tableIn (pc := 33) (off := 370) 403 hC dL_law_33 (by decide) (by decide) rfl (by decide) ?_
        exact LAW_relay h_relay hC hX hkn qx qm ax am x3 hin1 hin2 s t hI K
      by_cases c10 : w = (10 : Int32)
      · subst c10
        refine g_tableIn (pc := 33) (off := 403) 436 hC dL_law_33 (by decide) (by decide) rfl (by decide) ?_
        exact LAW_contact h_contact hC hX hkn qx qm ax am x3 hin1 hin2 s t hI K
      by_cases c11 : w = (11 : Int32)
      · subst c11
        refine g_tableIn (pc := 33) (off := 436) 469 hC dL_law_33 (by decide) (by decide) rfl (by decide) ?_
        exact LAW_lamp h_lamp hC hX hkn qx qm ax am x3 hin1 s t hI K
      by_cases c12 : w = (12 : Int32)
      · subst c12
        refine g_tableIn (pc := 33) (off := 459) 492 hC dL_law_33 (by decide) (by decide) rfl (by decide) ?_
        exact LAW_net h_net hC hX hkn qx qm ax am x3 hin1 hin2 hin3 s t hI K
      by_cases c13 : w = (13 : Int32)
      · subst c13
        refine g_tableIn (pc := 33) (off := 502) 535 hC dL_law_33 (by decide) (by decide) rfl (by decide) ?_
        exact LAW_stuck h_stuck hC hX hkn qx qm ax am x3 hin1 hin2 hin3 s t hI K
      by_cases c14 : w = (14 : Int32)
      · subst c14
        refine g_tableIn (pc := 33) (off := 545) 578 hC dL_law_33 (by decide) (by decide) rfl (by decide) ?_
        exact LAW_dust h_dust hC hX hkn qx qm ax am x3 hin1 hin2 hin3 s t hI K
      by_cases c15 : w = (15 : Int32)
      · subst c15
        refine g_tableIn (pc := 33) (off := 604) 637 hC dL_law_33 (by decide) (by decide) rfl (by decide) ?_
        exact LAW_race h_race hC hX hkn qx qm ax am x3 hin1 s t hI K
      by_cases c16 : w = (16 : Int32)
      · subst c16
        refine g_tableIn (pc := 33) (off := 627) 660 hC dL_law_33 (by decide) (by decide) rfl (by decide) ?_
        exact LAW_raced h_raced hC hX hkn qx qm ax am x3 hin1 s t hI K
      by_cases c17 : w = (17 : Int32)
      · subst c17
        refine g_tableIn (pc := 33) (off := 650) 683 hC dL_law_33 (by decide) (by decide) rfl (by decide) ?_
        exact LAW_back h_back hC hX hkn qx qm ax am x3 hin1 s t hI K
      refine g_tableOut (pc := 33) 706 hC dL_law_33 ?_ (by decide) (K ax s t hI)
      rcases Classical.em (w.toInt < 0 ∨ 17 < w.toInt) with hh | hh
      · exact hh
      · exfalso
        have hne : ∀ (z : Int32), ¬ w = z → ¬ w.toInt = z.toInt := fun z hz e => hz (Int32.toInt_inj.mp e)
        have d0 : ¬ w.toInt = 0 := hne 0 c0
        have d1 : ¬ w.toInt = 1 := hne 1 c1
        have d2 : ¬ w.toInt = 2 := hne 2 c2
        have d3 : ¬ w.toInt = 3 := hne 3 c3
        have d4 : ¬ w.toInt = 4 := hne 4 c4
        have d5 : ¬ w.toInt = 5 := hne 5 c5
        have d6 : ¬ w.toInt = 6 := hne 6 c6
        have d7 : ¬ w.toInt = 7 := hne 7 c7
        have d8 : ¬ w.toInt = 8 := hne 8 c8
        have d9 : ¬ w.toInt = 9 := hne 9 c9
        have d10 : ¬ w.toInt = 10 := hne 10 c10
        have d11 : ¬ w.toInt = 11 := hne 11 c11
        have d12 : ¬ w.toInt = 12 := hne 12 c12
        have d13 : ¬ w.toInt = 13 := hne 13 c13
        have d14 : ¬ w.toInt = 14 := hne 14 c14
        have d15 : ¬ w.toInt = 15 := hne 15 c15
        have d16 : ¬ w.toInt = 16 := hne 16 c16
        have d17 : ¬ w.toInt = 17 := hne 17 c17
        omega
