/-! CoilBench$Netlist.has(II)Z -/
abbrev ws_X3_has (G : Gx) (q_this : Nat) (q_parts : Nat) (q_names : Nat) (q_pickTime : Nat) (q_dropTime : Nat) (q_contacts : Nat) (q_makes : Nat) (q_period : Nat) (q_onTime : Nat) (q_told : Nat) (q_joined : Nat) (q_netOf : Nat) (c_toldNets : Int32) (c_nets : Int32) (c_parts : Nat → Int32) : va_W := [(q_this, eO 2 [.ref q_parts, .ref q_names, .ref q_pickTime, .ref q_dropTime, .ref q_contacts, .ref q_makes, .ref q_period, .ref q_onTime, .ref q_told, .ref q_joined, .ref q_netOf, .int c_toldNets, .int c_nets]), (q_parts, eI G 5 c_parts)]
theorem mY_X3_has : vY yX3_has cX3_has 3 (some .boolean) 2 := ⟨W1_97, W1_4, ⟨by decide +kernel, by decide +kernel⟩, by decide +kernel⟩
theorem mI_X3_has : vYi yX3_has := ⟨W1_95, W1_96⟩
def f_X3_has (x1 : Int32) (x2 : Int32) (c_parts : Nat → Int32) : Option (Int32) := if x1 < 0 then (some (0 : Int32)) else (if (5 : Int32) ≤ x1 then (some (0 : Int32)) else (if x2 < 0 then (some (0 : Int32)) else (if bad x1 5 = true then none else if (c_parts x1.toNatClampNeg) ≤ x2 then (some (0 : Int32)) else (some (1 : Int32)))))
set_option maxHeartbeats 4000000 in
set_option maxRecDepth 100000 in
theorem c_X3_has (G : Gx) (q_this : Nat) (q_parts : Nat) (q_names : Nat) (q_pickTime : Nat) (q_dropTime : Nat) (q_contacts : Nat) (q_makes : Nat) (q_period : Nat) (q_onTime : Nat) (q_told : Nat) (q_joined : Nat) (q_netOf : Nat) (c_toldNets : Int32) (c_nets : Int32) (c_parts : Nat → Int32) (x1 : Int32) (x2 : Int32) (R : Int32) (hf : f_X3_has x1 x2 c_parts = some R) : vM G yX3_has cX3_has 3 (some .boolean) 0 0 [.ref q_this, .int x1, .int x2] (ws_X3_has G q_this q_parts q_names q_pickTime q_dropTime q_contacts q_makes q_period q_onTime q_told q_joined q_netOf c_toldNets c_nets c_parts) (some (.int R)) (ws_X3_has G q_this q_parts q_names q_pickTime q_dropTime q_contacts q_makes q_period q_onTime q_told q_joined q_netOf c_toldNets c_nets c_parts) := by
  refine vM_of (by decide +kernel) (Nat.le_of_ble_eq_true rfl) [(0, .ref q_this), (1, .int x1), (2, .int x2)] rfl (fun C hC hQ => ?_)
  have hC : vH G C cX3_has RX3 3 (some .boolean) { frames := 0, cells := 0, slots := 0, locals := 0 } := hC
  rw [f_X3_has] at hf
  refine g_iload_n (pc := 0) 1 hC dX3_has_0 rfl ?_
  refine g_if_lt (pc := 1) 27 hC dX3_has_1 (by decide) (fun hb => ?_) (fun hb => ?_)
  · replace hf := ite_t hf hb
    refine g_iconst (pc := 27) (0 : Int32) hC dX3_has_27 rfl ?_
    obtain rfl := Option.some.inj hf
    exact g_zret (pc := 28) hC rfl hQ dX3_has_28
  · replace hf := ite_f hf hb
    refine g_iload_n (pc := 4) 1 hC dX3_has_4 rfl ?_
    refine g_iconst (pc := 5) (5 : Int32) hC dX3_has_5 rfl ?_
    refine g_icmp_ge (pc := 6) 27 hC dX3_has_6 (by decide) (fun hb => ?_) (fun hb => ?_)
    · replace hf := ite_t hf hb
      refine g_iconst (pc := 27) (0 : Int32) hC dX3_has_27 rfl ?_
      obtain rfl := Option.some.inj hf
      exact g_zret (pc := 28) hC rfl hQ dX3_has_28
    · replace hf := ite_f hf hb
      refine g_iload_n (pc := 9) 2 hC dX3_has_9 rfl ?_
      refine g_if_lt (pc := 10) 27 hC dX3_has_10 (by decide) (fun hb => ?_) (fun hb => ?_)
      · replace hf := ite_t hf hb
        refine g_iconst (pc := 27) (0 : Int32) hC dX3_has_27 rfl ?_
        obtain rfl := Option.some.inj hf
        exact g_zret (pc := 28) hC rfl hQ dX3_has_28
      · replace hf := ite_f hf hb
        refine g_iload_n (pc := 13) 2 hC dX3_has_13 rfl ?_
        refine g_aload_n (pc := 14) 0 hC dX3_has_14 rfl ?_
        refine g_get (pc := 15) 0 0 hC inX3 dX3_has_15 W1_104 rfl rfl (Nat.le_of_ble_eq_true rfl) rfl rfl ?_
        refine g_iload_n (pc := 18) 1 hC dX3_has_18 rfl ?_
        obtain ⟨h1, hf⟩ := bad_s hf
        refine g_iald (pc := 19) 1 hC dX3_has_19 rfl h1 ?_
        refine g_icmp_ge (pc := 20) 27 hC dX3_has_20 (by decide) (fun hb => ?_) (fun hb => ?_)
        · replace hf := ite_t hf hb
          refine g_iconst (pc := 27) (0 : Int32) hC dX3_has_27 rfl ?_
          obtain rfl := Option.some.inj hf
          exact g_zret (pc := 28) hC rfl hQ dX3_has_28
        · replace hf := ite_f hf hb
          refine g_iconst (pc := 23) (1 : Int32) hC dX3_has_23 rfl ?_
          refine g_goto (pc := 24) 28 hC dX3_has_24 (by decide) ?_
          obtain rfl := Option.some.inj hf
          exact g_zret (pc := 28) hC rfl hQ dX3_has_28
/-! CoilBench$Netlist.headOf(I)I -/
abbrev ws_X3_headOf (G : Gx) (q_this : Nat) (q_joined : Nat) (q_parts : Nat) (q_names : Nat) (q_pickTime : Nat) (q_dropTime : Nat) (q_contacts : Nat) (q_makes : Nat) (q_period : Nat) (q_onTime : Nat) (q_told : Nat) (q_netOf : Nat) (c_toldNets : Int32) (c_nets : Int32) (c_joined : Nat → Int32) : va_W := [(q_this, eO 2 [.ref q_parts, .ref q_names, .ref q_pickTime, .ref q_dropTime, .ref q_contacts, .ref q_makes, .ref q_period, .ref q_onTime, .ref q_told, .ref q_joined, .ref q_netOf, .int c_toldNets, .int c_nets]), (q_joined, eI G 954 c_joined)]
theorem mY_X3_headOf : vY yX3_headOf cX3_headOf 4 (some .int) 1 := ⟨W1_85, W1_4, ⟨by decide +kernel, by decide +kernel⟩, by decide +kernel⟩
theorem mI_X3_headOf : vYi yX3_headOf := ⟨W1_84, (tb_in (tb_s (q := (yX3_headOf, 13)) (by decide +kernel)) rfl)⟩
def f_X3_headOf_4 : Nat → (Int32) → (Int32) → (Nat → Int32) → Option (Int32 × (Nat → Int32))
  | 0, _, _, _ => none
  | n + 1, x2, x3, c_joined => if (954 : Int32) ≤ x3 then (some (x2, c_joined)) else (if bad x2 954 = true then none else if (c_joined x2.toNatClampNeg) = x2 then (some (x2, c_joined)) else (if bad x2 954 = true then none else if bad (c_joined x2.toNatClampNeg) 954 = true then none else vlet ((c_joined (c_joined x2.toNatClampNeg).toNatClampNeg)) fun t4 => if bad x2 954 = true then none else vlet (upd c_joined x2.toNatClampNeg t4) fun w6 => if bad x2 954 = true then none else vlet ((w6 x2.toNatClampNeg)) fun t8 => vlet (x3 + (1 : Int32)) fun t9 => (f_X3_headOf_4 n t8 t9 w6)))
set_option maxHeartbeats 4000000 in
set_option maxRecDepth 100000 in
theorem w_X3_headOf_4 {G : Gx} {C : Cx} (hC : vH G C cX3_headOf RX3 4 (some .int) { frames := 0, cells := 0, slots := 0, locals := 0 }) (q_this : Nat) (q_joined : Nat) (q_parts : Nat) (q_names : Nat) (q_pickTime : Nat) (q_dropTime : Nat) (q_contacts : Nat) (q_makes : Nat) (q_period : Nat) (q_onTime : Nat) (q_told : Nat) (q_netOf : Nat) (c_toldNets : Int32) (c_nets : Int32) (R : Int32 × (Nat → Int32)) (hQ : vR G C 0 0 (some (.int R.1)) (ws_X3_headOf G q_this q_joined q_parts q_names q_pickTime q_dropTime q_contacts q_makes q_period q_onTime q_told q_netOf c_toldNets c_nets R.2)) : ∀ (n : Nat) (x2 : Int32) (x3 : Int32) (c_joined : Nat → Int32), f_X3_headOf_4 n x2 x3 c_joined = some R → vG G C 0 0 4 [(0, .ref q_this), (2, .int x2), (3, .int x3)] [] (ws_X3_headOf G q_this q_joined q_parts q_names q_pickTime q_dropTime q_contacts q_makes q_period q_onTime q_told q_netOf c_toldNets c_nets c_joined) := by
  intro n
  induction n with
  | zero => intro x2 x3 c_joined hf; rw [f_X3_headOf_4] at hf; cases hf
  | succ n ih =>
    intro x2 x3 c_joined hf
    rw [f_X3_headOf_4] at hf
    refine g_iload_n (pc := 4) 2 hC dX3_headOf_4 rfl ?_
    refine g_sipush (pc := 5) (954 : Int32) hC dX3_headOf_5 rfl ?_
    refine g_icmp_ge (pc := 8) 51 hC dX3_headOf_8 (by decide) (fun hb => ?_) (fun hb => ?_)
    · replace hf := ite_t hf hb
      refine g_iload_n (pc := 51) 1 hC dX3_headOf_51 rfl ?_
      obtain rfl := Option.some.inj hf
      exact g_iret (pc := 52) hC hQ dX3_headOf_52
    · replace hf := ite_f hf hb
      refine g_aload_n (pc := 11) 0 hC dX3_headOf_11 rfl ?_
      refine g_get (pc := 12) 0 9 hC inX3 dX3_headOf_12 W1_122 rfl rfl (Nat.le_of_ble_eq_true rfl) rfl rfl ?_
      refine g_iload_n (pc := 15) 1 hC dX3_headOf_15 rfl ?_
      obtain ⟨h1, hf⟩ := bad_s hf
      refine g_iald (pc := 16) 1 hC dX3_headOf_16 rfl h1 ?_
      refine g_iload_n (pc := 17) 1 hC dX3_headOf_17 rfl ?_
      refine g_icmp_eq (pc := 18) 51 hC dX3_headOf_18 (by decide) (fun hb => ?_) (fun hb => ?_)
      · replace hf := ite_t hf hb
        refine g_iload_n (pc := 51) 1 hC dX3_headOf_51 rfl ?_
        obtain rfl := Option.some.inj hf
        exact g_iret (pc := 52) hC hQ dX3_headOf_52
      · replace hf := ite_f hf hb
        refine g_aload_n (pc := 21) 0 hC dX3_headOf_21 rfl ?_
        refine g_get (pc := 22) 0 9 hC inX3 dX3_headOf_22 W1_122 rfl rfl (Nat.le_of_ble_eq_true rfl) rfl rfl ?_
        refine g_iload_n (pc := 25) 1 hC dX3_headOf_25 rfl ?_
        refine g_aload_n (pc := 26) 0 hC dX3_headOf_26 rfl ?_
        refine g_get (pc := 27) 0 9 hC inX3 dX3_headOf_27 W1_122 rfl rfl (Nat.le_of_ble_eq_true rfl) rfl rfl ?_
        refine g_aload_n (pc := 30) 0 hC dX3_headOf_30 rfl ?_
        refine g_get (pc := 31) 0 9 hC inX3 dX3_headOf_31 W1_122 rfl rfl (Nat.le_of_ble_eq_true rfl) rfl rfl ?_
        refine g_iload_n (pc := 34) 1 hC dX3_headOf_34 rfl ?_
        obtain ⟨h2, hf⟩ := bad_s hf
        refine g_iald (pc := 35) 1 hC dX3_headOf_35 rfl h2 ?_
        obtain ⟨h3, hf⟩ := bad_s hf
        refine g_iald (pc := 36) 1 hC dX3_headOf_36 rfl h3 ?_
        obtain ⟨t4, et4, hf⟩ := vlet_s hf
        refine g_nmi et4 ?_
        obtain ⟨h5, hf⟩ := bad_s hf
        obtain ⟨w6, ew6, hf⟩ := vlet_s hf
        refine g_iast (pc := 37) (ws2 := (ws_X3_headOf G q_this q_joined q_parts q_names q_pickTime q_dropTime q_contacts q_makes q_period q_onTime q_told q_netOf c_toldNets c_nets w6)) 1 hC dX3_headOf_37 rfl h5 ew6 rfl ?_
        refine g_aload_n (pc := 38) 0 hC dX3_headOf_38 rfl ?_
        refine g_get (pc := 39) 0 9 hC inX3 dX3_headOf_39 W1_122 rfl rfl (Nat.le_of_ble_eq_true rfl) rfl rfl ?_
        refine g_iload_n (pc := 42) 1 hC dX3_headOf_42 rfl ?_
        obtain ⟨h7, hf⟩ := bad_s hf
        refine g_iald (pc := 43) 1 hC dX3_headOf_43 rfl h7 ?_
        obtain ⟨t8, et8, hf⟩ := vlet_s hf
        refine g_nmi et8 ?_
        refine g_istore_n (pc := 44) [(2, .int t8), (0, .ref q_this), (3, .int x3)] hC dX3_headOf_44 (Nat.le_of_ble_eq_true rfl) rfl ?_
        obtain ⟨t9, et9, hf⟩ := vlet_s hf
        refine g_iinc (pc := 45) 2 [(3, .int t9), (2, .int t8), (0, .ref q_this)] hC dX3_headOf_45 rfl (by rw [et9]; rfl) (Nat.le_of_ble_eq_true rfl) rfl ?_
        refine g_goto (pc := 48) 4 hC dX3_headOf_48 (by decide) ?_
        refine g_sub (lv2 := [(0, .ref q_this), (2, .int t8), (3, .int t9)]) [2, 1, 0] rfl ?_
        exact ih t8 t9 w6 hf
def f_X3_headOf (x1 : Int32) (c_joined : Nat → Int32) : Option (Int32 × (Nat → Int32)) := (f_X3_headOf_4 FU x1 (0 : Int32) c_joined)
set_option maxHeartbeats 4000000 in
set_option maxRecDepth 100000 in
theorem c_X3_headOf (G : Gx) (q_this : Nat) (q_joined : Nat) (q_parts : Nat) (q_names : Nat) (q_pickTime : Nat) (q_dropTime : Nat) (q_contacts : Nat) (q_makes : Nat) (q_period : Nat) (q_onTime : Nat) (q_told : Nat) (q_netOf : Nat) (c_toldNets : Int32) (c_nets : Int32) (c_joined : Nat → Int32) (x1 : Int32) (R : Int32 × (Nat → Int32)) (hf : f_X3_headOf x1 c_joined = some R) : vM G yX3_headOf cX3_headOf 4 (some .int) 0 0 [.ref q_this, .int x1] (ws_X3_headOf G q_this q_joined q_parts q_names q_pickTime q_dropTime q_contacts q_makes q_period q_onTime q_told q_netOf c_toldNets c_nets c_joined) (some (.int R.1)) (ws_X3_headOf G q_this q_joined q_parts q_names q_pickTime q_dropTime q_contacts q_makes q_period q_onTime q_told q_netOf c_toldNets c_nets R.2) := by
  refine vM_of (by decide +kernel) (Nat.le_of_ble_eq_true rfl) [(0, .ref q_this), (1, .int x1)] rfl (fun C hC hQ => ?_)
  have hC : vH G C cX3_headOf RX3 4 (some .int) { frames := 0, cells := 0, slots := 0, locals := 0 } := hC
  rw [f_X3_headOf] at hf
  refine g_iload_n (pc := 0) 1 hC dX3_headOf_0 rfl ?_
  refine g_istore_n (pc := 1) [(2, .int x1), (0, .ref q_this), (1, .int x1)] hC dX3_headOf_1 (Nat.le_of_ble_eq_true rfl) rfl ?_
  refine g_iconst (pc := 2) (0 : Int32) hC dX3_headOf_2 rfl ?_
  refine g_istore_n (pc := 3) [(3, .int (0 : Int32)), (2, .int x1), (0, .ref q_this), (1, .int x1)] hC dX3_headOf_3 (Nat.le_of_ble_eq_true rfl) rfl ?_
  refine g_sub (lv2 := [(0, .ref q_this), (2, .int x1), (3, .int (0 : Int32))]) [2, 1, 0] rfl ?_
  exact w_X3_headOf_4 hC q_this q_joined q_parts q_names q_pickTime q_dropTime q_contacts q_makes q_period q_onTime q_told q_netOf c_toldNets c_nets R hQ FU x1 (0 : Int32) c_joined hf
