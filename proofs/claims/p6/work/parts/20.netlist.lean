/-! CoilBench$Netlist.clear()V -/
abbrev ws_X3_clear (G : Gx) (q_this : Nat) (q_parts : Nat) (q_told : Nat) (q_joined : Nat) (q_netOf : Nat) (q_names : Nat) (q_pickTime : Nat) (q_dropTime : Nat) (q_contacts : Nat) (q_makes : Nat) (q_period : Nat) (q_onTime : Nat) (c_toldNets : Int32) (c_nets : Int32) (c_parts : Nat → Int32) (c_told : Nat → Int32) (c_joined : Nat → Int32) (c_netOf : Nat → Int32) : va_W := [(q_this, eO 2 [.ref q_parts, .ref q_names, .ref q_pickTime, .ref q_dropTime, .ref q_contacts, .ref q_makes, .ref q_period, .ref q_onTime, .ref q_told, .ref q_joined, .ref q_netOf, .int c_toldNets, .int c_nets]), (q_parts, eI G 5 c_parts), (q_told, eZ G 954 c_told), (q_joined, eI G 954 c_joined), (q_netOf, eI G 954 c_netOf)]
theorem mY_X3_clear : vY yX3_clear cX3_clear 2 (none) 0 := ⟨W1_77, W1_4, ⟨by decide +kernel, by decide +kernel⟩, by decide +kernel⟩
theorem mI_X3_clear : vYi yX3_clear := ⟨W1_75, W1_76⟩
def f_X3_clear_22 : Nat → (Int32) → (Nat → Int32) → (Nat → Int32) → (Nat → Int32) → (Nat → Int32) → Option ((Nat → Int32) × (Nat → Int32) × (Nat → Int32) × (Nat → Int32))
  | 0, _, _, _, _, _ => none
  | n + 1, x1, c_parts, c_told, c_joined, c_netOf => if (954 : Int32) ≤ x1 then (some (c_parts, c_told, c_joined, c_netOf)) else (if bad x1 954 = true then none else vlet (upd c_told x1.toNatClampNeg (vp_nar .boolean (0 : Int32))) fun w2 => if bad x1 954 = true then none else vlet (upd c_joined x1.toNatClampNeg x1) fun w4 => if bad x1 954 = true then none else vlet (upd c_netOf x1.toNatClampNeg (-1 : Int32)) fun w6 => vlet (x1 + (1 : Int32)) fun t7 => (f_X3_clear_22 n t7 c_parts w2 w4 w6))
set_option maxHeartbeats 4000000 in
set_option maxRecDepth 100000 in
theorem w_X3_clear_22 {G : Gx} {C : Cx} (hC : vH G C cX3_clear RX3 2 (none) { frames := 0, cells := 0, slots := 0, locals := 0 }) (q_this : Nat) (q_parts : Nat) (q_told : Nat) (q_joined : Nat) (q_netOf : Nat) (q_names : Nat) (q_pickTime : Nat) (q_dropTime : Nat) (q_contacts : Nat) (q_makes : Nat) (q_period : Nat) (q_onTime : Nat) (c_toldNets : Int32) (c_nets : Int32) (R : (Nat → Int32) × (Nat → Int32) × (Nat → Int32) × (Nat → Int32)) (hQ : vR G C 0 0 none (ws_X3_clear G q_this q_parts q_told q_joined q_netOf q_names q_pickTime q_dropTime q_contacts q_makes q_period q_onTime c_toldNets c_nets R.1 R.2.1 R.2.2.1 R.2.2.2)) : ∀ (n : Nat) (x1 : Int32) (c_parts : Nat → Int32) (c_told : Nat → Int32) (c_joined : Nat → Int32) (c_netOf : Nat → Int32), f_X3_clear_22 n x1 c_parts c_told c_joined c_netOf = some R → vG G C 0 0 22 [(0, .ref q_this), (1, .int x1)] [] (ws_X3_clear G q_this q_parts q_told q_joined q_netOf q_names q_pickTime q_dropTime q_contacts q_makes q_period q_onTime c_toldNets c_nets c_parts c_told c_joined c_netOf) := by
  intro n
  induction n with
  | zero => intro x1 c_parts c_told c_joined c_netOf hf; rw [f_X3_clear_22] at hf; cases hf
  | succ n ih =>
    intro x1 c_parts c_told c_joined c_netOf hf
    rw [f_X3_clear_22] at hf
    refine g_iload_n (pc := 22) 1 hC dX3_clear_22 rfl ?_
    refine g_sipush (pc := 23) (954 : Int32) hC dX3_clear_23 rfl ?_
    refine g_icmp_ge (pc := 26) 56 hC dX3_clear_26 (by decide) (fun hb => ?_) (fun hb => ?_)
    · replace hf := ite_t hf hb
      obtain rfl := Option.some.inj hf
      exact g_vret (pc := 56) hC hQ dX3_clear_56
    · replace hf := ite_f hf hb
      refine g_aload_n (pc := 29) 0 hC dX3_clear_29 rfl ?_
      refine g_get (pc := 30) 0 8 hC inX3 dX3_clear_30 W1_121 rfl rfl (Nat.le_of_ble_eq_true rfl) rfl rfl ?_
      refine g_iload_n (pc := 33) 1 hC dX3_clear_33 rfl ?_
      refine g_iconst (pc := 34) (0 : Int32) hC dX3_clear_34 rfl ?_
      obtain ⟨h1, hf⟩ := bad_s hf
      obtain ⟨w2, ew2, hf⟩ := vlet_s hf
      refine g_zast (pc := 35) (ws2 := (ws_X3_clear G q_this q_parts q_told q_joined q_netOf q_names q_pickTime q_dropTime q_contacts q_makes q_period q_onTime c_toldNets c_nets c_parts w2 c_joined c_netOf)) 2 hC dX3_clear_35 rfl h1 ew2 rfl ?_
      refine g_aload_n (pc := 36) 0 hC dX3_clear_36 rfl ?_
      refine g_get (pc := 37) 0 9 hC inX3 dX3_clear_37 W1_122 rfl rfl (Nat.le_of_ble_eq_true rfl) rfl rfl ?_
      refine g_iload_n (pc := 40) 1 hC dX3_clear_40 rfl ?_
      refine g_iload_n (pc := 41) 1 hC dX3_clear_41 rfl ?_
      obtain ⟨h3, hf⟩ := bad_s hf
      obtain ⟨w4, ew4, hf⟩ := vlet_s hf
      refine g_iast (pc := 42) (ws2 := (ws_X3_clear G q_this q_parts q_told q_joined q_netOf q_names q_pickTime q_dropTime q_contacts q_makes q_period q_onTime c_toldNets c_nets c_parts w2 w4 c_netOf)) 3 hC dX3_clear_42 rfl h3 ew4 rfl ?_
      refine g_aload_n (pc := 43) 0 hC dX3_clear_43 rfl ?_
      refine g_get (pc := 44) 0 10 hC inX3 dX3_clear_44 W1_123 rfl rfl (Nat.le_of_ble_eq_true rfl) rfl rfl ?_
      refine g_iload_n (pc := 47) 1 hC dX3_clear_47 rfl ?_
      refine g_iconst (pc := 48) (-1 : Int32) hC dX3_clear_48 rfl ?_
      obtain ⟨h5, hf⟩ := bad_s hf
      obtain ⟨w6, ew6, hf⟩ := vlet_s hf
      refine g_iast (pc := 49) (ws2 := (ws_X3_clear G q_this q_parts q_told q_joined q_netOf q_names q_pickTime q_dropTime q_contacts q_makes q_period q_onTime c_toldNets c_nets c_parts w2 w4 w6)) 4 hC dX3_clear_49 rfl h5 ew6 rfl ?_
      obtain ⟨t7, et7, hf⟩ := vlet_s hf
      refine g_iinc (pc := 50) 1 [(1, .int t7), (0, .ref q_this)] hC dX3_clear_50 rfl (by rw [et7]; rfl) (Nat.le_of_ble_eq_true rfl) rfl ?_
      refine g_goto (pc := 53) 22 hC dX3_clear_53 (by decide) ?_
      refine g_sub (lv2 := [(0, .ref q_this), (1, .int t7)]) [1, 0] rfl ?_
      exact ih t7 c_parts w2 w4 w6 hf
def f_X3_clear_2 : Nat → (Int32) → (Nat → Int32) → (Nat → Int32) → (Nat → Int32) → (Nat → Int32) → Option ((Nat → Int32) × (Nat → Int32) × (Nat → Int32) × (Nat → Int32))
  | 0, _, _, _, _, _ => none
  | n + 1, x1, c_parts, c_told, c_joined, c_netOf => if (5 : Int32) ≤ x1 then ((f_X3_clear_22 FU (0 : Int32) c_parts c_told c_joined c_netOf)) else (if bad x1 5 = true then none else vlet (upd c_parts x1.toNatClampNeg (0 : Int32)) fun w2 => vlet (x1 + (1 : Int32)) fun t3 => (f_X3_clear_2 n t3 w2 c_told c_joined c_netOf))
set_option maxHeartbeats 4000000 in
set_option maxRecDepth 100000 in
theorem w_X3_clear_2 {G : Gx} {C : Cx} (hC : vH G C cX3_clear RX3 2 (none) { frames := 0, cells := 0, slots := 0, locals := 0 }) (q_this : Nat) (q_parts : Nat) (q_told : Nat) (q_joined : Nat) (q_netOf : Nat) (q_names : Nat) (q_pickTime : Nat) (q_dropTime : Nat) (q_contacts : Nat) (q_makes : Nat) (q_period : Nat) (q_onTime : Nat) (c_toldNets : Int32) (c_nets : Int32) (R : (Nat → Int32) × (Nat → Int32) × (Nat → Int32) × (Nat → Int32)) (hQ : vR G C 0 0 none (ws_X3_clear G q_this q_parts q_told q_joined q_netOf q_names q_pickTime q_dropTime q_contacts q_makes q_period q_onTime c_toldNets c_nets R.1 R.2.1 R.2.2.1 R.2.2.2)) : ∀ (n : Nat) (x1 : Int32) (c_parts : Nat → Int32) (c_told : Nat → Int32) (c_joined : Nat → Int32) (c_netOf : Nat → Int32), f_X3_clear_2 n x1 c_parts c_told c_joined c_netOf = some R → vG G C 0 0 2 [(0, .ref q_this), (1, .int x1)] [] (ws_X3_clear G q_this q_parts q_told q_joined q_netOf q_names q_pickTime q_dropTime q_contacts q_makes q_period q_onTime c_toldNets c_nets c_parts c_told c_joined c_netOf) := by
  intro n
  induction n with
  | zero => intro x1 c_parts c_told c_joined c_netOf hf; rw [f_X3_clear_2] at hf; cases hf
  | succ n ih =>
    intro x1 c_parts c_told c_joined c_netOf hf
    rw [f_X3_clear_2] at hf
    refine g_iload_n (pc := 2) 1 hC dX3_clear_2 rfl ?_
    refine g_iconst (pc := 3) (5 : Int32) hC dX3_clear_3 rfl ?_
    refine g_icmp_ge (pc := 4) 20 hC dX3_clear_4 (by decide) (fun hb => ?_) (fun hb => ?_)
    · replace hf := ite_t hf hb
      refine g_iconst (pc := 20) (0 : Int32) hC dX3_clear_20 rfl ?_
      refine g_istore_n (pc := 21) [(1, .int (0 : Int32)), (0, .ref q_this)] hC dX3_clear_21 (Nat.le_of_ble_eq_true rfl) rfl ?_
      refine g_sub (lv2 := [(0, .ref q_this), (1, .int (0 : Int32))]) [1, 0] rfl ?_
      exact w_X3_clear_22 hC q_this q_parts q_told q_joined q_netOf q_names q_pickTime q_dropTime q_contacts q_makes q_period q_onTime c_toldNets c_nets R hQ FU (0 : Int32) c_parts c_told c_joined c_netOf hf
    · replace hf := ite_f hf hb
      refine g_aload_n (pc := 7) 0 hC dX3_clear_7 rfl ?_
      refine g_get (pc := 8) 0 0 hC inX3 dX3_clear_8 W1_104 rfl rfl (Nat.le_of_ble_eq_true rfl) rfl rfl ?_
      refine g_iload_n (pc := 11) 1 hC dX3_clear_11 rfl ?_
      refine g_iconst (pc := 12) (0 : Int32) hC dX3_clear_12 rfl ?_
      obtain ⟨h1, hf⟩ := bad_s hf
      obtain ⟨w2, ew2, hf⟩ := vlet_s hf
      refine g_iast (pc := 13) (ws2 := (ws_X3_clear G q_this q_parts q_told q_joined q_netOf q_names q_pickTime q_dropTime q_contacts q_makes q_period q_onTime c_toldNets c_nets w2 c_told c_joined c_netOf)) 1 hC dX3_clear_13 rfl h1 ew2 rfl ?_
      obtain ⟨t3, et3, hf⟩ := vlet_s hf
      refine g_iinc (pc := 14) 1 [(1, .int t3), (0, .ref q_this)] hC dX3_clear_14 rfl (by rw [et3]; rfl) (Nat.le_of_ble_eq_true rfl) rfl ?_
      refine g_goto (pc := 17) 2 hC dX3_clear_17 (by decide) ?_
      refine g_sub (lv2 := [(0, .ref q_this), (1, .int t3)]) [1, 0] rfl ?_
      exact ih t3 w2 c_told c_joined c_netOf hf
def f_X3_clear (c_parts : Nat → Int32) (c_told : Nat → Int32) (c_joined : Nat → Int32) (c_netOf : Nat → Int32) : Option ((Nat → Int32) × (Nat → Int32) × (Nat → Int32) × (Nat → Int32)) := (f_X3_clear_2 FU (0 : Int32) c_parts c_told c_joined c_netOf)
set_option maxHeartbeats 4000000 in
set_option maxRecDepth 100000 in
theorem c_X3_clear (G : Gx) (q_this : Nat) (q_parts : Nat) (q_told : Nat) (q_joined : Nat) (q_netOf : Nat) (q_names : Nat) (q_pickTime : Nat) (q_dropTime : Nat) (q_contacts : Nat) (q_makes : Nat) (q_period : Nat) (q_onTime : Nat) (c_toldNets : Int32) (c_nets : Int32) (c_parts : Nat → Int32) (c_told : Nat → Int32) (c_joined : Nat → Int32) (c_netOf : Nat → Int32) (R : (Nat → Int32) × (Nat → Int32) × (Nat → Int32) × (Nat → Int32)) (hf : f_X3_clear c_parts c_told c_joined c_netOf = some R) : vM G yX3_clear cX3_clear 2 (none) 0 0 [.ref q_this] (ws_X3_clear G q_this q_parts q_told q_joined q_netOf q_names q_pickTime q_dropTime q_contacts q_makes q_period q_onTime c_toldNets c_nets c_parts c_told c_joined c_netOf) none (ws_X3_clear G q_this q_parts q_told q_joined q_netOf q_names q_pickTime q_dropTime q_contacts q_makes q_period q_onTime c_toldNets c_nets R.1 R.2.1 R.2.2.1 R.2.2.2) := by
  refine vM_of (by decide +kernel) (Nat.le_of_ble_eq_true rfl) [(0, .ref q_this)] rfl (fun C hC hQ => ?_)
  have hC : vH G C cX3_clear RX3 2 (none) { frames := 0, cells := 0, slots := 0, locals := 0 } := hC
  rw [f_X3_clear] at hf
  refine g_iconst (pc := 0) (0 : Int32) hC dX3_clear_0 rfl ?_
  refine g_istore_n (pc := 1) [(1, .int (0 : Int32)), (0, .ref q_this)] hC dX3_clear_1 (Nat.le_of_ble_eq_true rfl) rfl ?_
  refine g_sub (lv2 := [(0, .ref q_this), (1, .int (0 : Int32))]) [1, 0] rfl ?_
  exact w_X3_clear_2 hC q_this q_parts q_told q_joined q_netOf q_names q_pickTime q_dropTime q_contacts q_makes q_period q_onTime c_toldNets c_nets R hQ FU (0 : Int32) c_parts c_told c_joined c_netOf hf
/-! CoilBench$Netlist.headOf(I)I -/
abbrev ws_X3_headOf (G : Gx) (q_this : Nat) (q_joined : Nat) (q_parts : Nat) (q_names : Nat) (q_pickTime : Nat) (q_dropTime : Nat) (q_contacts : Nat) (q_makes : Nat) (q_period : Nat) (q_onTime : Nat) (q_told : Nat) (q_netOf : Nat) (c_toldNets : Int32) (c_nets : Int32) (c_joined : Nat → Int32) : va_W := [(q_this, eO 2 [.ref q_parts, .ref q_names, .ref q_pickTime, .ref q_dropTime, .ref q_contacts, .ref q_makes, .ref q_period, .ref q_onTime, .ref q_told, .ref q_joined, .ref q_netOf, .int c_toldNets, .int c_nets]), (q_joined, eI G 954 c_joined)]
theorem mY_X3_headOf : vY yX3_headOf cX3_headOf 4 (some .int) 1 := ⟨W1_85, W1_4, ⟨by decide +kernel, by decide +kernel⟩, by decide +kernel⟩
theorem mI_X3_headOf : vYi yX3_headOf := ⟨W1_84, (tb_in (tb_s (q := (yX3_headOf, 13)) (by decide +kernel)) rfl)⟩
def f_X3_headOf_4 : Nat → (Int32) → (Int32) → (Nat → Int32) → Option (Int32 × (Nat → Int32))
  | 0, _, _, _ => none
  | n + 1, x2, x3, c_joined => if (954 : Int32) ≤ x3 then (some (x2, c_joined)) else (if bad x2 954 = true then none else if (c_joined x2.toNatClampNeg) = x2 then (some (x2, c_joined)) else (if bad x2 954 = true then none else if bad (c_joined x2.toNatClampNeg) 954 = true then none else vlet ((c_joined (c_joined x2.toNatClampNeg).toNatClampNeg)) fun t4 => if bad x2 954 = true then none else vlet (upd c_joined x2.toNatClampNeg t4) fun w6 => if bad x2 954 = true then none else vlet ((w6 x2.toNatClampNeg)) fun t8 => vlet (x3 + (1 : Int32)) fun t9 => (f_X3_headOf_4 n t8 t9 w6)))
set_option maxHeartbeats 4000000 in
set_option maxRecDepth 100000 in
theorem w_X3_headOf_4 {G : Gx} {C : Cx} (hC : vH G C cX3_headOf RX3 4 (some .int) { frames := 0, cells := 0, slots := 0, locals := 0 }) (q_this : Nat) (q_joined : Nat) (q_parts : Nat) (q_names : Nat) (q_pickTime : Nat) (q_dropTime : Nat) (q_contacts : Nat) (q_makes : Nat) (q_period : Nat) (q_onTime : Nat) (q_told : Nat) (q_netOf : Nat) (c_toldNets : Int32) (c_nets : Int32) (R : Int32 × (Nat → Int32)) (hQ : vR G C 0 0 (some (.int R.1)) (ws_X3_headOf G q_this q_joined q_parts q_names q_pickTime q_dropTime q_contacts q_makes q_period q_onTime q_told q_netOf c_toldNets c_nets R.2)) : ∀ (n : Nat) (x2 : Int32) (x3 : Int32) (c_joined : Nat → Int32), f_X3_headOf_4 n x2 x3 c_joined = some R → vG G C 0 0 4 [(0, .ref q_this), (2, .int x2), (3, .int x3)] [] (ws_X3_headOf G q_this q_joined q_parts q_names q_pickTime q_dropTime q_contacts q_makes q_period q_onTime q_told q_netOf c_toldNets c_nets c_joined) := by
  intro n
  induction n with
  | zero => intro x2 x3 c_joined hf; rw [f_X3_headOf_4] at hf; cases hf
  | succ n ih =>
    intro x2 x3 c_joined hf
    rw [f_X3_headOf_4] at hf
    refine g_iload_n (pc := 4) 2 hC dX3_headOf_4 rfl ?_
    refine g_sipush (pc := 5) (954 : Int32) hC dX3_headOf_5 rfl ?_
    refine g_icmp_ge (pc := 8) 51 hC dX3_headOf_8 (by decide) (fun hb => ?_) (fun hb => ?_)
    · replace hf := ite_t hf hb
      refine g_iload_n (pc := 51) 1 hC dX3_headOf_51 rfl ?_
      obtain rfl := Option.some.inj hf
      exact g_iret (pc := 52) hC hQ dX3_headOf_52
    · replace hf := ite_f hf hb
      refine g_aload_n (pc := 11) 0 hC dX3_headOf_11 rfl ?_
      refine g_get (pc := 12) 0 9 hC inX3 dX3_headOf_12 W1_122 rfl rfl (Nat.le_of_ble_eq_true rfl) rfl rfl ?_
      refine g_iload_n (pc := 15) 1 hC dX3_headOf_15 rfl ?_
      obtain ⟨h1, hf⟩ := bad_s hf
      refine g_iald (pc := 16) 1 hC dX3_headOf_16 rfl h1 ?_
      refine g_iload_n (pc := 17) 1 hC dX3_headOf_17 rfl ?_
      refine g_icmp_eq (pc := 18) 51 hC dX3_headOf_18 (by decide) (fun hb => ?_) (fun hb => ?_)
      · replace hf := ite_t hf hb
        refine g_iload_n (pc := 51) 1 hC dX3_headOf_51 rfl ?_
        obtain rfl := Option.some.inj hf
        exact g_iret (pc := 52) hC hQ dX3_headOf_52
      · replace hf := ite_f hf hb
        refine g_aload_n (pc := 21) 0 hC dX3_headOf_21 rfl ?_
        refine g_get (pc := 22) 0 9 hC inX3 dX3_headOf_22 W1_122 rfl rfl (Nat.le_of_ble_eq_true rfl) rfl rfl ?_
        refine g_iload_n (pc := 25) 1 hC dX3_headOf_25 rfl ?_
        refine g_aload_n (pc := 26) 0 hC dX3_headOf_26 rfl ?_
        refine g_get (pc := 27) 0 9 hC inX3 dX3_headOf_27 W1_122 rfl rfl (Nat.le_of_ble_eq_true rfl) rfl rfl ?_
        refine g_aload_n (pc := 30) 0 hC dX3_headOf_30 rfl ?_
        refine g_get (pc := 31) 0 9 hC inX3 dX3_headOf_31 W1_122 rfl rfl (Nat.le_of_ble_eq_true rfl) rfl rfl ?_
        refine g_iload_n (pc := 34) 1 hC dX3_headOf_34 rfl ?_
        obtain ⟨h2, hf⟩ := bad_s hf
        refine g_iald (pc := 35) 1 hC dX3_headOf_35 rfl h2 ?_
        obtain ⟨h3, hf⟩ := bad_s hf
        refine g_iald (pc := 36) 1 hC dX3_headOf_36 rfl h3 ?_
        obtain ⟨t4, et4, hf⟩ := vlet_s hf
        refine g_nmi et4 ?_
        obtain ⟨h5, hf⟩ := bad_s hf
        obtain ⟨w6, ew6, hf⟩ := vlet_s hf
        refine g_iast (pc := 37) (ws2 := (ws_X3_headOf G q_this q_joined q_parts q_names q_pickTime q_dropTime q_contacts q_makes q_period q_onTime q_told q_netOf c_toldNets c_nets w6)) 1 hC dX3_headOf_37 rfl h5 ew6 rfl ?_
        refine g_aload_n (pc := 38) 0 hC dX3_headOf_38 rfl ?_
        refine g_get (pc := 39) 0 9 hC inX3 dX3_headOf_39 W1_122 rfl rfl (Nat.le_of_ble_eq_true rfl) rfl rfl ?_
        refine g_iload_n (pc := 42) 1 hC dX3_headOf_42 rfl ?_
        obtain ⟨h7, hf⟩ := bad_s hf
        refine g_iald (pc := 43) 1 hC dX3_headOf_43 rfl h7 ?_
        obtain ⟨t8, et8, hf⟩ := vlet_s hf
        refine g_nmi et8 ?_
        refine g_istore_n (pc := 44) [(2, .int t8), (0, .ref q_this), (3, .int x3)] hC dX3_headOf_44 (Nat.le_of_ble_eq_true rfl) rfl ?_
        obtain ⟨t9, et9, hf⟩ := vlet_s hf
        refine g_iinc (pc := 45) 2 [(3, .int t9), (2, .int t8), (0, .ref q_this)] hC dX3_headOf_45 rfl (by rw [et9]; rfl) (Nat.le_of_ble_eq_true rfl) rfl ?_
        refine g_goto (pc := 48) 4 hC dX3_headOf_48 (by decide) ?_
        refine g_sub (lv2 := [(0, .ref q_this), (2, .int t8), (3, .int t9)]) [2, 1, 0] rfl ?_
        exact ih t8 t9 w6 hf
def f_X3_headOf (x1 : Int32) (c_joined : Nat → Int32) : Option (Int32 × (Nat → Int32)) := (f_X3_headOf_4 FU x1 (0 : Int32) c_joined)
set_option maxHeartbeats 4000000 in
set_option maxRecDepth 100000 in
theorem c_X3_headOf (G : Gx) (q_this : Nat) (q_joined : Nat) (q_parts : Nat) (q_names : Nat) (q_pickTime : Nat) (q_dropTime : Nat) (q_contacts : Nat) (q_makes : Nat) (q_period : Nat) (q_onTime : Nat) (q_told : Nat) (q_netOf : Nat) (c_toldNets : Int32) (c_nets : Int32) (c_joined : Nat → Int32) (x1 : Int32) (R : Int32 × (Nat → Int32)) (hf : f_X3_headOf x1 c_joined = some R) : vM G yX3_headOf cX3_headOf 4 (some .int) 0 0 [.ref q_this, .int x1] (ws_X3_headOf G q_this q_joined q_parts q_names q_pickTime q_dropTime q_contacts q_makes q_period q_onTime q_told q_netOf c_toldNets c_nets c_joined) (some (.int R.1)) (ws_X3_headOf G q_this q_joined q_parts q_names q_pickTime q_dropTime q_contacts q_makes q_period q_onTime q_told q_netOf c_toldNets c_nets R.2) := by
  refine vM_of (by decide +kernel) (Nat.le_of_ble_eq_true rfl) [(0, .ref q_this), (1, .int x1)] rfl (fun C hC hQ => ?_)
  have hC : vH G C cX3_headOf RX3 4 (some .int) { frames := 0, cells := 0, slots := 0, locals := 0 } := hC
  rw [f_X3_headOf] at hf
  refine g_iload_n (pc := 0) 1 hC dX3_headOf_0 rfl ?_
  refine g_istore_n (pc := 1) [(2, .int x1), (0, .ref q_this), (1, .int x1)] hC dX3_headOf_1 (Nat.le_of_ble_eq_true rfl) rfl ?_
  refine g_iconst (pc := 2) (0 : Int32) hC dX3_headOf_2 rfl ?_
  refine g_istore_n (pc := 3) [(3, .int (0 : Int32)), (2, .int x1), (0, .ref q_this), (1, .int x1)] hC dX3_headOf_3 (Nat.le_of_ble_eq_true rfl) rfl ?_
  refine g_sub (lv2 := [(0, .ref q_this), (2, .int x1), (3, .int (0 : Int32))]) [2, 1, 0] rfl ?_
  exact w_X3_headOf_4 hC q_this q_joined q_parts q_names q_pickTime q_dropTime q_contacts q_makes q_period q_onTime q_told q_netOf c_toldNets c_nets R hQ FU x1 (0 : Int32) c_joined hf
/-! CoilBench$Netlist.has(II)Z -/
abbrev ws_X3_has (G : Gx) (q_this : Nat) (q_parts : Nat) (q_names : Nat) (q_pickTime : Nat) (q_dropTime : Nat) (q_contacts : Nat) (q_makes : Nat) (q_period : Nat) (q_onTime : Nat) (q_told : Nat) (q_joined : Nat) (q_netOf : Nat) (c_toldNets : Int32) (c_nets : Int32) (c_parts : Nat → Int32) : va_W := [(q_this, eO 2 [.ref q_parts, .ref q_names, .ref q_pickTime, .ref q_dropTime, .ref q_contacts, .ref q_makes, .ref q_period, .ref q_onTime, .ref q_told, .ref q_joined, .ref q_netOf, .int c_toldNets, .int c_nets]), (q_parts, eI G 5 c_parts)]
theorem mY_X3_has : vY yX3_has cX3_has 3 (some .boolean) 2 := ⟨W1_97, W1_4, ⟨by decide +kernel, by decide +kernel⟩, by decide +kernel⟩
theorem mI_X3_has : vYi yX3_has := ⟨W1_95, W1_96⟩
def f_X3_has (x1 : Int32) (x2 : Int32) (c_parts : Nat → Int32) : Option (Int32) := if x1 < 0 then (some (0 : Int32)) else (if (5 : Int32) ≤ x1 then (some (0 : Int32)) else (if x2 < 0 then (some (0 : Int32)) else (if bad x1 5 = true then none else if (c_parts x1.toNatClampNeg) ≤ x2 then (some (0 : Int32)) else (some (1 : Int32)))))
set_option maxHeartbeats 4000000 in
set_option maxRecDepth 100000 in
theorem c_X3_has (G : Gx) (q_this : Nat) (q_parts : Nat) (q_names : Nat) (q_pickTime : Nat) (q_dropTime : Nat) (q_contacts : Nat) (q_makes : Nat) (q_period : Nat) (q_onTime : Nat) (q_told : Nat) (q_joined : Nat) (q_netOf : Nat) (c_toldNets : Int32) (c_nets : Int32) (c_parts : Nat → Int32) (x1 : Int32) (x2 : Int32) (R : Int32) (hf : f_X3_has x1 x2 c_parts = some R) : vM G yX3_has cX3_has 3 (some .boolean) 0 0 [.ref q_this, .int x1, .int x2] (ws_X3_has G q_this q_parts q_names q_pickTime q_dropTime q_contacts q_makes q_period q_onTime q_told q_joined q_netOf c_toldNets c_nets c_parts) (some (.int R)) (ws_X3_has G q_this q_parts q_names q_pickTime q_dropTime q_contacts q_makes q_period q_onTime q_told q_joined q_netOf c_toldNets c_nets c_parts) := by
  refine vM_of (by decide +kernel) (Nat.le_of_ble_eq_true rfl) [(0, .ref q_this), (1, .int x1), (2, .int x2)] rfl (fun C hC hQ => ?_)
  have hC : vH G C cX3_has RX3 3 (some .boolean) { frames := 0, cells := 0, slots := 0, locals := 0 } := hC
  rw [f_X3_has] at hf
  refine g_iload_n (pc := 0) 1 hC dX3_has_0 rfl ?_
  refine g_if_lt (pc := 1) 27 hC dX3_has_1 (by decide) (fun hb => ?_) (fun hb => ?_)
  · replace hf := ite_t hf hb
    refine g_iconst (pc := 27) (0 : Int32) hC dX3_has_27 rfl ?_
    obtain rfl := Option.some.inj hf
    exact g_zret (pc := 28) hC rfl hQ dX3_has_28
  · replace hf := ite_f hf hb
    refine g_iload_n (pc := 4) 1 hC dX3_has_4 rfl ?_
    refine g_iconst (pc := 5) (5 : Int32) hC dX3_has_5 rfl ?_
    refine g_icmp_ge (pc := 6) 27 hC dX3_has_6 (by decide) (fun hb => ?_) (fun hb => ?_)
    · replace hf := ite_t hf hb
      refine g_iconst (pc := 27) (0 : Int32) hC dX3_has_27 rfl ?_
      obtain rfl := Option.some.inj hf
      exact g_zret (pc := 28) hC rfl hQ dX3_has_28
    · replace hf := ite_f hf hb
      refine g_iload_n (pc := 9) 2 hC dX3_has_9 rfl ?_
      refine g_if_lt (pc := 10) 27 hC dX3_has_10 (by decide) (fun hb => ?_) (fun hb => ?_)
      · replace hf := ite_t hf hb
        refine g_iconst (pc := 27) (0 : Int32) hC dX3_has_27 rfl ?_
        obtain rfl := Option.some.inj hf
        exact g_zret (pc := 28) hC rfl hQ dX3_has_28
      · replace hf := ite_f hf hb
        refine g_iload_n (pc := 13) 2 hC dX3_has_13 rfl ?_
        refine g_aload_n (pc := 14) 0 hC dX3_has_14 rfl ?_
        refine g_get (pc := 15) 0 0 hC inX3 dX3_has_15 W1_104 rfl rfl (Nat.le_of_ble_eq_true rfl) rfl rfl ?_
        refine g_iload_n (pc := 18) 1 hC dX3_has_18 rfl ?_
        obtain ⟨h1, hf⟩ := bad_s hf
        refine g_iald (pc := 19) 1 hC dX3_has_19 rfl h1 ?_
        refine g_icmp_ge (pc := 20) 27 hC dX3_has_20 (by decide) (fun hb => ?_) (fun hb => ?_)
        · replace hf := ite_t hf hb
          refine g_iconst (pc := 27) (0 : Int32) hC dX3_has_27 rfl ?_
          obtain rfl := Option.some.inj hf
          exact g_zret (pc := 28) hC rfl hQ dX3_has_28
        · replace hf := ite_f hf hb
          refine g_iconst (pc := 23) (1 : Int32) hC dX3_has_23 rfl ?_
          refine g_goto (pc := 24) 28 hC dX3_has_24 (by decide) ?_
          obtain rfl := Option.some.inj hf
          exact g_zret (pc := 28) hC rfl hQ dX3_has_28
/-! CoilBench$Netlist.endsOf(II)I -/
abbrev ws_X3_endsOf (G : Gx) (q_this : Nat) (q_contacts : Nat) (q_parts : Nat) (q_names : Nat) (q_pickTime : Nat) (q_dropTime : Nat) (q_makes : Nat) (q_period : Nat) (q_onTime : Nat) (q_told : Nat) (q_joined : Nat) (q_netOf : Nat) (c_toldNets : Int32) (c_nets : Int32) (c_contacts : Nat → Int32) : va_W := [(q_this, eO 2 [.ref q_parts, .ref q_names, .ref q_pickTime, .ref q_dropTime, .ref q_contacts, .ref q_makes, .ref q_period, .ref q_onTime, .ref q_told, .ref q_joined, .ref q_netOf, .int c_toldNets, .int c_nets]), (q_contacts, eI G 40 c_contacts)]
theorem mY_X3_endsOf : vY yX3_endsOf cX3_endsOf 3 (some .int) 2 := ⟨W1_101, W1_4, ⟨by decide +kernel, by decide +kernel⟩, by decide +kernel⟩
theorem mI_X3_endsOf : vYi yX3_endsOf := ⟨W1_100, (tb_in (tb_s (q := (yX3_endsOf, 13)) (by decide +kernel)) rfl)⟩
def f_X3_endsOf (x1 : Int32) (x2 : Int32) (c_contacts : Nat → Int32) : Option (Int32) := if x1 = 0 then (if bad x2 40 = true then none else some ((2 : Int32) + ((3 : Int32) * (c_contacts x2.toNatClampNeg)))) else (some (2 : Int32))
set_option maxHeartbeats 4000000 in
set_option maxRecDepth 100000 in
theorem c_X3_endsOf (G : Gx) (q_this : Nat) (q_contacts : Nat) (q_parts : Nat) (q_names : Nat) (q_pickTime : Nat) (q_dropTime : Nat) (q_makes : Nat) (q_period : Nat) (q_onTime : Nat) (q_told : Nat) (q_joined : Nat) (q_netOf : Nat) (c_toldNets : Int32) (c_nets : Int32) (c_contacts : Nat → Int32) (x1 : Int32) (x2 : Int32) (R : Int32) (hf : f_X3_endsOf x1 x2 c_contacts = some R) : vM G yX3_endsOf cX3_endsOf 3 (some .int) 0 0 [.ref q_this, .int x1, .int x2] (ws_X3_endsOf G q_this q_contacts q_parts q_names q_pickTime q_dropTime q_makes q_period q_onTime q_told q_joined q_netOf c_toldNets c_nets c_contacts) (some (.int R)) (ws_X3_endsOf G q_this q_contacts q_parts q_names q_pickTime q_dropTime q_makes q_period q_onTime q_told q_joined q_netOf c_toldNets c_nets c_contacts) := by
  refine vM_of (by decide +kernel) (Nat.le_of_ble_eq_true rfl) [(0, .ref q_this), (1, .int x1), (2, .int x2)] rfl (fun C hC hQ => ?_)
  have hC : vH G C cX3_endsOf RX3 3 (some .int) { frames := 0, cells := 0, slots := 0, locals := 0 } := hC
  rw [f_X3_endsOf] at hf
  refine g_iload_n (pc := 0) 1 hC dX3_endsOf_0 rfl ?_
  refine g_if_ne (pc := 1) 17 hC dX3_endsOf_1 (by decide) (fun hb => ?_) (fun hb => ?_)
  · replace hf := ite_f hf hb
    refine g_iconst (pc := 17) (2 : Int32) hC dX3_endsOf_17 rfl ?_
    obtain rfl := Option.some.inj hf
    exact g_iret (pc := 18) hC hQ dX3_endsOf_18
  · replace hf := ite_t hf hb
    refine g_iconst (pc := 4) (2 : Int32) hC dX3_endsOf_4 rfl ?_
    refine g_iconst (pc := 5) (3 : Int32) hC dX3_endsOf_5 rfl ?_
    refine g_aload_n (pc := 6) 0 hC dX3_endsOf_6 rfl ?_
    refine g_get (pc := 7) 0 4 hC inX3 dX3_endsOf_7 W1_115 rfl rfl (Nat.le_of_ble_eq_true rfl) rfl rfl ?_
    refine g_iload_n (pc := 10) 2 hC dX3_endsOf_10 rfl ?_
    obtain ⟨h1, hf⟩ := bad_s hf
    refine g_iald (pc := 11) 1 hC dX3_endsOf_11 rfl h1 ?_
    refine g_imul (pc := 12) hC dX3_endsOf_12 ?_
    refine g_iadd (pc := 13) hC dX3_endsOf_13 ?_
    refine g_goto (pc := 14) 18 hC dX3_endsOf_14 (by decide) ?_
    obtain rfl := Option.some.inj hf
    exact g_iret (pc := 18) hC hQ dX3_endsOf_18
/-! CoilBench$Netlist.endAt(III)I -/
abbrev ws_X3_endAt (G : Gx) (q_this : Nat) (q_parts : Nat) (q_contacts : Nat) (q_names : Nat) (q_pickTime : Nat) (q_dropTime : Nat) (q_makes : Nat) (q_period : Nat) (q_onTime : Nat) (q_told : Nat) (q_joined : Nat) (q_netOf : Nat) (c_toldNets : Int32) (c_nets : Int32) (c_parts : Nat → Int32) (c_contacts : Nat → Int32) : va_W := [(q_this, eO 2 [.ref q_parts, .ref q_names, .ref q_pickTime, .ref q_dropTime, .ref q_contacts, .ref q_makes, .ref q_period, .ref q_onTime, .ref q_told, .ref q_joined, .ref q_netOf, .int c_toldNets, .int c_nets]), (q_parts, eI G 5 c_parts), (q_contacts, eI G 40 c_contacts)]
theorem mY_X3_endAt : vY yX3_endAt cX3_endAt 5 (some .int) 3 := ⟨W1_93, W1_4, ⟨by decide +kernel, by decide +kernel⟩, by decide +kernel⟩
theorem mI_X3_endAt : vYi yX3_endAt := ⟨W1_91, W1_92⟩
def f_X3_endAt_62 (c_parts : Nat → Int32) (c_contacts : Nat → Int32) (x3 : Int32) (y0 : Int32) (y1 : Int32) (y2 : Int32) : Option (Int32) := some ((y0 + (y1 * y2)) + x3)
set_option maxHeartbeats 4000000 in
set_option maxRecDepth 100000 in
theorem w_X3_endAt_62 {G : Gx} {C : Cx} (hC : vH G C cX3_endAt RX3 5 (some .int) { frames := 1, cells := 0, slots := 0, locals := 22 }) (q_this : Nat) (q_parts : Nat) (q_contacts : Nat) (q_names : Nat) (q_pickTime : Nat) (q_dropTime : Nat) (q_makes : Nat) (q_period : Nat) (q_onTime : Nat) (q_told : Nat) (q_joined : Nat) (q_netOf : Nat) (c_toldNets : Int32) (c_nets : Int32) (c_parts : Nat → Int32) (c_contacts : Nat → Int32) (R : Int32) (hQ : vR G C 0 0 (some (.int R)) (ws_X3_endAt G q_this q_parts q_contacts q_names q_pickTime q_dropTime q_makes q_period q_onTime q_told q_joined q_netOf c_toldNets c_nets c_parts c_contacts)) (x3 : Int32) (y0 : Int32) (y1 : Int32) (y2 : Int32) (hf : f_X3_endAt_62 c_parts c_contacts x3 y0 y1 y2 = some R) : vG G C 0 0 62 [(3, .int x3)] [.int y2, .int y1, .int y0] (ws_X3_endAt G q_this q_parts q_contacts q_names q_pickTime q_dropTime q_makes q_period q_onTime q_told q_joined q_netOf c_toldNets c_nets c_parts c_contacts) := by
  rw [f_X3_endAt_62] at hf
  refine g_imul (pc := 62) hC dX3_endAt_62 ?_
  refine g_iadd (pc := 63) hC dX3_endAt_63 ?_
  refine g_iload_n (pc := 64) 0 hC dX3_endAt_64 rfl ?_
  refine g_iadd (pc := 65) hC dX3_endAt_65 ?_
  obtain rfl := Option.some.inj hf
  exact g_iret (pc := 66) hC hQ dX3_endAt_66
def f_X3_endAt_23 (c_parts : Nat → Int32) (c_contacts : Nat → Int32) (x1 : Int32) (x2 : Int32) (x3 : Int32) (y0 : Int32) : Option (Int32) := if y0 = 0 then (some (-1 : Int32)) else (if x3 < 0 then (some (-1 : Int32)) else ((f_X3_endsOf x1 x2 c_contacts).bind fun r1 => if x3 < r1 then (if bad x1 6 = true then none else if x1 = 0 then ((f_X3_endAt_62 c_parts c_contacts x3 (cFE x1.toNatClampNeg) x2 (20 : Int32))) else ((f_X3_endAt_62 c_parts c_contacts x3 (cFE x1.toNatClampNeg) x2 (2 : Int32)))) else (some (-1 : Int32))))
set_option maxHeartbeats 4000000 in
set_option maxRecDepth 100000 in
theorem w_X3_endAt_23 {G : Gx} {C : Cx} (hC : vH G C cX3_endAt RX3 5 (some .int) { frames := 1, cells := 0, slots := 0, locals := 22 }) (q_this : Nat) (q_parts : Nat) (q_contacts : Nat) (q_names : Nat) (q_pickTime : Nat) (q_dropTime : Nat) (q_makes : Nat) (q_period : Nat) (q_onTime : Nat) (q_told : Nat) (q_joined : Nat) (q_netOf : Nat) (c_toldNets : Int32) (c_nets : Int32) (c_parts : Nat → Int32) (c_contacts : Nat → Int32) (R : Int32) (hQ : vR G C 0 0 (some (.int R)) (ws_X3_endAt G q_this q_parts q_contacts q_names q_pickTime q_dropTime q_makes q_period q_onTime q_told q_joined q_netOf c_toldNets c_nets c_parts c_contacts)) (x1 : Int32) (x2 : Int32) (x3 : Int32) (y0 : Int32) (hf : f_X3_endAt_23 c_parts c_contacts x1 x2 x3 y0 = some R) : vG G C 0 0 23 [(0, .ref q_this), (1, .int x1), (2, .int x2), (3, .int x3)] [.int y0] (ws_X3_endAt G q_this q_parts q_contacts q_names q_pickTime q_dropTime q_makes q_period q_onTime q_told q_joined q_netOf c_toldNets c_nets c_parts c_contacts) := by
  rw [f_X3_endAt_23] at hf
  refine g_istore (pc := 23) [(4, .int y0), (0, .ref q_this), (1, .int x1), (2, .int x2), (3, .int x3)] hC dX3_endAt_23 (Nat.le_of_ble_eq_true rfl) rfl ?_
  refine g_iload (pc := 25) 0 hC dX3_endAt_25 rfl ?_
  refine g_if_eq (pc := 27) 44 hC dX3_endAt_27 (by decide) (fun hb => ?_) (fun hb => ?_)
  · replace hf := ite_t hf hb
    refine g_iconst (pc := 44) (-1 : Int32) hC dX3_endAt_44 rfl ?_
    obtain rfl := Option.some.inj hf
    exact g_iret (pc := 45) hC hQ dX3_endAt_45
  · replace hf := ite_f hf hb
    refine g_iload_n (pc := 30) 4 hC dX3_endAt_30 rfl ?_
    refine g_if_lt (pc := 31) 44 hC dX3_endAt_31 (by decide) (fun hb => ?_) (fun hb => ?_)
    · replace hf := ite_t hf hb
      refine g_iconst (pc := 44) (-1 : Int32) hC dX3_endAt_44 rfl ?_
      obtain rfl := Option.some.inj hf
      exact g_iret (pc := 45) hC hQ dX3_endAt_45
    · replace hf := ite_f hf hb
      refine g_iload_n (pc := 34) 4 hC dX3_endAt_34 rfl ?_
      refine g_aload_n (pc := 35) 1 hC dX3_endAt_35 rfl ?_
      refine g_iload_n (pc := 36) 2 hC dX3_endAt_36 rfl ?_
      refine g_iload_n (pc := 37) 3 hC dX3_endAt_37 rfl ?_
      obtain ⟨r1, hr1, hf⟩ := bnd_s hf
      refine g_callVi (pc := 38) (st := [.int x3]) (wc2 := (ws_X3_endsOf G q_this q_contacts q_parts q_names q_pickTime q_dropTime q_makes q_period q_onTime q_told q_joined q_netOf c_toldNets c_nets c_contacts)) (ws2 := (ws_X3_endAt G q_this q_parts q_contacts q_names q_pickTime q_dropTime q_makes q_period q_onTime q_told q_joined q_netOf c_toldNets c_nets c_parts c_contacts)) [0, 2] 0 hC (c_X3_endsOf G q_this q_contacts q_parts q_names q_pickTime q_dropTime q_makes q_period q_onTime q_told q_joined q_netOf c_toldNets c_nets c_contacts x1 x2 r1 hr1) mY_X3_endsOf mI_X3_endsOf W1_98 dX3_endAt_38 rfl rfl rfl rfl rfl rfl rfl rfl rfl ⟨Nat.le_of_ble_eq_true rfl, Nat.le_of_ble_eq_true rfl⟩ ⟨Nat.le_refl 0, Nat.le_refl 0⟩ (Nat.le_of_ble_eq_true rfl) ?_
      refine g_icmp_lt (pc := 41) 46 hC dX3_endAt_41 (by decide) (fun hb => ?_) (fun hb => ?_)
      · replace hf := ite_t hf hb
        refine g_getsNFE (pc := 46) hC dX3_endAt_46 (List.mem_of_getElem? (i := 4) rfl) ?_
        refine g_iload_n (pc := 49) 2 hC dX3_endAt_49 rfl ?_
        obtain ⟨h2, hf⟩ := bad_s hf
        refine g_tabFE (pc := 50) hC dX3_endAt_50 h2 ?_
        refine g_iload_n (pc := 51) 3 hC dX3_endAt_51 rfl ?_
        refine g_iload_n (pc := 52) 2 hC dX3_endAt_52 rfl ?_
        refine g_if_ne (pc := 53) 61 hC dX3_endAt_53 (by decide) (fun hb => ?_) (fun hb => ?_)
        · replace hf := ite_f hf hb
          refine g_iconst (pc := 61) (2 : Int32) hC dX3_endAt_61 rfl ?_
          refine g_sub (lv2 := [(3, .int x3)]) [4] rfl ?_
          exact w_X3_endAt_62 hC q_this q_parts q_contacts q_names q_pickTime q_dropTime q_makes q_period q_onTime q_told q_joined q_netOf c_toldNets c_nets c_parts c_contacts R hQ x3 (cFE x1.toNatClampNeg) x2 (2 : Int32) hf
        · replace hf := ite_t hf hb
          refine g_bipush (pc := 56) (20 : Int32) hC dX3_endAt_56 rfl ?_
          refine g_goto (pc := 58) 62 hC dX3_endAt_58 (by decide) ?_
          refine g_sub (lv2 := [(3, .int x3)]) [4] rfl ?_
          exact w_X3_endAt_62 hC q_this q_parts q_contacts q_names q_pickTime q_dropTime q_makes q_period q_onTime q_told q_joined q_netOf c_toldNets c_nets c_parts c_contacts R hQ x3 (cFE x1.toNatClampNeg) x2 (20 : Int32) hf
      · replace hf := ite_f hf hb
        refine g_iconst (pc := 44) (-1 : Int32) hC dX3_endAt_44 rfl ?_
        obtain rfl := Option.some.inj hf
        exact g_iret (pc := 45) hC hQ dX3_endAt_45
def f_X3_endAt_18 (c_parts : Nat → Int32) (c_contacts : Nat → Int32) (x1 : Int32) (x2 : Int32) (x3 : Int32) : Option (Int32) := (f_X3_endAt_23 c_parts c_contacts x1 x2 x3 (1 : Int32))
set_option maxHeartbeats 4000000 in
set_option maxRecDepth 100000 in
theorem w_X3_endAt_18 {G : Gx} {C : Cx} (hC : vH G C cX3_endAt RX3 5 (some .int) { frames := 1, cells := 0, slots := 0, locals := 22 }) (q_this : Nat) (q_parts : Nat) (q_contacts : Nat) (q_names : Nat) (q_pickTime : Nat) (q_dropTime : Nat) (q_makes : Nat) (q_period : Nat) (q_onTime : Nat) (q_told : Nat) (q_joined : Nat) (q_netOf : Nat) (c_toldNets : Int32) (c_nets : Int32) (c_parts : Nat → Int32) (c_contacts : Nat → Int32) (R : Int32) (hQ : vR G C 0 0 (some (.int R)) (ws_X3_endAt G q_this q_parts q_contacts q_names q_pickTime q_dropTime q_makes q_period q_onTime q_told q_joined q_netOf c_toldNets c_nets c_parts c_contacts)) (x1 : Int32) (x2 : Int32) (x3 : Int32) (hf : f_X3_endAt_18 c_parts c_contacts x1 x2 x3 = some R) : vG G C 0 0 18 [(0, .ref q_this), (1, .int x1), (2, .int x2), (3, .int x3)] [] (ws_X3_endAt G q_this q_parts q_contacts q_names q_pickTime q_dropTime q_makes q_period q_onTime q_told q_joined q_netOf c_toldNets c_nets c_parts c_contacts) := by
  rw [f_X3_endAt_18] at hf
  refine g_iconst (pc := 18) (1 : Int32) hC dX3_endAt_18 rfl ?_
  refine g_goto (pc := 19) 23 hC dX3_endAt_19 (by decide) ?_
  exact w_X3_endAt_23 hC q_this q_parts q_contacts q_names q_pickTime q_dropTime q_makes q_period q_onTime q_told q_joined q_netOf c_toldNets c_nets c_parts c_contacts R hQ x1 x2 x3 (1 : Int32) hf
def f_X3_endAt_22 (c_parts : Nat → Int32) (c_contacts : Nat → Int32) (x1 : Int32) (x2 : Int32) (x3 : Int32) : Option (Int32) := (f_X3_endAt_23 c_parts c_contacts x1 x2 x3 (0 : Int32))
set_option maxHeartbeats 4000000 in
set_option maxRecDepth 100000 in
theorem w_X3_endAt_22 {G : Gx} {C : Cx} (hC : vH G C cX3_endAt RX3 5 (some .int) { frames := 1, cells := 0, slots := 0, locals := 22 }) (q_this : Nat) (q_parts : Nat) (q_contacts : Nat) (q_names : Nat) (q_pickTime : Nat) (q_dropTime : Nat) (q_makes : Nat) (q_period : Nat) (q_onTime : Nat) (q_told : Nat) (q_joined : Nat) (q_netOf : Nat) (c_toldNets : Int32) (c_nets : Int32) (c_parts : Nat → Int32) (c_contacts : Nat → Int32) (R : Int32) (hQ : vR G C 0 0 (some (.int R)) (ws_X3_endAt G q_this q_parts q_contacts q_names q_pickTime q_dropTime q_makes q_period q_onTime q_told q_joined q_netOf c_toldNets c_nets c_parts c_contacts)) (x1 : Int32) (x2 : Int32) (x3 : Int32) (hf : f_X3_endAt_22 c_parts c_contacts x1 x2 x3 = some R) : vG G C 0 0 22 [(0, .ref q_this), (1, .int x1), (2, .int x2), (3, .int x3)] [] (ws_X3_endAt G q_this q_parts q_contacts q_names q_pickTime q_dropTime q_makes q_period q_onTime q_told q_joined q_netOf c_toldNets c_nets c_parts c_contacts) := by
  rw [f_X3_endAt_22] at hf
  refine g_iconst (pc := 22) (0 : Int32) hC dX3_endAt_22 rfl ?_
  exact w_X3_endAt_23 hC q_this q_parts q_contacts q_names q_pickTime q_dropTime q_makes q_period q_onTime q_told q_joined q_netOf c_toldNets c_nets c_parts c_contacts R hQ x1 x2 x3 (0 : Int32) hf
def f_X3_endAt (x1 : Int32) (x2 : Int32) (x3 : Int32) (c_parts : Nat → Int32) (c_contacts : Nat → Int32) : Option (Int32) := (f_X3_has x1 x2 c_parts).bind fun r1 => if r1 = 0 then (if x1 = (5 : Int32) then (if x2 = 0 then ((f_X3_endAt_18 c_parts c_contacts x1 x2 x3)) else ((f_X3_endAt_22 c_parts c_contacts x1 x2 x3))) else ((f_X3_endAt_22 c_parts c_contacts x1 x2 x3))) else ((f_X3_endAt_18 c_parts c_contacts x1 x2 x3))
set_option maxHeartbeats 4000000 in
set_option maxRecDepth 100000 in
theorem c_X3_endAt (G : Gx) (q_this : Nat) (q_parts : Nat) (q_contacts : Nat) (q_names : Nat) (q_pickTime : Nat) (q_dropTime : Nat) (q_makes : Nat) (q_period : Nat) (q_onTime : Nat) (q_told : Nat) (q_joined : Nat) (q_netOf : Nat) (c_toldNets : Int32) (c_nets : Int32) (c_parts : Nat → Int32) (c_contacts : Nat → Int32) (x1 : Int32) (x2 : Int32) (x3 : Int32) (R : Int32) (hf : f_X3_endAt x1 x2 x3 c_parts c_contacts = some R) : vM G yX3_endAt cX3_endAt 5 (some .int) 1 22 [.ref q_this, .int x1, .int x2, .int x3] (ws_X3_endAt G q_this q_parts q_contacts q_names q_pickTime q_dropTime q_makes q_period q_onTime q_told q_joined q_netOf c_toldNets c_nets c_parts c_contacts) (some (.int R)) (ws_X3_endAt G q_this q_parts q_contacts q_names q_pickTime q_dropTime q_makes q_period q_onTime q_told q_joined q_netOf c_toldNets c_nets c_parts c_contacts) := by
  refine vM_of (by decide +kernel) (Nat.le_of_ble_eq_true rfl) [(0, .ref q_this), (1, .int x1), (2, .int x2), (3, .int x3)] rfl (fun C hC hQ => ?_)
  have hC : vH G C cX3_endAt RX3 5 (some .int) { frames := 1, cells := 0, slots := 0, locals := 22 } := hC
  rw [f_X3_endAt] at hf
  refine g_aload_n (pc := 0) 0 hC dX3_endAt_0 rfl ?_
  refine g_iload_n (pc := 1) 1 hC dX3_endAt_1 rfl ?_
  refine g_iload_n (pc := 2) 2 hC dX3_endAt_2 rfl ?_
  obtain ⟨r1, hr1, hf⟩ := bnd_s hf
  refine g_callVi (pc := 3) (st := []) (wc2 := (ws_X3_has G q_this q_parts q_names q_pickTime q_dropTime q_contacts q_makes q_period q_onTime q_told q_joined q_netOf c_toldNets c_nets c_parts)) (ws2 := (ws_X3_endAt G q_this q_parts q_contacts q_names q_pickTime q_dropTime q_makes q_period q_onTime q_told q_joined q_netOf c_toldNets c_nets c_parts c_contacts)) [0, 1] 0 hC (c_X3_has G q_this q_parts q_names q_pickTime q_dropTime q_contacts q_makes q_period q_onTime q_told q_joined q_netOf c_toldNets c_nets c_parts x1 x2 r1 hr1) mY_X3_has mI_X3_has W1_94 dX3_endAt_3 rfl rfl rfl rfl rfl rfl rfl rfl rfl ⟨Nat.le_of_ble_eq_true rfl, Nat.le_of_ble_eq_true rfl⟩ ⟨Nat.le_refl 0, Nat.le_refl 0⟩ (Nat.le_of_ble_eq_true rfl) ?_
  refine g_if_ne (pc := 6) 18 hC dX3_endAt_6 (by decide) (fun hb => ?_) (fun hb => ?_)
  · replace hf := ite_f hf hb
    exact w_X3_endAt_18 hC q_this q_parts q_contacts q_names q_pickTime q_dropTime q_makes q_period q_onTime q_told q_joined q_netOf c_toldNets c_nets c_parts c_contacts R hQ x1 x2 x3 hf
  · replace hf := ite_t hf hb
    refine g_iload_n (pc := 9) 1 hC dX3_endAt_9 rfl ?_
    refine g_iconst (pc := 10) (5 : Int32) hC dX3_endAt_10 rfl ?_
    refine g_icmp_ne (pc := 11) 22 hC dX3_endAt_11 (by decide) (fun hb => ?_) (fun hb => ?_)
    · replace hf := ite_f hf hb
      exact w_X3_endAt_22 hC q_this q_parts q_contacts q_names q_pickTime q_dropTime q_makes q_period q_onTime q_told q_joined q_netOf c_toldNets c_nets c_parts c_contacts R hQ x1 x2 x3 hf
    · replace hf := ite_t hf hb
      refine g_iload_n (pc := 14) 2 hC dX3_endAt_14 rfl ?_
      refine g_if_ne (pc := 15) 22 hC dX3_endAt_15 (by decide) (fun hb => ?_) (fun hb => ?_)
      · replace hf := ite_f hf hb
        exact w_X3_endAt_22 hC q_this q_parts q_contacts q_names q_pickTime q_dropTime q_makes q_period q_onTime q_told q_joined q_netOf c_toldNets c_nets c_parts c_contacts R hQ x1 x2 x3 hf
      · replace hf := ite_t hf hb
        exact w_X3_endAt_18 hC q_this q_parts q_contacts q_names q_pickTime q_dropTime q_makes q_period q_onTime q_told q_joined q_netOf c_toldNets c_nets c_parts c_contacts R hQ x1 x2 x3 hf
/-! CoilBench$Netlist.numberUntold(II)V -/
abbrev ws_X3_numberUntold (G : Gx) (q_this : Nat) (q_parts : Nat) (q_contacts : Nat) (q_netOf : Nat) (q_names : Nat) (q_pickTime : Nat) (q_dropTime : Nat) (q_makes : Nat) (q_period : Nat) (q_onTime : Nat) (q_told : Nat) (q_joined : Nat) (c_toldNets : Int32) (c_nets : Int32) (c_parts : Nat → Int32) (c_contacts : Nat → Int32) (c_netOf : Nat → Int32) : va_W := [(q_this, eO 2 [.ref q_parts, .ref q_names, .ref q_pickTime, .ref q_dropTime, .ref q_contacts, .ref q_makes, .ref q_period, .ref q_onTime, .ref q_told, .ref q_joined, .ref q_netOf, .int c_toldNets, .int c_nets]), (q_parts, eI G 5 c_parts), (q_contacts, eI G 40 c_contacts), (q_netOf, eI G 954 c_netOf)]
theorem mY_X3_numberUntold : vY yX3_numberUntold cX3_numberUntold 5 (none) 2 := ⟨W1_89, W1_4, ⟨by decide +kernel, by decide +kernel⟩, by decide +kernel⟩
theorem mI_X3_numberUntold : vYi yX3_numberUntold := ⟨W1_88, (tb_in (tb_s (q := (yX3_numberUntold, 13)) (by decide +kernel)) rfl)⟩
def f_X3_numberUntold_52 (k2 : Int32 → Int32 → Int32 → Int32 → (Nat → Int32) → Option (Int32 × (Nat → Int32))) (c_parts : Nat → Int32) (c_contacts : Nat → Int32) (x1 : Int32) (x2 : Int32) (x3 : Int32) (c_nets : Int32) (c_netOf : Nat → Int32) : Option (Int32 × (Nat → Int32)) := vlet (x3 + (1 : Int32)) fun t1 => (k2 x1 x2 t1 c_nets c_netOf)
set_option maxHeartbeats 4000000 in
set_option maxRecDepth 100000 in
theorem w_X3_numberUntold_52 {G : Gx} {C : Cx} (hC : vH G C cX3_numberUntold RX3 5 (none) { frames := 2, cells := 0, slots := 0, locals := 46 }) (q_this : Nat) (q_parts : Nat) (q_contacts : Nat) (q_netOf : Nat) (q_names : Nat) (q_pickTime : Nat) (q_dropTime : Nat) (q_makes : Nat) (q_period : Nat) (q_onTime : Nat) (q_told : Nat) (q_joined : Nat) (c_toldNets : Int32) (c_parts : Nat → Int32) (c_contacts : Nat → Int32) (R : Int32 × (Nat → Int32)) (hQ : vR G C 0 0 none (ws_X3_numberUntold G q_this q_parts q_contacts q_netOf q_names q_pickTime q_dropTime q_makes q_period q_onTime q_told q_joined c_toldNets R.1 c_parts c_contacts R.2)) (k2 : Int32 → Int32 → Int32 → Int32 → (Nat → Int32) → Option (Int32 × (Nat → Int32))) (hk2 : ∀ (x1 : Int32) (x2 : Int32) (x3 : Int32) (c_nets : Int32) (c_netOf : Nat → Int32), k2 x1 x2 x3 c_nets c_netOf = some R → vG G C 0 0 2 [(0, .ref q_this), (1, .int x1), (2, .int x2), (3, .int x3)] [] (ws_X3_numberUntold G q_this q_parts q_contacts q_netOf q_names q_pickTime q_dropTime q_makes q_period q_onTime q_told q_joined c_toldNets c_nets c_parts c_contacts c_netOf)) (x1 : Int32) (x2 : Int32) (x3 : Int32) (c_nets : Int32) (c_netOf : Nat → Int32) (hf : f_X3_numberUntold_52 k2 c_parts c_contacts x1 x2 x3 c_nets c_netOf = some R) : vG G C 0 0 52 [(0, .ref q_this), (1, .int x1), (2, .int x2), (3, .int x3)] [] (ws_X3_numberUntold G q_this q_parts q_contacts q_netOf q_names q_pickTime q_dropTime q_makes q_period q_onTime q_told q_joined c_toldNets c_nets c_parts c_contacts c_netOf) := by
  rw [f_X3_numberUntold_52] at hf
  obtain ⟨t1, et1, hf⟩ := vlet_s hf
  refine g_iinc (pc := 52) 3 [(3, .int t1), (0, .ref q_this), (1, .int x1), (2, .int x2)] hC dX3_numberUntold_52 rfl (by rw [et1]; rfl) (Nat.le_of_ble_eq_true rfl) rfl ?_
  refine g_goto (pc := 55) 2 hC dX3_numberUntold_55 (by decide) ?_
  refine g_sub (lv2 := [(0, .ref q_this), (1, .int x1), (2, .int x2), (3, .int t1)]) [1, 2, 3, 0] rfl ?_
  exact hk2 x1 x2 t1 c_nets c_netOf hf
def f_X3_numberUntold_2 (c_parts : Nat → Int32) (c_contacts : Nat → Int32) : Nat → (Int32) → (Int32) → (Int32) → (Int32) → (Nat → Int32) → Option (Int32 × (Nat → Int32))
  | 0, _, _, _, _, _ => none
  | n + 1, x1, x2, x3, c_nets, c_netOf => if (20 : Int32) ≤ x3 then (some (c_nets, c_netOf)) else ((f_X3_endAt x1 x2 x3 c_parts c_contacts).bind fun r1 => if r1 = (-1 : Int32) then ((f_X3_numberUntold_52 (f_X3_numberUntold_2 c_parts c_contacts n) c_parts c_contacts x1 x2 x3 c_nets c_netOf)) else (if bad r1 954 = true then none else if (c_netOf r1.toNatClampNeg) = (-1 : Int32) then (vlet ((c_nets + (1 : Int32))) fun t3 => if bad r1 954 = true then none else vlet (upd c_netOf r1.toNatClampNeg c_nets) fun w5 => (f_X3_numberUntold_52 (f_X3_numberUntold_2 c_parts c_contacts n) c_parts c_contacts x1 x2 x3 t3 w5)) else ((f_X3_numberUntold_52 (f_X3_numberUntold_2 c_parts c_contacts n) c_parts c_contacts x1 x2 x3 c_nets c_netOf))))
set_option maxHeartbeats 4000000 in
set_option maxRecDepth 100000 in
theorem w_X3_numberUntold_2 {G : Gx} {C : Cx} (hC : vH G C cX3_numberUntold RX3 5 (none) { frames := 2, cells := 0, slots := 0, locals := 46 }) (q_this : Nat) (q_parts : Nat) (q_contacts : Nat) (q_netOf : Nat) (q_names : Nat) (q_pickTime : Nat) (q_dropTime : Nat) (q_makes : Nat) (q_period : Nat) (q_onTime : Nat) (q_told : Nat) (q_joined : Nat) (c_toldNets : Int32) (c_parts : Nat → Int32) (c_contacts : Nat → Int32) (R : Int32 × (Nat → Int32)) (hQ : vR G C 0 0 none (ws_X3_numberUntold G q_this q_parts q_contacts q_netOf q_names q_pickTime q_dropTime q_makes q_period q_onTime q_told q_joined c_toldNets R.1 c_parts c_contacts R.2)) : ∀ (n : Nat) (x1 : Int32) (x2 : Int32) (x3 : Int32) (c_nets : Int32) (c_netOf : Nat → Int32), f_X3_numberUntold_2 c_parts c_contacts n x1 x2 x3 c_nets c_netOf = some R → vG G C 0 0 2 [(0, .ref q_this), (1, .int x1), (2, .int x2), (3, .int x3)] [] (ws_X3_numberUntold G q_this q_parts q_contacts q_netOf q_names q_pickTime q_dropTime q_makes q_period q_onTime q_told q_joined c_toldNets c_nets c_parts c_contacts c_netOf) := by
  intro n
  induction n with
  | zero => intro x1 x2 x3 c_nets c_netOf hf; rw [f_X3_numberUntold_2] at hf; cases hf
  | succ n ih =>
    intro x1 x2 x3 c_nets c_netOf hf
    rw [f_X3_numberUntold_2] at hf
    refine g_iload_n (pc := 2) 3 hC dX3_numberUntold_2 rfl ?_
    refine g_bipush (pc := 3) (20 : Int32) hC dX3_numberUntold_3 rfl ?_
    refine g_icmp_ge (pc := 5) 58 hC dX3_numberUntold_5 (by decide) (fun hb => ?_) (fun hb => ?_)
    · replace hf := ite_t hf hb
      obtain rfl := Option.some.inj hf
      exact g_vret (pc := 58) hC hQ dX3_numberUntold_58
    · replace hf := ite_f hf hb
      refine g_aload_n (pc := 8) 0 hC dX3_numberUntold_8 rfl ?_
      refine g_iload_n (pc := 9) 1 hC dX3_numberUntold_9 rfl ?_
      refine g_iload_n (pc := 10) 2 hC dX3_numberUntold_10 rfl ?_
      refine g_iload_n (pc := 11) 3 hC dX3_numberUntold_11 rfl ?_
      obtain ⟨r1, hr1, hf⟩ := bnd_s hf
      refine g_callVi (pc := 12) (st := []) (wc2 := (ws_X3_endAt G q_this q_parts q_contacts q_names q_pickTime q_dropTime q_makes q_period q_onTime q_told q_joined q_netOf c_toldNets c_nets c_parts c_contacts)) (ws2 := (ws_X3_numberUntold G q_this q_parts q_contacts q_netOf q_names q_pickTime q_dropTime q_makes q_period q_onTime q_told q_joined c_toldNets c_nets c_parts c_contacts c_netOf)) [0, 1, 2] 0 hC (c_X3_endAt G q_this q_parts q_contacts q_names q_pickTime q_dropTime q_makes q_period q_onTime q_told q_joined q_netOf c_toldNets c_nets c_parts c_contacts x1 x2 x3 r1 hr1) mY_X3_endAt mI_X3_endAt W1_90 dX3_numberUntold_12 rfl rfl rfl rfl rfl rfl rfl rfl rfl ⟨Nat.le_of_ble_eq_true rfl, Nat.le_of_ble_eq_true rfl⟩ ⟨Nat.le_refl 0, Nat.le_refl 0⟩ (Nat.le_of_ble_eq_true rfl) ?_
      refine g_istore (pc := 15) [(4, .int r1), (0, .ref q_this), (1, .int x1), (2, .int x2), (3, .int x3)] hC dX3_numberUntold_15 (Nat.le_of_ble_eq_true rfl) rfl ?_
      refine g_iload (pc := 17) 0 hC dX3_numberUntold_17 rfl ?_
      refine g_iconst (pc := 19) (-1 : Int32) hC dX3_numberUntold_19 rfl ?_
      refine g_icmp_eq (pc := 20) 52 hC dX3_numberUntold_20 (by decide) (fun hb => ?_) (fun hb => ?_)
      · replace hf := ite_t hf hb
        refine g_sub (lv2 := [(0, .ref q_this), (1, .int x1), (2, .int x2), (3, .int x3)]) [1, 2, 3, 4] rfl ?_
        exact w_X3_numberUntold_52 hC q_this q_parts q_contacts q_netOf q_names q_pickTime q_dropTime q_makes q_period q_onTime q_told q_joined c_toldNets c_parts c_contacts R hQ (f_X3_numberUntold_2 c_parts c_contacts n) ih x1 x2 x3 c_nets c_netOf hf
      · replace hf := ite_f hf hb
        refine g_aload_n (pc := 23) 1 hC dX3_numberUntold_23 rfl ?_
        refine g_get (pc := 24) 0 10 hC inX3 dX3_numberUntold_24 W1_123 rfl rfl (Nat.le_of_ble_eq_true rfl) rfl rfl ?_
        refine g_iload (pc := 27) 0 hC dX3_numberUntold_27 rfl ?_
        obtain ⟨h2, hf⟩ := bad_s hf
        refine g_iald (pc := 29) 3 hC dX3_numberUntold_29 rfl h2 ?_
        refine g_iconst (pc := 30) (-1 : Int32) hC dX3_numberUntold_30 rfl ?_
        refine g_icmp_ne (pc := 31) 52 hC dX3_numberUntold_31 (by decide) (fun hb => ?_) (fun hb => ?_)
        · replace hf := ite_f hf hb
          refine g_sub (lv2 := [(0, .ref q_this), (1, .int x1), (2, .int x2), (3, .int x3)]) [1, 2, 3, 4] rfl ?_
          exact w_X3_numberUntold_52 hC q_this q_parts q_contacts q_netOf q_names q_pickTime q_dropTime q_makes q_period q_onTime q_told q_joined c_toldNets c_parts c_contacts R hQ (f_X3_numberUntold_2 c_parts c_contacts n) ih x1 x2 x3 c_nets c_netOf hf
        · replace hf := ite_t hf hb
          refine g_aload_n (pc := 34) 1 hC dX3_numberUntold_34 rfl ?_
          refine g_get (pc := 35) 0 10 hC inX3 dX3_numberUntold_35 W1_123 rfl rfl (Nat.le_of_ble_eq_true rfl) rfl rfl ?_
          refine g_iload (pc := 38) 0 hC dX3_numberUntold_38 rfl ?_
          refine g_aload_n (pc := 40) 1 hC dX3_numberUntold_40 rfl ?_
          refine g_dup (pc := 41) rfl hC dX3_numberUntold_41 ?_
          refine g_get (pc := 42) 0 12 hC inX3 dX3_numberUntold_42 W1_128 rfl rfl (Nat.le_of_ble_eq_true rfl) rfl rfl ?_
          refine g_dup_x1 (pc := 45) rfl rfl hC dX3_numberUntold_45 ?_
          refine g_iconst (pc := 46) (1 : Int32) hC dX3_numberUntold_46 rfl ?_
          refine g_iadd (pc := 47) hC dX3_numberUntold_47 ?_
          obtain ⟨t3, et3, hf⟩ := vlet_s hf
          refine g_nmi et3 ?_
          refine g_put (pc := 48) (ws2 := (ws_X3_numberUntold G q_this q_parts q_contacts q_netOf q_names q_pickTime q_dropTime q_makes q_period q_onTime q_told q_joined c_toldNets t3 c_parts c_contacts c_netOf)) 0 12 hC inX3 tyX3_ok nmX3 dX3_numberUntold_48 W1_128 rfl rfl (Nat.le_of_ble_eq_true rfl) rfl rfl rfl rfl rfl (Nat.le_of_ble_eq_true rfl) rfl ?_
          obtain ⟨h4, hf⟩ := bad_s hf
          obtain ⟨w5, ew5, hf⟩ := vlet_s hf
          refine g_iast (pc := 51) (ws2 := (ws_X3_numberUntold G q_this q_parts q_contacts q_netOf q_names q_pickTime q_dropTime q_makes q_period q_onTime q_told q_joined c_toldNets t3 c_parts c_contacts w5)) 3 hC dX3_numberUntold_51 rfl h4 ew5 rfl ?_
          refine g_sub (lv2 := [(0, .ref q_this), (1, .int x1), (2, .int x2), (3, .int x3)]) [1, 2, 3, 4] rfl ?_
          exact w_X3_numberUntold_52 hC q_this q_parts q_contacts q_netOf q_names q_pickTime q_dropTime q_makes q_period q_onTime q_told q_joined c_toldNets c_parts c_contacts R hQ (f_X3_numberUntold_2 c_parts c_contacts n) ih x1 x2 x3 t3 w5 hf
def f_X3_numberUntold (x1 : Int32) (x2 : Int32) (c_nets : Int32) (c_parts : Nat → Int32) (c_contacts : Nat → Int32) (c_netOf : Nat → Int32) : Option (Int32 × (Nat → Int32)) := (f_X3_numberUntold_2 c_parts c_contacts FU x1 x2 (0 : Int32) c_nets c_netOf)
set_option maxHeartbeats 4000000 in
set_option maxRecDepth 100000 in
theorem c_X3_numberUntold (G : Gx) (q_this : Nat) (q_parts : Nat) (q_contacts : Nat) (q_netOf : Nat) (q_names : Nat) (q_pickTime : Nat) (q_dropTime : Nat) (q_makes : Nat) (q_period : Nat) (q_onTime : Nat) (q_told : Nat) (q_joined : Nat) (c_toldNets : Int32) (c_nets : Int32) (c_parts : Nat → Int32) (c_contacts : Nat → Int32) (c_netOf : Nat → Int32) (x1 : Int32) (x2 : Int32) (R : Int32 × (Nat → Int32)) (hf : f_X3_numberUntold x1 x2 c_nets c_parts c_contacts c_netOf = some R) : vM G yX3_numberUntold cX3_numberUntold 5 (none) 2 46 [.ref q_this, .int x1, .int x2] (ws_X3_numberUntold G q_this q_parts q_contacts q_netOf q_names q_pickTime q_dropTime q_makes q_period q_onTime q_told q_joined c_toldNets c_nets c_parts c_contacts c_netOf) none (ws_X3_numberUntold G q_this q_parts q_contacts q_netOf q_names q_pickTime q_dropTime q_makes q_period q_onTime q_told q_joined c_toldNets R.1 c_parts c_contacts R.2) := by
  refine vM_of (by decide +kernel) (Nat.le_of_ble_eq_true rfl) [(0, .ref q_this), (1, .int x1), (2, .int x2)] rfl (fun C hC hQ => ?_)
  have hC : vH G C cX3_numberUntold RX3 5 (none) { frames := 2, cells := 0, slots := 0, locals := 46 } := hC
  rw [f_X3_numberUntold] at hf
  refine g_iconst (pc := 0) (0 : Int32) hC dX3_numberUntold_0 rfl ?_
  refine g_istore_n (pc := 1) [(3, .int (0 : Int32)), (0, .ref q_this), (1, .int x1), (2, .int x2)] hC dX3_numberUntold_1 (Nat.le_of_ble_eq_true rfl) rfl ?_
  refine g_sub (lv2 := [(0, .ref q_this), (1, .int x1), (2, .int x2), (3, .int (0 : Int32))]) [1, 2, 3, 0] rfl ?_
  exact w_X3_numberUntold_2 hC q_this q_parts q_contacts q_netOf q_names q_pickTime q_dropTime q_makes q_period q_onTime q_told q_joined c_toldNets c_parts c_contacts R hQ FU x1 x2 (0 : Int32) c_nets c_netOf hf
/-! CoilBench$Netlist.numberNets()V -/
abbrev ws_X3_numberNets (G : Gx) (q_this : Nat) (q_parts : Nat) (q_contacts : Nat) (q_told : Nat) (q_joined : Nat) (q_netOf : Nat) (q_names : Nat) (q_pickTime : Nat) (q_dropTime : Nat) (q_makes : Nat) (q_period : Nat) (q_onTime : Nat) (c_toldNets : Int32) (c_nets : Int32) (c_parts : Nat → Int32) (c_contacts : Nat → Int32) (c_told : Nat → Int32) (c_joined : Nat → Int32) (c_netOf : Nat → Int32) : va_W := [(q_this, eO 2 [.ref q_parts, .ref q_names, .ref q_pickTime, .ref q_dropTime, .ref q_contacts, .ref q_makes, .ref q_period, .ref q_onTime, .ref q_told, .ref q_joined, .ref q_netOf, .int c_toldNets, .int c_nets]), (q_parts, eI G 5 c_parts), (q_contacts, eI G 40 c_contacts), (q_told, eZ G 954 c_told), (q_joined, eI G 954 c_joined), (q_netOf, eI G 954 c_netOf)]
theorem mY_X3_numberNets : vY yX3_numberNets cX3_numberNets 3 (none) 0 := ⟨W1_81, W1_4, ⟨by decide +kernel, by decide +kernel⟩, by decide +kernel⟩
theorem mI_X3_numberNets : vYi yX3_numberNets := ⟨W1_79, W1_80⟩
def f_X3_numberNets_68 (k7 : Int32 → Int32 → Int32 → (Nat → Int32) → (Nat → Int32) → Option (Int32 × Int32 × (Nat → Int32) × (Nat → Int32))) (c_parts : Nat → Int32) (c_contacts : Nat → Int32) (c_told : Nat → Int32) (x1 : Int32) (c_toldNets : Int32) (c_nets : Int32) (c_joined : Nat → Int32) (c_netOf : Nat → Int32) : Option (Int32 × Int32 × (Nat → Int32) × (Nat → Int32)) := vlet (x1 + (1 : Int32)) fun t1 => (k7 t1 c_toldNets c_nets c_joined c_netOf)
set_option maxHeartbeats 4000000 in
set_option maxRecDepth 100000 in
theorem w_X3_numberNets_68 {G : Gx} {C : Cx} (hC : vH G C cX3_numberNets RX3 3 (none) { frames := 3, cells := 0, slots := 0, locals := 70 }) (q_this : Nat) (q_parts : Nat) (q_contacts : Nat) (q_told : Nat) (q_joined : Nat) (q_netOf : Nat) (q_names : Nat) (q_pickTime : Nat) (q_dropTime : Nat) (q_makes : Nat) (q_period : Nat) (q_onTime : Nat) (c_parts : Nat → Int32) (c_contacts : Nat → Int32) (c_told : Nat → Int32) (R : Int32 × Int32 × (Nat → Int32) × (Nat → Int32)) (hQ : vR G C 0 0 none (ws_X3_numberNets G q_this q_parts q_contacts q_told q_joined q_netOf q_names q_pickTime q_dropTime q_makes q_period q_onTime R.1 R.2.1 c_parts c_contacts c_told R.2.2.1 R.2.2.2)) (k7 : Int32 → Int32 → Int32 → (Nat → Int32) → (Nat → Int32) → Option (Int32 × Int32 × (Nat → Int32) × (Nat → Int32))) (hk7 : ∀ (x1 : Int32) (c_toldNets : Int32) (c_nets : Int32) (c_joined : Nat → Int32) (c_netOf : Nat → Int32), k7 x1 c_toldNets c_nets c_joined c_netOf = some R → vG G C 0 0 7 [(0, .ref q_this), (1, .int x1)] [] (ws_X3_numberNets G q_this q_parts q_contacts q_told q_joined q_netOf q_names q_pickTime q_dropTime q_makes q_period q_onTime c_toldNets c_nets c_parts c_contacts c_told c_joined c_netOf)) (x1 : Int32) (c_toldNets : Int32) (c_nets : Int32) (c_joined : Nat → Int32) (c_netOf : Nat → Int32) (hf : f_X3_numberNets_68 k7 c_parts c_contacts c_told x1 c_toldNets c_nets c_joined c_netOf = some R) : vG G C 0 0 68 [(0, .ref q_this), (1, .int x1)] [] (ws_X3_numberNets G q_this q_parts q_contacts q_told q_joined q_netOf q_names q_pickTime q_dropTime q_makes q_period q_onTime c_toldNets c_nets c_parts c_contacts c_told c_joined c_netOf) := by
  rw [f_X3_numberNets_68] at hf
  obtain ⟨t1, et1, hf⟩ := vlet_s hf
  refine g_iinc (pc := 68) 1 [(1, .int t1), (0, .ref q_this)] hC dX3_numberNets_68 rfl (by rw [et1]; rfl) (Nat.le_of_ble_eq_true rfl) rfl ?_
  refine g_goto (pc := 71) 7 hC dX3_numberNets_71 (by decide) ?_
  refine g_sub (lv2 := [(0, .ref q_this), (1, .int t1)]) [1, 0] rfl ?_
  exact hk7 t1 c_toldNets c_nets c_joined c_netOf hf
def f_X3_numberNets_56 (k7 : Int32 → Int32 → Int32 → (Nat → Int32) → (Nat → Int32) → Option (Int32 × Int32 × (Nat → Int32) × (Nat → Int32))) (c_parts : Nat → Int32) (c_contacts : Nat → Int32) (c_told : Nat → Int32) (x1 : Int32) (x2 : Int32) (c_toldNets : Int32) (c_nets : Int32) (c_joined : Nat → Int32) (c_netOf : Nat → Int32) : Option (Int32 × Int32 × (Nat → Int32) × (Nat → Int32)) := if bad x2 954 = true then none else vlet ((c_netOf x2.toNatClampNeg)) fun t2 => if bad x1 954 = true then none else vlet (upd c_netOf x1.toNatClampNeg t2) fun w4 => (f_X3_numberNets_68 k7 c_parts c_contacts c_told x1 c_toldNets c_nets c_joined w4)
set_option maxHeartbeats 4000000 in
set_option maxRecDepth 100000 in
theorem w_X3_numberNets_56 {G : Gx} {C : Cx} (hC : vH G C cX3_numberNets RX3 3 (none) { frames := 3, cells := 0, slots := 0, locals := 70 }) (q_this : Nat) (q_parts : Nat) (q_contacts : Nat) (q_told : Nat) (q_joined : Nat) (q_netOf : Nat) (q_names : Nat) (q_pickTime : Nat) (q_dropTime : Nat) (q_makes : Nat) (q_period : Nat) (q_onTime : Nat) (c_parts : Nat → Int32) (c_contacts : Nat → Int32) (c_told : Nat → Int32) (R : Int32 × Int32 × (Nat → Int32) × (Nat → Int32)) (hQ : vR G C 0 0 none (ws_X3_numberNets G q_this q_parts q_contacts q_told q_joined q_netOf q_names q_pickTime q_dropTime q_makes q_period q_onTime R.1 R.2.1 c_parts c_contacts c_told R.2.2.1 R.2.2.2)) (k7 : Int32 → Int32 → Int32 → (Nat → Int32) → (Nat → Int32) → Option (Int32 × Int32 × (Nat → Int32) × (Nat → Int32))) (hk7 : ∀ (x1 : Int32) (c_toldNets : Int32) (c_nets : Int32) (c_joined : Nat → Int32) (c_netOf : Nat → Int32), k7 x1 c_toldNets c_nets c_joined c_netOf = some R → vG G C 0 0 7 [(0, .ref q_this), (1, .int x1)] [] (ws_X3_numberNets G q_this q_parts q_contacts q_told q_joined q_netOf q_names q_pickTime q_dropTime q_makes q_period q_onTime c_toldNets c_nets c_parts c_contacts c_told c_joined c_netOf)) (x1 : Int32) (x2 : Int32) (c_toldNets : Int32) (c_nets : Int32) (c_joined : Nat → Int32) (c_netOf : Nat → Int32) (hf : f_X3_numberNets_56 k7 c_parts c_contacts c_told x1 x2 c_toldNets c_nets c_joined c_netOf = some R) : vG G C 0 0 56 [(0, .ref q_this), (1, .int x1), (2, .int x2)] [] (ws_X3_numberNets G q_this q_parts q_contacts q_told q_joined q_netOf q_names q_pickTime q_dropTime q_makes q_period q_onTime c_toldNets c_nets c_parts c_contacts c_told c_joined c_netOf) := by
  rw [f_X3_numberNets_56] at hf
  refine g_aload_n (pc := 56) 0 hC dX3_numberNets_56 rfl ?_
  refine g_get (pc := 57) 0 10 hC inX3 dX3_numberNets_57 W1_123 rfl rfl (Nat.le_of_ble_eq_true rfl) rfl rfl ?_
  refine g_iload_n (pc := 60) 1 hC dX3_numberNets_60 rfl ?_
  refine g_aload_n (pc := 61) 0 hC dX3_numberNets_61 rfl ?_
  refine g_get (pc := 62) 0 10 hC inX3 dX3_numberNets_62 W1_123 rfl rfl (Nat.le_of_ble_eq_true rfl) rfl rfl ?_
  refine g_iload_n (pc := 65) 2 hC dX3_numberNets_65 rfl ?_
  obtain ⟨h1, hf⟩ := bad_s hf
  refine g_iald (pc := 66) 5 hC dX3_numberNets_66 rfl h1 ?_
  obtain ⟨t2, et2, hf⟩ := vlet_s hf
  refine g_nmi et2 ?_
  obtain ⟨h3, hf⟩ := bad_s hf
  obtain ⟨w4, ew4, hf⟩ := vlet_s hf
  refine g_iast (pc := 67) (ws2 := (ws_X3_numberNets G q_this q_parts q_contacts q_told q_joined q_netOf q_names q_pickTime q_dropTime q_makes q_period q_onTime c_toldNets c_nets c_parts c_contacts c_told c_joined w4)) 5 hC dX3_numberNets_67 rfl h3 ew4 rfl ?_
  refine g_sub (lv2 := [(0, .ref q_this), (1, .int x1)]) [0, 1] rfl ?_
  exact w_X3_numberNets_68 hC q_this q_parts q_contacts q_told q_joined q_netOf q_names q_pickTime q_dropTime q_makes q_period q_onTime c_parts c_contacts c_told R hQ k7 hk7 x1 c_toldNets c_nets c_joined w4 hf
def f_X3_numberNets_91 (k84 : Int32 → Int32 → Int32 → (Nat → Int32) → (Nat → Int32) → Option (Int32 × Int32 × (Nat → Int32) × (Nat → Int32))) (c_parts : Nat → Int32) (c_contacts : Nat → Int32) (c_told : Nat → Int32) : Nat → (Int32) → (Int32) → (Int32) → (Int32) → (Nat → Int32) → (Nat → Int32) → Option (Int32 × Int32 × (Nat → Int32) × (Nat → Int32))
  | 0, _, _, _, _, _, _ => none
  | n + 1, x1, x2, c_toldNets, c_nets, c_joined, c_netOf => if bad x1 5 = true then none else if (c_parts x1.toNatClampNeg) ≤ x2 then (vlet (x1 + (1 : Int32)) fun t2 => (k84 t2 c_toldNets c_nets c_joined c_netOf)) else ((f_X3_numberUntold x1 x2 c_nets c_parts c_contacts c_netOf).bind fun r3 => vlet (x2 + (1 : Int32)) fun t4 => (f_X3_numberNets_91 k84 c_parts c_contacts c_told n x1 t4 c_toldNets r3.1 c_joined r3.2))
set_option maxHeartbeats 4000000 in
set_option maxRecDepth 100000 in
theorem w_X3_numberNets_91 {G : Gx} {C : Cx} (hC : vH G C cX3_numberNets RX3 3 (none) { frames := 3, cells := 0, slots := 0, locals := 70 }) (q_this : Nat) (q_parts : Nat) (q_contacts : Nat) (q_told : Nat) (q_joined : Nat) (q_netOf : Nat) (q_names : Nat) (q_pickTime : Nat) (q_dropTime : Nat) (q_makes : Nat) (q_period : Nat) (q_onTime : Nat) (c_parts : Nat → Int32) (c_contacts : Nat → Int32) (c_told : Nat → Int32) (R : Int32 × Int32 × (Nat → Int32) × (Nat → Int32)) (hQ : vR G C 0 0 none (ws_X3_numberNets G q_this q_parts q_contacts q_told q_joined q_netOf q_names q_pickTime q_dropTime q_makes q_period q_onTime R.1 R.2.1 c_parts c_contacts c_told R.2.2.1 R.2.2.2)) (k84 : Int32 → Int32 → Int32 → (Nat → Int32) → (Nat → Int32) → Option (Int32 × Int32 × (Nat → Int32) × (Nat → Int32))) (hk84 : ∀ (x1 : Int32) (c_toldNets : Int32) (c_nets : Int32) (c_joined : Nat → Int32) (c_netOf : Nat → Int32), k84 x1 c_toldNets c_nets c_joined c_netOf = some R → vG G C 0 0 84 [(0, .ref q_this), (1, .int x1)] [] (ws_X3_numberNets G q_this q_parts q_contacts q_told q_joined q_netOf q_names q_pickTime q_dropTime q_makes q_period q_onTime c_toldNets c_nets c_parts c_contacts c_told c_joined c_netOf)) : ∀ (n : Nat) (x1 : Int32) (x2 : Int32) (c_toldNets : Int32) (c_nets : Int32) (c_joined : Nat → Int32) (c_netOf : Nat → Int32), f_X3_numberNets_91 k84 c_parts c_contacts c_told n x1 x2 c_toldNets c_nets c_joined c_netOf = some R → vG G C 0 0 91 [(0, .ref q_this), (1, .int x1), (2, .int x2)] [] (ws_X3_numberNets G q_this q_parts q_contacts q_told q_joined q_netOf q_names q_pickTime q_dropTime q_makes q_period q_onTime c_toldNets c_nets c_parts c_contacts c_told c_joined c_netOf) := by
  intro n
  induction n with
  | zero => intro x1 x2 c_toldNets c_nets c_joined c_netOf hf; rw [f_X3_numberNets_91] at hf; cases hf
  | succ n ih =>
    intro x1 x2 c_toldNets c_nets c_joined c_netOf hf
    rw [f_X3_numberNets_91] at hf
    refine g_iload_n (pc := 91) 2 hC dX3_numberNets_91 rfl ?_
    refine g_aload_n (pc := 92) 0 hC dX3_numberNets_92 rfl ?_
    refine g_get (pc := 93) 0 0 hC inX3 dX3_numberNets_93 W1_104 rfl rfl (Nat.le_of_ble_eq_true rfl) rfl rfl ?_
    refine g_iload_n (pc := 96) 1 hC dX3_numberNets_96 rfl ?_
    obtain ⟨h1, hf⟩ := bad_s hf
    refine g_iald (pc := 97) 1 hC dX3_numberNets_97 rfl h1 ?_
    refine g_icmp_ge (pc := 98) 113 hC dX3_numberNets_98 (by decide) (fun hb => ?_) (fun hb => ?_)
    · replace hf := ite_t hf hb
      obtain ⟨t2, et2, hf⟩ := vlet_s hf
      refine g_iinc (pc := 113) 1 [(1, .int t2), (0, .ref q_this), (2, .int x2)] hC dX3_numberNets_113 rfl (by rw [et2]; rfl) (Nat.le_of_ble_eq_true rfl) rfl ?_
      refine g_goto (pc := 116) 84 hC dX3_numberNets_116 (by decide) ?_
      refine g_sub (lv2 := [(0, .ref q_this), (1, .int t2)]) [1, 0] rfl ?_
      exact hk84 t2 c_toldNets c_nets c_joined c_netOf hf
    · replace hf := ite_f hf hb
      refine g_aload_n (pc := 101) 0 hC dX3_numberNets_101 rfl ?_
      refine g_iload_n (pc := 102) 1 hC dX3_numberNets_102 rfl ?_
      refine g_iload_n (pc := 103) 2 hC dX3_numberNets_103 rfl ?_
      obtain ⟨r3, hr3, hf⟩ := bnd_s hf
      refine g_callVv (pc := 104) (st := []) (wc2 := (ws_X3_numberUntold G q_this q_parts q_contacts q_netOf q_names q_pickTime q_dropTime q_makes q_period q_onTime q_told q_joined c_toldNets r3.1 c_parts c_contacts r3.2)) (ws2 := (ws_X3_numberNets G q_this q_parts q_contacts q_told q_joined q_netOf q_names q_pickTime q_dropTime q_makes q_period q_onTime c_toldNets r3.1 c_parts c_contacts c_told c_joined r3.2)) [0, 1, 2, 5] 0 hC (c_X3_numberUntold G q_this q_parts q_contacts q_netOf q_names q_pickTime q_dropTime q_makes q_period q_onTime q_told q_joined c_toldNets c_nets c_parts c_contacts c_netOf x1 x2 r3 hr3) mY_X3_numberUntold mI_X3_numberUntold W1_86 dX3_numberNets_104 rfl rfl rfl rfl rfl rfl rfl rfl rfl ⟨Nat.le_of_ble_eq_true rfl, Nat.le_of_ble_eq_true rfl⟩ ⟨Nat.le_refl 0, Nat.le_refl 0⟩ (Nat.le_of_ble_eq_true rfl) ?_
      obtain ⟨t4, et4, hf⟩ := vlet_s hf
      refine g_iinc (pc := 107) 2 [(2, .int t4), (0, .ref q_this), (1, .int x1)] hC dX3_numberNets_107 rfl (by rw [et4]; rfl) (Nat.le_of_ble_eq_true rfl) rfl ?_
      refine g_goto (pc := 110) 91 hC dX3_numberNets_110 (by decide) ?_
      refine g_sub (lv2 := [(0, .ref q_this), (1, .int x1), (2, .int t4)]) [1, 2, 0] rfl ?_
      exact ih x1 t4 c_toldNets r3.1 c_joined r3.2 hf
def f_X3_numberNets_84 (c_parts : Nat → Int32) (c_contacts : Nat → Int32) (c_told : Nat → Int32) : Nat → (Int32) → (Int32) → (Int32) → (Nat → Int32) → (Nat → Int32) → Option (Int32 × Int32 × (Nat → Int32) × (Nat → Int32))
  | 0, _, _, _, _, _ => none
  | n + 1, x1, c_toldNets, c_nets, c_joined, c_netOf => if (5 : Int32) ≤ x1 then ((f_X3_numberUntold (5 : Int32) (0 : Int32) c_nets c_parts c_contacts c_netOf).bind fun r1 => some (c_toldNets, r1.1, c_joined, r1.2)) else ((f_X3_numberNets_91 (f_X3_numberNets_84 c_parts c_contacts c_told n) c_parts c_contacts c_told FU x1 (0 : Int32) c_toldNets c_nets c_joined c_netOf))
set_option maxHeartbeats 4000000 in
set_option maxRecDepth 100000 in
theorem w_X3_numberNets_84 {G : Gx} {C : Cx} (hC : vH G C cX3_numberNets RX3 3 (none) { frames := 3, cells := 0, slots := 0, locals := 70 }) (q_this : Nat) (q_parts : Nat) (q_contacts : Nat) (q_told : Nat) (q_joined : Nat) (q_netOf : Nat) (q_names : Nat) (q_pickTime : Nat) (q_dropTime : Nat) (q_makes : Nat) (q_period : Nat) (q_onTime : Nat) (c_parts : Nat → Int32) (c_contacts : Nat → Int32) (c_told : Nat → Int32) (R : Int32 × Int32 × (Nat → Int32) × (Nat → Int32)) (hQ : vR G C 0 0 none (ws_X3_numberNets G q_this q_parts q_contacts q_told q_joined q_netOf q_names q_pickTime q_dropTime q_makes q_period q_onTime R.1 R.2.1 c_parts c_contacts c_told R.2.2.1 R.2.2.2)) : ∀ (n : Nat) (x1 : Int32) (c_toldNets : Int32) (c_nets : Int32) (c_joined : Nat → Int32) (c_netOf : Nat → Int32), f_X3_numberNets_84 c_parts c_contacts c_told n x1 c_toldNets c_nets c_joined c_netOf = some R → vG G C 0 0 84 [(0, .ref q_this), (1, .int x1)] [] (ws_X3_numberNets G q_this q_parts q_contacts q_told q_joined q_netOf q_names q_pickTime q_dropTime q_makes q_period q_onTime c_toldNets c_nets c_parts c_contacts c_told c_joined c_netOf) := by
  intro n
  induction n with
  | zero => intro x1 c_toldNets c_nets c_joined c_netOf hf; rw [f_X3_numberNets_84] at hf; cases hf
  | succ n ih =>
    intro x1 c_toldNets c_nets c_joined c_netOf hf
    rw [f_X3_numberNets_84] at hf
    refine g_iload_n (pc := 84) 1 hC dX3_numberNets_84 rfl ?_
    refine g_iconst (pc := 85) (5 : Int32) hC dX3_numberNets_85 rfl ?_
    refine g_icmp_ge (pc := 86) 119 hC dX3_numberNets_86 (by decide) (fun hb => ?_) (fun hb => ?_)
    · replace hf := ite_t hf hb
      refine g_aload_n (pc := 119) 0 hC dX3_numberNets_119 rfl ?_
      refine g_iconst (pc := 120) (5 : Int32) hC dX3_numberNets_120 rfl ?_
      refine g_iconst (pc := 121) (0 : Int32) hC dX3_numberNets_121 rfl ?_
      obtain ⟨r1, hr1, hf⟩ := bnd_s hf
      refine g_callVv (pc := 122) (st := []) (wc2 := (ws_X3_numberUntold G q_this q_parts q_contacts q_netOf q_names q_pickTime q_dropTime q_makes q_period q_onTime q_told q_joined c_toldNets r1.1 c_parts c_contacts r1.2)) (ws2 := (ws_X3_numberNets G q_this q_parts q_contacts q_told q_joined q_netOf q_names q_pickTime q_dropTime q_makes q_period q_onTime c_toldNets r1.1 c_parts c_contacts c_told c_joined r1.2)) [0, 1, 2, 5] 0 hC (c_X3_numberUntold G q_this q_parts q_contacts q_netOf q_names q_pickTime q_dropTime q_makes q_period q_onTime q_told q_joined c_toldNets c_nets c_parts c_contacts c_netOf (5 : Int32) (0 : Int32) r1 hr1) mY_X3_numberUntold mI_X3_numberUntold W1_86 dX3_numberNets_122 rfl rfl rfl rfl rfl rfl rfl rfl rfl ⟨Nat.le_of_ble_eq_true rfl, Nat.le_of_ble_eq_true rfl⟩ ⟨Nat.le_refl 0, Nat.le_refl 0⟩ (Nat.le_of_ble_eq_true rfl) ?_
      obtain rfl := Option.some.inj hf
      exact g_vret (pc := 125) hC hQ dX3_numberNets_125
    · replace hf := ite_f hf hb
      refine g_iconst (pc := 89) (0 : Int32) hC dX3_numberNets_89 rfl ?_
      refine g_istore_n (pc := 90) [(2, .int (0 : Int32)), (0, .ref q_this), (1, .int x1)] hC dX3_numberNets_90 (Nat.le_of_ble_eq_true rfl) rfl ?_
      refine g_sub (lv2 := [(0, .ref q_this), (1, .int x1), (2, .int (0 : Int32))]) [1, 2, 0] rfl ?_
      exact w_X3_numberNets_91 hC q_this q_parts q_contacts q_told q_joined q_netOf q_names q_pickTime q_dropTime q_makes q_period q_onTime c_parts c_contacts c_told R hQ (f_X3_numberNets_84 c_parts c_contacts c_told n) ih FU x1 (0 : Int32) c_toldNets c_nets c_joined c_netOf hf
def f_X3_numberNets_7 (c_parts : Nat → Int32) (c_contacts : Nat → Int32) (c_told : Nat → Int32) : Nat → (Int32) → (Int32) → (Int32) → (Nat → Int32) → (Nat → Int32) → Option (Int32 × Int32 × (Nat → Int32) × (Nat → Int32))
  | 0, _, _, _, _, _ => none
  | n + 1, x1, c_toldNets, c_nets, c_joined, c_netOf => if (954 : Int32) ≤ x1 then ((f_X3_numberNets_84 c_parts c_contacts c_told FU (0 : Int32) c_nets c_nets c_joined c_netOf)) else (if bad x1 954 = true then none else if (c_told x1.toNatClampNeg) = 0 then ((f_X3_numberNets_68 (f_X3_numberNets_7 c_parts c_contacts c_told n) c_parts c_contacts c_told x1 c_toldNets c_nets c_joined c_netOf)) else ((f_X3_headOf x1 c_joined).bind fun r2 => if bad r2.1 954 = true then none else if (c_netOf r2.1.toNatClampNeg) = (-1 : Int32) then (vlet ((c_nets + (1 : Int32))) fun t4 => if bad r2.1 954 = true then none else vlet (upd c_netOf r2.1.toNatClampNeg c_nets) fun w6 => (f_X3_numberNets_56 (f_X3_numberNets_7 c_parts c_contacts c_told n) c_parts c_contacts c_told x1 r2.1 c_toldNets t4 r2.2 w6)) else ((f_X3_numberNets_56 (f_X3_numberNets_7 c_parts c_contacts c_told n) c_parts c_contacts c_told x1 r2.1 c_toldNets c_nets r2.2 c_netOf))))
set_option maxHeartbeats 4000000 in
set_option maxRecDepth 100000 in
theorem w_X3_numberNets_7 {G : Gx} {C : Cx} (hC : vH G C cX3_numberNets RX3 3 (none) { frames := 3, cells := 0, slots := 0, locals := 70 }) (q_this : Nat) (q_parts : Nat) (q_contacts : Nat) (q_told : Nat) (q_joined : Nat) (q_netOf : Nat) (q_names : Nat) (q_pickTime : Nat) (q_dropTime : Nat) (q_makes : Nat) (q_period : Nat) (q_onTime : Nat) (c_parts : Nat → Int32) (c_contacts : Nat → Int32) (c_told : Nat → Int32) (R : Int32 × Int32 × (Nat → Int32) × (Nat → Int32)) (hQ : vR G C 0 0 none (ws_X3_numberNets G q_this q_parts q_contacts q_told q_joined q_netOf q_names q_pickTime q_dropTime q_makes q_period q_onTime R.1 R.2.1 c_parts c_contacts c_told R.2.2.1 R.2.2.2)) : ∀ (n : Nat) (x1 : Int32) (c_toldNets : Int32) (c_nets : Int32) (c_joined : Nat → Int32) (c_netOf : Nat → Int32), f_X3_numberNets_7 c_parts c_contacts c_told n x1 c_toldNets c_nets c_joined c_netOf = some R → vG G C 0 0 7 [(0, .ref q_this), (1, .int x1)] [] (ws_X3_numberNets G q_this q_parts q_contacts q_told q_joined q_netOf q_names q_pickTime q_dropTime q_makes q_period q_onTime c_toldNets c_nets c_parts c_contacts c_told c_joined c_netOf) := by
  intro n
  induction n with
  | zero => intro x1 c_toldNets c_nets c_joined c_netOf hf; rw [f_X3_numberNets_7] at hf; cases hf
  | succ n ih =>
    intro x1 c_toldNets c_nets c_joined c_netOf hf
    rw [f_X3_numberNets_7] at hf
    refine g_iload_n (pc := 7) 1 hC dX3_numberNets_7 rfl ?_
    refine g_sipush (pc := 8) (954 : Int32) hC dX3_numberNets_8 rfl ?_
    refine g_icmp_ge (pc := 11) 74 hC dX3_numberNets_11 (by decide) (fun hb => ?_) (fun hb => ?_)
    · replace hf := ite_t hf hb
      refine g_aload_n (pc := 74) 0 hC dX3_numberNets_74 rfl ?_
      refine g_aload_n (pc := 75) 0 hC dX3_numberNets_75 rfl ?_
      refine g_get (pc := 76) 0 12 hC inX3 dX3_numberNets_76 W1_128 rfl rfl (Nat.le_of_ble_eq_true rfl) rfl rfl ?_
      refine g_put (pc := 79) (ws2 := (ws_X3_numberNets G q_this q_parts q_contacts q_told q_joined q_netOf q_names q_pickTime q_dropTime q_makes q_period q_onTime c_nets c_nets c_parts c_contacts c_told c_joined c_netOf)) 0 11 hC inX3 tyX3_ok nmX3 dX3_numberNets_79 W1_125 rfl rfl (Nat.le_of_ble_eq_true rfl) rfl rfl rfl rfl rfl (Nat.le_of_ble_eq_true rfl) rfl ?_
      refine g_iconst (pc := 82) (0 : Int32) hC dX3_numberNets_82 rfl ?_
      refine g_istore_n (pc := 83) [(1, .int (0 : Int32)), (0, .ref q_this)] hC dX3_numberNets_83 (Nat.le_of_ble_eq_true rfl) rfl ?_
      refine g_sub (lv2 := [(0, .ref q_this), (1, .int (0 : Int32))]) [1, 0] rfl ?_
      exact w_X3_numberNets_84 hC q_this q_parts q_contacts q_told q_joined q_netOf q_names q_pickTime q_dropTime q_makes q_period q_onTime c_parts c_contacts c_told R hQ FU (0 : Int32) c_nets c_nets c_joined c_netOf hf
    · replace hf := ite_f hf hb
      refine g_aload_n (pc := 14) 0 hC dX3_numberNets_14 rfl ?_
      refine g_get (pc := 15) 0 8 hC inX3 dX3_numberNets_15 W1_121 rfl rfl (Nat.le_of_ble_eq_true rfl) rfl rfl ?_
      refine g_iload_n (pc := 18) 1 hC dX3_numberNets_18 rfl ?_
      obtain ⟨h1, hf⟩ := bad_s hf
      refine g_zald (pc := 19) 3 hC dX3_numberNets_19 rfl h1 ?_
      refine g_if_eq (pc := 20) 68 hC dX3_numberNets_20 (by decide) (fun hb => ?_) (fun hb => ?_)
      · replace hf := ite_t hf hb
        exact w_X3_numberNets_68 hC q_this q_parts q_contacts q_told q_joined q_netOf q_names q_pickTime q_dropTime q_makes q_period q_onTime c_parts c_contacts c_told R hQ (f_X3_numberNets_7 c_parts c_contacts c_told n) ih x1 c_toldNets c_nets c_joined c_netOf hf
      · replace hf := ite_f hf hb
        refine g_aload_n (pc := 23) 0 hC dX3_numberNets_23 rfl ?_
        refine g_iload_n (pc := 24) 1 hC dX3_numberNets_24 rfl ?_
        obtain ⟨r2, hr2, hf⟩ := bnd_s hf
        refine g_callVi (pc := 25) (st := []) (wc2 := (ws_X3_headOf G q_this q_joined q_parts q_names q_pickTime q_dropTime q_contacts q_makes q_period q_onTime q_told q_netOf c_toldNets c_nets r2.2)) (ws2 := (ws_X3_numberNets G q_this q_parts q_contacts q_told q_joined q_netOf q_names q_pickTime q_dropTime q_makes q_period q_onTime c_toldNets c_nets c_parts c_contacts c_told r2.2 c_netOf)) [0, 4] 0 hC (c_X3_headOf G q_this q_joined q_parts q_names q_pickTime q_dropTime q_contacts q_makes q_period q_onTime q_told q_netOf c_toldNets c_nets c_joined x1 r2 hr2) mY_X3_headOf mI_X3_headOf W1_82 dX3_numberNets_25 rfl rfl rfl rfl rfl rfl rfl rfl rfl ⟨Nat.le_of_ble_eq_true rfl, Nat.le_of_ble_eq_true rfl⟩ ⟨Nat.le_refl 0, Nat.le_refl 0⟩ (Nat.le_of_ble_eq_true rfl) ?_
        refine g_istore_n (pc := 28) [(2, .int r2.1), (0, .ref q_this), (1, .int x1)] hC dX3_numberNets_28 (Nat.le_of_ble_eq_true rfl) rfl ?_
        refine g_aload_n (pc := 29) 1 hC dX3_numberNets_29 rfl ?_
        refine g_get (pc := 30) 0 10 hC inX3 dX3_numberNets_30 W1_123 rfl rfl (Nat.le_of_ble_eq_true rfl) rfl rfl ?_
        refine g_iload_n (pc := 33) 0 hC dX3_numberNets_33 rfl ?_
        obtain ⟨h3, hf⟩ := bad_s hf
        refine g_iald (pc := 34) 5 hC dX3_numberNets_34 rfl h3 ?_
        refine g_iconst (pc := 35) (-1 : Int32) hC dX3_numberNets_35 rfl ?_
        refine g_icmp_ne (pc := 36) 56 hC dX3_numberNets_36 (by decide) (fun hb => ?_) (fun hb => ?_)
        · replace hf := ite_f hf hb
          refine g_sub (lv2 := [(0, .ref q_this), (1, .int x1), (2, .int r2.1)]) [1, 2, 0] rfl ?_
          exact w_X3_numberNets_56 hC q_this q_parts q_contacts q_told q_joined q_netOf q_names q_pickTime q_dropTime q_makes q_period q_onTime c_parts c_contacts c_told R hQ (f_X3_numberNets_7 c_parts c_contacts c_told n) ih x1 r2.1 c_toldNets c_nets r2.2 c_netOf hf
        · replace hf := ite_t hf hb
          refine g_aload_n (pc := 39) 1 hC dX3_numberNets_39 rfl ?_
          refine g_get (pc := 40) 0 10 hC inX3 dX3_numberNets_40 W1_123 rfl rfl (Nat.le_of_ble_eq_true rfl) rfl rfl ?_
          refine g_iload_n (pc := 43) 0 hC dX3_numberNets_43 rfl ?_
          refine g_aload_n (pc := 44) 1 hC dX3_numberNets_44 rfl ?_
          refine g_dup (pc := 45) rfl hC dX3_numberNets_45 ?_
          refine g_get (pc := 46) 0 12 hC inX3 dX3_numberNets_46 W1_128 rfl rfl (Nat.le_of_ble_eq_true rfl) rfl rfl ?_
          refine g_dup_x1 (pc := 49) rfl rfl hC dX3_numberNets_49 ?_
          refine g_iconst (pc := 50) (1 : Int32) hC dX3_numberNets_50 rfl ?_
          refine g_iadd (pc := 51) hC dX3_numberNets_51 ?_
          obtain ⟨t4, et4, hf⟩ := vlet_s hf
          refine g_nmi et4 ?_
          refine g_put (pc := 52) (ws2 := (ws_X3_numberNets G q_this q_parts q_contacts q_told q_joined q_netOf q_names q_pickTime q_dropTime q_makes q_period q_onTime c_toldNets t4 c_parts c_contacts c_told r2.2 c_netOf)) 0 12 hC inX3 tyX3_ok nmX3 dX3_numberNets_52 W1_128 rfl rfl (Nat.le_of_ble_eq_true rfl) rfl rfl rfl rfl rfl (Nat.le_of_ble_eq_true rfl) rfl ?_
          obtain ⟨h5, hf⟩ := bad_s hf
          obtain ⟨w6, ew6, hf⟩ := vlet_s hf
          refine g_iast (pc := 55) (ws2 := (ws_X3_numberNets G q_this q_parts q_contacts q_told q_joined q_netOf q_names q_pickTime q_dropTime q_makes q_period q_onTime c_toldNets t4 c_parts c_contacts c_told r2.2 w6)) 5 hC dX3_numberNets_55 rfl h5 ew6 rfl ?_
          refine g_sub (lv2 := [(0, .ref q_this), (1, .int x1), (2, .int r2.1)]) [1, 2, 0] rfl ?_
          exact w_X3_numberNets_56 hC q_this q_parts q_contacts q_told q_joined q_netOf q_names q_pickTime q_dropTime q_makes q_period q_onTime c_parts c_contacts c_told R hQ (f_X3_numberNets_7 c_parts c_contacts c_told n) ih x1 r2.1 c_toldNets t4 r2.2 w6 hf
def f_X3_numberNets (c_toldNets : Int32) (c_nets : Int32) (c_parts : Nat → Int32) (c_contacts : Nat → Int32) (c_told : Nat → Int32) (c_joined : Nat → Int32) (c_netOf : Nat → Int32) : Option (Int32 × Int32 × (Nat → Int32) × (Nat → Int32)) := (f_X3_numberNets_7 c_parts c_contacts c_told FU (0 : Int32) c_toldNets (0 : Int32) c_joined c_netOf)
set_option maxHeartbeats 4000000 in
set_option maxRecDepth 100000 in
theorem c_X3_numberNets (G : Gx) (q_this : Nat) (q_parts : Nat) (q_contacts : Nat) (q_told : Nat) (q_joined : Nat) (q_netOf : Nat) (q_names : Nat) (q_pickTime : Nat) (q_dropTime : Nat) (q_makes : Nat) (q_period : Nat) (q_onTime : Nat) (c_toldNets : Int32) (c_nets : Int32) (c_parts : Nat → Int32) (c_contacts : Nat → Int32) (c_told : Nat → Int32) (c_joined : Nat → Int32) (c_netOf : Nat → Int32) (R : Int32 × Int32 × (Nat → Int32) × (Nat → Int32)) (hf : f_X3_numberNets c_toldNets c_nets c_parts c_contacts c_told c_joined c_netOf = some R) : vM G yX3_numberNets cX3_numberNets 3 (none) 3 70 [.ref q_this] (ws_X3_numberNets G q_this q_parts q_contacts q_told q_joined q_netOf q_names q_pickTime q_dropTime q_makes q_period q_onTime c_toldNets c_nets c_parts c_contacts c_told c_joined c_netOf) none (ws_X3_numberNets G q_this q_parts q_contacts q_told q_joined q_netOf q_names q_pickTime q_dropTime q_makes q_period q_onTime R.1 R.2.1 c_parts c_contacts c_told R.2.2.1 R.2.2.2) := by
  refine vM_of (by decide +kernel) (Nat.le_of_ble_eq_true rfl) [(0, .ref q_this)] rfl (fun C hC hQ => ?_)
  have hC : vH G C cX3_numberNets RX3 3 (none) { frames := 3, cells := 0, slots := 0, locals := 70 } := hC
  rw [f_X3_numberNets] at hf
  refine g_aload_n (pc := 0) 0 hC dX3_numberNets_0 rfl ?_
  refine g_iconst (pc := 1) (0 : Int32) hC dX3_numberNets_1 rfl ?_
  refine g_put (pc := 2) (ws2 := (ws_X3_numberNets G q_this q_parts q_contacts q_told q_joined q_netOf q_names q_pickTime q_dropTime q_makes q_period q_onTime c_toldNets (0 : Int32) c_parts c_contacts c_told c_joined c_netOf)) 0 12 hC inX3 tyX3_ok nmX3 dX3_numberNets_2 W1_128 rfl rfl (Nat.le_of_ble_eq_true rfl) rfl rfl rfl rfl rfl (Nat.le_of_ble_eq_true rfl) rfl ?_
  refine g_iconst (pc := 5) (0 : Int32) hC dX3_numberNets_5 rfl ?_
  refine g_istore_n (pc := 6) [(1, .int (0 : Int32)), (0, .ref q_this)] hC dX3_numberNets_6 (Nat.le_of_ble_eq_true rfl) rfl ?_
  refine g_sub (lv2 := [(0, .ref q_this), (1, .int (0 : Int32))]) [1, 0] rfl ?_
  exact w_X3_numberNets_7 hC q_this q_parts q_contacts q_told q_joined q_netOf q_names q_pickTime q_dropTime q_makes q_period q_onTime c_parts c_contacts c_told R hQ FU (0 : Int32) c_toldNets (0 : Int32) c_joined c_netOf hf
/-! CoilBench$Netlist.find(J)I -/
abbrev ws_X3_find (G : Gx) (q_this : Nat) (q_parts : Nat) (q_names : Nat) (q_names_r : Nat → Nat) (q_pickTime : Nat) (q_dropTime : Nat) (q_contacts : Nat) (q_makes : Nat) (q_period : Nat) (q_onTime : Nat) (q_told : Nat) (q_joined : Nat) (q_netOf : Nat) (c_toldNets : Int32) (c_nets : Int32) (c_parts : Nat → Int32) (c_names : Nat → Nat → Int64) : va_W := [(q_this, eO 2 [.ref q_parts, .ref q_names, .ref q_pickTime, .ref q_dropTime, .ref q_contacts, .ref q_makes, .ref q_period, .ref q_onTime, .ref q_told, .ref q_joined, .ref q_netOf, .int c_toldNets, .int c_nets]), (q_parts, eI G 5 c_parts), (q_names, eL G 5 (fun i => some (q_names_r i))), (q_names_r 0, eJ G 40 (c_names 0)), (q_names_r 1, eJ G 40 (c_names 1)), (q_names_r 2, eJ G 40 (c_names 2)), (q_names_r 3, eJ G 40 (c_names 3)), (q_names_r 4, eJ G 40 (c_names 4))]
theorem mY_X3_find : vY yX3_find cX3_find 5 (some .int) 1 := ⟨W3_73, W1_4, ⟨by decide +kernel, by decide +kernel⟩, by decide +kernel⟩
theorem mI_X3_find : vYi yX3_find := ⟨W3_71, W3_72⟩
def f_X3_find_10 (k2 : Int64 → Int32 → Option (Int32)) (c_parts : Nat → Int32) (c_names : Nat → Nat → Int64) : Nat → (Int64) → (Int32) → (Int32) → Option (Int32)
  | 0, _, _, _ => none
  | n + 1, x1, x3, x4 => if bad x3 5 = true then none else if (c_parts x3.toNatClampNeg) ≤ x4 then (vlet (x3 + (1 : Int32)) fun t2 => (k2 x1 t2)) else (if bad x3 5 = true then none else if bad x4 40 = true then none else if (lg_cmp (c_names x3.toNatClampNeg x4.toNatClampNeg) x1) = 0 then (some ((x3 * (40 : Int32)) + x4)) else (vlet (x4 + (1 : Int32)) fun t5 => (f_X3_find_10 k2 c_parts c_names n x1 x3 t5)))
set_option maxHeartbeats 4000000 in
set_option maxRecDepth 100000 in
theorem w_X3_find_10 {G : Gx} {C : Cx} (hC : vH G C cX3_find RX3 5 (some .int) { frames := 0, cells := 0, slots := 0, locals := 0 }) (q_this : Nat) (q_parts : Nat) (q_names : Nat) (q_names_r : Nat → Nat) (q_pickTime : Nat) (q_dropTime : Nat) (q_contacts : Nat) (q_makes : Nat) (q_period : Nat) (q_onTime : Nat) (q_told : Nat) (q_joined : Nat) (q_netOf : Nat) (c_toldNets : Int32) (c_nets : Int32) (c_parts : Nat → Int32) (c_names : Nat → Nat → Int64) (R : Int32) (hQ : vR G C 0 0 (some (.int R)) (ws_X3_find G q_this q_parts q_names q_names_r q_pickTime q_dropTime q_contacts q_makes q_period q_onTime q_told q_joined q_netOf c_toldNets c_nets c_parts c_names)) (k2 : Int64 → Int32 → Option (Int32)) (hk2 : ∀ (x1 : Int64) (x3 : Int32), k2 x1 x3 = some R → vG G C 0 0 2 [(0, .ref q_this), (1, .long x1), (3, .int x3)] [] (ws_X3_find G q_this q_parts q_names q_names_r q_pickTime q_dropTime q_contacts q_makes q_period q_onTime q_told q_joined q_netOf c_toldNets c_nets c_parts c_names)) : ∀ (n : Nat) (x1 : Int64) (x3 : Int32) (x4 : Int32), f_X3_find_10 k2 c_parts c_names n x1 x3 x4 = some R → vG G C 0 0 10 [(0, .ref q_this), (1, .long x1), (3, .int x3), (4, .int x4)] [] (ws_X3_find G q_this q_parts q_names q_names_r q_pickTime q_dropTime q_contacts q_makes q_period q_onTime q_told q_joined q_netOf c_toldNets c_nets c_parts c_names) := by
  intro n
  induction n with
  | zero => intro x1 x3 x4 hf; rw [f_X3_find_10] at hf; cases hf
  | succ n ih =>
    intro x1 x3 x4 hf
    rw [f_X3_find_10] at hf
    refine g_iload (pc := 10) 3 hC dX3_find_10 rfl ?_
    refine g_aload_n (pc := 12) 0 hC dX3_find_12 rfl ?_
    refine g_get (pc := 13) 0 0 hC inX3 dX3_find_13 W1_104 rfl rfl (Nat.le_of_ble_eq_true rfl) rfl rfl ?_
    refine g_iload_n (pc := 16) 2 hC dX3_find_16 rfl ?_
    obtain ⟨h1, hf⟩ := bad_s hf
    refine g_iald (pc := 17) 1 hC dX3_find_17 rfl h1 ?_
    refine g_icmp_ge (pc := 18) 49 hC dX3_find_18 (by decide) (fun hb => ?_) (fun hb => ?_)
    · replace hf := ite_t hf hb
      obtain ⟨t2, et2, hf⟩ := vlet_s hf
      refine g_iinc (pc := 49) 2 [(3, .int t2), (0, .ref q_this), (1, .long x1), (4, .int x4)] hC dX3_find_49 rfl (by rw [et2]; rfl) (Nat.le_of_ble_eq_true rfl) rfl ?_
      refine g_goto (pc := 52) 2 hC dX3_find_52 (by decide) ?_
      refine g_sub (lv2 := [(0, .ref q_this), (1, .long x1), (3, .int t2)]) [1, 2, 0] rfl ?_
      exact hk2 x1 t2 hf
    · replace hf := ite_f hf hb
      refine g_aload_n (pc := 21) 0 hC dX3_find_21 rfl ?_
      refine g_get (pc := 22) 0 1 hC inX3 dX3_find_22 W1_107 rfl rfl (Nat.le_of_ble_eq_true rfl) rfl rfl ?_
      refine g_iload_n (pc := 25) 2 hC dX3_find_25 rfl ?_
      obtain ⟨h3, hf⟩ := bad_s hf
      refine g_aaldL (pc := 26) 2 hC dX3_find_26 rfl h3 rfl ?_
      refine g_iload (pc := 27) 3 hC dX3_find_27 rfl ?_
      obtain ⟨h4, hf⟩ := bad_s hf
      refine g_laldR (pc := 29) 3 hC dX3_find_29 (vp_lt h3) rfl rfl rfl rfl rfl h4 ?_
      refine g_lload_n (pc := 30) 1 hC dX3_find_30 rfl ?_
      refine g_lcmp (pc := 31) hC dX3_find_31 ?_
      refine g_if_ne (pc := 32) 43 hC dX3_find_32 (by decide) (fun hb => ?_) (fun hb => ?_)
      · replace hf := ite_f hf hb
        obtain ⟨t5, et5, hf⟩ := vlet_s hf
        refine g_iinc (pc := 43) 3 [(4, .int t5), (0, .ref q_this), (1, .long x1), (3, .int x3)] hC dX3_find_43 rfl (by rw [et5]; rfl) (Nat.le_of_ble_eq_true rfl) rfl ?_
        refine g_goto (pc := 46) 10 hC dX3_find_46 (by decide) ?_
        refine g_sub (lv2 := [(0, .ref q_this), (1, .long x1), (3, .int x3), (4, .int t5)]) [1, 2, 3, 0] rfl ?_
        exact ih x1 x3 t5 hf
      · replace hf := ite_t hf hb
        refine g_iload_n (pc := 35) 2 hC dX3_find_35 rfl ?_
        refine g_bipush (pc := 36) (40 : Int32) hC dX3_find_36 rfl ?_
        refine g_imul (pc := 38) hC dX3_find_38 ?_
        refine g_iload (pc := 39) 3 hC dX3_find_39 rfl ?_
        refine g_iadd (pc := 41) hC dX3_find_41 ?_
        obtain rfl := Option.some.inj hf
        exact g_iret (pc := 42) hC hQ dX3_find_42
def f_X3_find_2 (c_parts : Nat → Int32) (c_names : Nat → Nat → Int64) : Nat → (Int64) → (Int32) → Option (Int32)
  | 0, _, _ => none
  | n + 1, x1, x3 => if (5 : Int32) ≤ x3 then (some (-1 : Int32)) else ((f_X3_find_10 (f_X3_find_2 c_parts c_names n) c_parts c_names FU x1 x3 (0 : Int32)))
set_option maxHeartbeats 4000000 in
set_option maxRecDepth 100000 in
theorem w_X3_find_2 {G : Gx} {C : Cx} (hC : vH G C cX3_find RX3 5 (some .int) { frames := 0, cells := 0, slots := 0, locals := 0 }) (q_this : Nat) (q_parts : Nat) (q_names : Nat) (q_names_r : Nat → Nat) (q_pickTime : Nat) (q_dropTime : Nat) (q_contacts : Nat) (q_makes : Nat) (q_period : Nat) (q_onTime : Nat) (q_told : Nat) (q_joined : Nat) (q_netOf : Nat) (c_toldNets : Int32) (c_nets : Int32) (c_parts : Nat → Int32) (c_names : Nat → Nat → Int64) (R : Int32) (hQ : vR G C 0 0 (some (.int R)) (ws_X3_find G q_this q_parts q_names q_names_r q_pickTime q_dropTime q_contacts q_makes q_period q_onTime q_told q_joined q_netOf c_toldNets c_nets c_parts c_names)) : ∀ (n : Nat) (x1 : Int64) (x3 : Int32), f_X3_find_2 c_parts c_names n x1 x3 = some R → vG G C 0 0 2 [(0, .ref q_this), (1, .long x1), (3, .int x3)] [] (ws_X3_find G q_this q_parts q_names q_names_r q_pickTime q_dropTime q_contacts q_makes q_period q_onTime q_told q_joined q_netOf c_toldNets c_nets c_parts c_names) := by
  intro n
  induction n with
  | zero => intro x1 x3 hf; rw [f_X3_find_2] at hf; cases hf
  | succ n ih =>
    intro x1 x3 hf
    rw [f_X3_find_2] at hf
    refine g_iload_n (pc := 2) 2 hC dX3_find_2 rfl ?_
    refine g_iconst (pc := 3) (5 : Int32) hC dX3_find_3 rfl ?_
    refine g_icmp_ge (pc := 4) 55 hC dX3_find_4 (by decide) (fun hb => ?_) (fun hb => ?_)
    · replace hf := ite_t hf hb
      refine g_iconst (pc := 55) (-1 : Int32) hC dX3_find_55 rfl ?_
      obtain rfl := Option.some.inj hf
      exact g_iret (pc := 56) hC hQ dX3_find_56
    · replace hf := ite_f hf hb
      refine g_iconst (pc := 7) (0 : Int32) hC dX3_find_7 rfl ?_
      refine g_istore (pc := 8) [(4, .int (0 : Int32)), (0, .ref q_this), (1, .long x1), (3, .int x3)] hC dX3_find_8 (Nat.le_of_ble_eq_true rfl) rfl ?_
      refine g_sub (lv2 := [(0, .ref q_this), (1, .long x1), (3, .int x3), (4, .int (0 : Int32))]) [1, 2, 3, 0] rfl ?_
      exact w_X3_find_10 hC q_this q_parts q_names q_names_r q_pickTime q_dropTime q_contacts q_makes q_period q_onTime q_told q_joined q_netOf c_toldNets c_nets c_parts c_names R hQ (f_X3_find_2 c_parts c_names n) ih FU x1 x3 (0 : Int32) hf
def f_X3_find (x1 : Int64) (c_parts : Nat → Int32) (c_names : Nat → Nat → Int64) : Option (Int32) := (f_X3_find_2 c_parts c_names FU x1 (0 : Int32))
set_option maxHeartbeats 4000000 in
set_option maxRecDepth 100000 in
theorem c_X3_find (G : Gx) (q_this : Nat) (q_parts : Nat) (q_names : Nat) (q_names_r : Nat → Nat) (q_pickTime : Nat) (q_dropTime : Nat) (q_contacts : Nat) (q_makes : Nat) (q_period : Nat) (q_onTime : Nat) (q_told : Nat) (q_joined : Nat) (q_netOf : Nat) (c_toldNets : Int32) (c_nets : Int32) (c_parts : Nat → Int32) (c_names : Nat → Nat → Int64) (x1 : Int64) (R : Int32) (hf : f_X3_find x1 c_parts c_names = some R) : vM G yX3_find cX3_find 5 (some .int) 0 0 [.ref q_this, .long x1] (ws_X3_find G q_this q_parts q_names q_names_r q_pickTime q_dropTime q_contacts q_makes q_period q_onTime q_told q_joined q_netOf c_toldNets c_nets c_parts c_names) (some (.int R)) (ws_X3_find G q_this q_parts q_names q_names_r q_pickTime q_dropTime q_contacts q_makes q_period q_onTime q_told q_joined q_netOf c_toldNets c_nets c_parts c_names) := by
  refine vM_of (by decide +kernel) (Nat.le_of_ble_eq_true rfl) [(0, .ref q_this), (1, .long x1)] rfl (fun C hC hQ => ?_)
  have hC : vH G C cX3_find RX3 5 (some .int) { frames := 0, cells := 0, slots := 0, locals := 0 } := hC
  rw [f_X3_find] at hf
  refine g_iconst (pc := 0) (0 : Int32) hC dX3_find_0 rfl ?_
  refine g_istore_n (pc := 1) [(3, .int (0 : Int32)), (0, .ref q_this), (1, .long x1)] hC dX3_find_1 (Nat.le_of_ble_eq_true rfl) rfl ?_
  refine g_sub (lv2 := [(0, .ref q_this), (1, .long x1), (3, .int (0 : Int32))]) [1, 2, 0] rfl ?_
  exact w_X3_find_2 hC q_this q_parts q_names q_names_r q_pickTime q_dropTime q_contacts q_makes q_period q_onTime q_told q_joined q_netOf c_toldNets c_nets c_parts c_names R hQ FU x1 (0 : Int32) hf
/-! CoilBench$Netlist.add(IJ)I -/
abbrev ws_X3_add (G : Gx) (q_this : Nat) (q_parts : Nat) (q_names : Nat) (q_names_r : Nat → Nat) (q_pickTime : Nat) (q_dropTime : Nat) (q_contacts : Nat) (q_makes : Nat) (q_period : Nat) (q_onTime : Nat) (q_told : Nat) (q_joined : Nat) (q_netOf : Nat) (c_toldNets : Int32) (c_nets : Int32) (c_parts : Nat → Int32) (c_names : Nat → Nat → Int64) : va_W := [(q_this, eO 2 [.ref q_parts, .ref q_names, .ref q_pickTime, .ref q_dropTime, .ref q_contacts, .ref q_makes, .ref q_period, .ref q_onTime, .ref q_told, .ref q_joined, .ref q_netOf, .int c_toldNets, .int c_nets]), (q_parts, eI G 5 c_parts), (q_names, eL G 5 (fun i => some (q_names_r i))), (q_names_r 0, eJ G 40 (c_names 0)), (q_names_r 1, eJ G 40 (c_names 1)), (q_names_r 2, eJ G 40 (c_names 2)), (q_names_r 3, eJ G 40 (c_names 3)), (q_names_r 4, eJ G 40 (c_names 4))]
theorem mY_X3_add : vY yX3_add cX3_add 5 (some .int) 2 := ⟨W3_77, W1_4, ⟨by decide +kernel, by decide +kernel⟩, by decide +kernel⟩
theorem mI_X3_add : vYi yX3_add := ⟨W3_75, W3_76⟩
def f_X3_add (x1 : Int32) (x2 : Int64) (c_parts : Nat → Int32) (c_names : Nat → Nat → Int64) : Option (Int32 × (Nat → Int32) × (Nat → Nat → Int64)) := if x1 < 0 then (some ((-1 : Int32), c_parts, c_names)) else (if (5 : Int32) ≤ x1 then (some ((-1 : Int32), c_parts, c_names)) else (if bad x1 5 = true then none else if bad x1 5 = true then none else if (c_parts x1.toNatClampNeg) < (cMO x1.toNatClampNeg) then (if bad x1 5 = true then none else vlet ((c_parts x1.toNatClampNeg)) fun t4 => if bad x1 5 = true then none else if bad t4 40 = true then none else vlet (updG c_names x1.toNatClampNeg t4.toNatClampNeg x2) fun w7 => if bad x1 5 = true then none else vlet (((c_parts x1.toNatClampNeg) + (1 : Int32))) fun t9 => if bad x1 5 = true then none else vlet (upd c_parts x1.toNatClampNeg t9) fun w11 => some (t4, w11, w7)) else (some ((-1 : Int32), c_parts, c_names))))
set_option maxHeartbeats 4000000 in
set_option maxRecDepth 100000 in
theorem c_X3_add (G : Gx) (q_this : Nat) (q_parts : Nat) (q_names : Nat) (q_names_r : Nat → Nat) (q_pickTime : Nat) (q_dropTime : Nat) (q_contacts : Nat) (q_makes : Nat) (q_period : Nat) (q_onTime : Nat) (q_told : Nat) (q_joined : Nat) (q_netOf : Nat) (c_toldNets : Int32) (c_nets : Int32) (c_parts : Nat → Int32) (c_names : Nat → Nat → Int64) (x1 : Int32) (x2 : Int64) (R : Int32 × (Nat → Int32) × (Nat → Nat → Int64)) (hf : f_X3_add x1 x2 c_parts c_names = some R) : vM G yX3_add cX3_add 5 (some .int) 0 0 [.ref q_this, .int x1, .long x2] (ws_X3_add G q_this q_parts q_names q_names_r q_pickTime q_dropTime q_contacts q_makes q_period q_onTime q_told q_joined q_netOf c_toldNets c_nets c_parts c_names) (some (.int R.1)) (ws_X3_add G q_this q_parts q_names q_names_r q_pickTime q_dropTime q_contacts q_makes q_period q_onTime q_told q_joined q_netOf c_toldNets c_nets R.2.1 R.2.2) := by
  refine vM_of (by decide +kernel) (Nat.le_of_ble_eq_true rfl) [(0, .ref q_this), (1, .int x1), (2, .long x2)] rfl (fun C hC hQ => ?_)
  have hC : vH G C cX3_add RX3 5 (some .int) { frames := 0, cells := 0, slots := 0, locals := 0 } := hC
  rw [f_X3_add] at hf
  refine g_iload_n (pc := 0) 1 hC dX3_add_0 rfl ?_
  refine g_if_lt (pc := 1) 23 hC dX3_add_1 (by decide) (fun hb => ?_) (fun hb => ?_)
  · replace hf := ite_t hf hb
    refine g_iconst (pc := 23) (-1 : Int32) hC dX3_add_23 rfl ?_
    obtain rfl := Option.some.inj hf
    exact g_iret (pc := 24) hC hQ dX3_add_24
  · replace hf := ite_f hf hb
    refine g_iload_n (pc := 4) 1 hC dX3_add_4 rfl ?_
    refine g_iconst (pc := 5) (5 : Int32) hC dX3_add_5 rfl ?_
    refine g_icmp_ge (pc := 6) 23 hC dX3_add_6 (by decide) (fun hb => ?_) (fun hb => ?_)
    · replace hf := ite_t hf hb
      refine g_iconst (pc := 23) (-1 : Int32) hC dX3_add_23 rfl ?_
      obtain rfl := Option.some.inj hf
      exact g_iret (pc := 24) hC hQ dX3_add_24
    · replace hf := ite_f hf hb
      refine g_aload_n (pc := 9) 0 hC dX3_add_9 rfl ?_
      refine g_get (pc := 10) 0 0 hC inX3 dX3_add_10 W1_104 rfl rfl (Nat.le_of_ble_eq_true rfl) rfl rfl ?_
      refine g_iload_n (pc := 13) 1 hC dX3_add_13 rfl ?_
      obtain ⟨h1, hf⟩ := bad_s hf
      refine g_iald (pc := 14) 1 hC dX3_add_14 rfl h1 ?_
      refine g_getsNMO (pc := 15) hC dX3_add_15 (List.mem_of_getElem? (i := 37) rfl) ?_
      refine g_iload_n (pc := 18) 1 hC dX3_add_18 rfl ?_
      obtain ⟨h2, hf⟩ := bad_s hf
      refine g_tabMO (pc := 19) hC dX3_add_19 h2 ?_
      refine g_icmp_lt (pc := 20) 25 hC dX3_add_20 (by decide) (fun hb => ?_) (fun hb => ?_)
      · replace hf := ite_t hf hb
        refine g_aload_n (pc := 25) 0 hC dX3_add_25 rfl ?_
        refine g_get (pc := 26) 0 0 hC inX3 dX3_add_26 W1_104 rfl rfl (Nat.le_of_ble_eq_true rfl) rfl rfl ?_
        refine g_iload_n (pc := 29) 1 hC dX3_add_29 rfl ?_
        obtain ⟨h3, hf⟩ := bad_s hf
        refine g_iald (pc := 30) 1 hC dX3_add_30 rfl h3 ?_
        obtain ⟨t4, et4, hf⟩ := vlet_s hf
        refine g_nmi et4 ?_
        refine g_istore (pc := 31) [(4, .int t4), (0, .ref q_this), (1, .int x1), (2, .long x2)] hC dX3_add_31 (Nat.le_of_ble_eq_true rfl) rfl ?_
        refine g_aload_n (pc := 33) 1 hC dX3_add_33 rfl ?_
        refine g_get (pc := 34) 0 1 hC inX3 dX3_add_34 W1_107 rfl rfl (Nat.le_of_ble_eq_true rfl) rfl rfl ?_
        refine g_iload_n (pc := 37) 2 hC dX3_add_37 rfl ?_
        obtain ⟨h5, hf⟩ := bad_s hf
        refine g_aaldL (pc := 38) 2 hC dX3_add_38 rfl h5 rfl ?_
        refine g_iload (pc := 39) 0 hC dX3_add_39 rfl ?_
        refine g_lload_n (pc := 41) 3 hC dX3_add_41 rfl ?_
        obtain ⟨h6, hf⟩ := bad_s hf
        obtain ⟨w7, ew7, hf⟩ := vlet_s hf
        refine g_lastR (pc := 42) (fun z9 => (ws_X3_add G q_this q_parts q_names q_names_r q_pickTime q_dropTime q_contacts q_makes q_period q_onTime q_told q_joined q_netOf c_toldNets c_nets c_parts z9)) 3 hC dX3_add_42 (vp_lt h5) rfl rfl rfl rfl rfl h6 ew7 (fun _ => rfl) (fun _ => rfl) (fun _ => rfl) (fun _ => rfl) (fun _ => rfl) ?_
        refine g_aload_n (pc := 43) 1 hC dX3_add_43 rfl ?_
        refine g_get (pc := 44) 0 0 hC inX3 dX3_add_44 W1_104 rfl rfl (Nat.le_of_ble_eq_true rfl) rfl rfl ?_
        refine g_iload_n (pc := 47) 2 hC dX3_add_47 rfl ?_
        refine g_dup2_11 (pc := 48) rfl rfl hC dX3_add_48 ?_
        obtain ⟨h8, hf⟩ := bad_s hf
        refine g_iald (pc := 49) 1 hC dX3_add_49 rfl h8 ?_
        refine g_iconst (pc := 50) (1 : Int32) hC dX3_add_50 rfl ?_
        refine g_iadd (pc := 51) hC dX3_add_51 ?_
        obtain ⟨t9, et9, hf⟩ := vlet_s hf
        refine g_nmi et9 ?_
        obtain ⟨h10, hf⟩ := bad_s hf
        obtain ⟨w11, ew11, hf⟩ := vlet_s hf
        refine g_iast (pc := 52) (ws2 := (ws_X3_add G q_this q_parts q_names q_names_r q_pickTime q_dropTime q_contacts q_makes q_period q_onTime q_told q_joined q_netOf c_toldNets c_nets w11 w7)) 1 hC dX3_add_52 rfl h10 ew11 rfl ?_
        refine g_iload (pc := 53) 0 hC dX3_add_53 rfl ?_
        obtain rfl := Option.some.inj hf
        exact g_iret (pc := 55) hC hQ dX3_add_55
      · replace hf := ite_f hf hb
        refine g_iconst (pc := 23) (-1 : Int32) hC dX3_add_23 rfl ?_
        obtain rfl := Option.some.inj hf
        exact g_iret (pc := 24) hC hQ dX3_add_24
/-! CoilBench$Netlist.setRelay(IIIII)V -/
abbrev ws_X3_setRelay (G : Gx) (q_this : Nat) (q_parts : Nat) (q_pickTime : Nat) (q_dropTime : Nat) (q_contacts : Nat) (q_makes : Nat) (q_names : Nat) (q_period : Nat) (q_onTime : Nat) (q_told : Nat) (q_joined : Nat) (q_netOf : Nat) (c_toldNets : Int32) (c_nets : Int32) (c_parts : Nat → Int32) (c_pickTime : Nat → Int32) (c_dropTime : Nat → Int32) (c_contacts : Nat → Int32) (c_makes : Nat → Int32) : va_W := [(q_this, eO 2 [.ref q_parts, .ref q_names, .ref q_pickTime, .ref q_dropTime, .ref q_contacts, .ref q_makes, .ref q_period, .ref q_onTime, .ref q_told, .ref q_joined, .ref q_netOf, .int c_toldNets, .int c_nets]), (q_parts, eI G 5 c_parts), (q_pickTime, eI G 40 c_pickTime), (q_dropTime, eI G 40 c_dropTime), (q_contacts, eI G 40 c_contacts), (q_makes, eI G 40 c_makes)]
theorem mY_X3_setRelay : vY yX3_setRelay cX3_setRelay 6 (none) 5 := ⟨W3_83, W1_4, ⟨by decide +kernel, by decide +kernel⟩, by decide +kernel⟩
theorem mI_X3_setRelay : vYi yX3_setRelay := ⟨W3_81, W3_82⟩
def f_X3_setRelay (x1 : Int32) (x2 : Int32) (x3 : Int32) (x4 : Int32) (x5 : Int32) (c_parts : Nat → Int32) (c_pickTime : Nat → Int32) (c_dropTime : Nat → Int32) (c_contacts : Nat → Int32) (c_makes : Nat → Int32) : Option ((Nat → Int32) × (Nat → Int32) × (Nat → Int32) × (Nat → Int32)) := (f_X3_has (0 : Int32) x1 c_parts).bind fun r1 => if r1 = 0 then (some (c_pickTime, c_dropTime, c_contacts, c_makes)) else (if bad x1 40 = true then none else vlet (upd c_pickTime x1.toNatClampNeg x2) fun w3 => if bad x1 40 = true then none else vlet (upd c_dropTime x1.toNatClampNeg x3) fun w5 => if bad x1 40 = true then none else vlet (upd c_contacts x1.toNatClampNeg x4) fun w7 => if bad x1 40 = true then none else vlet (upd c_makes x1.toNatClampNeg x5) fun w9 => some (w3, w5, w7, w9))
set_option maxHeartbeats 4000000 in
set_option maxRecDepth 100000 in
theorem c_X3_setRelay (G : Gx) (q_this : Nat) (q_parts : Nat) (q_pickTime : Nat) (q_dropTime : Nat) (q_contacts : Nat) (q_makes : Nat) (q_names : Nat) (q_period : Nat) (q_onTime : Nat) (q_told : Nat) (q_joined : Nat) (q_netOf : Nat) (c_toldNets : Int32) (c_nets : Int32) (c_parts : Nat → Int32) (c_pickTime : Nat → Int32) (c_dropTime : Nat → Int32) (c_contacts : Nat → Int32) (c_makes : Nat → Int32) (x1 : Int32) (x2 : Int32) (x3 : Int32) (x4 : Int32) (x5 : Int32) (R : (Nat → Int32) × (Nat → Int32) × (Nat → Int32) × (Nat → Int32)) (hf : f_X3_setRelay x1 x2 x3 x4 x5 c_parts c_pickTime c_dropTime c_contacts c_makes = some R) : vM G yX3_setRelay cX3_setRelay 6 (none) 1 22 [.ref q_this, .int x1, .int x2, .int x3, .int x4, .int x5] (ws_X3_setRelay G q_this q_parts q_pickTime q_dropTime q_contacts q_makes q_names q_period q_onTime q_told q_joined q_netOf c_toldNets c_nets c_parts c_pickTime c_dropTime c_contacts c_makes) none (ws_X3_setRelay G q_this q_parts q_pickTime q_dropTime q_contacts q_makes q_names q_period q_onTime q_told q_joined q_netOf c_toldNets c_nets c_parts R.1 R.2.1 R.2.2.1 R.2.2.2) := by
  refine vM_of (by decide +kernel) (Nat.le_of_ble_eq_true rfl) [(0, .ref q_this), (1, .int x1), (2, .int x2), (3, .int x3), (4, .int x4), (5, .int x5)] rfl (fun C hC hQ => ?_)
  have hC : vH G C cX3_setRelay RX3 6 (none) { frames := 1, cells := 0, slots := 0, locals := 22 } := hC
  rw [f_X3_setRelay] at hf
  refine g_aload_n (pc := 0) 0 hC dX3_setRelay_0 rfl ?_
  refine g_iconst (pc := 1) (0 : Int32) hC dX3_setRelay_1 rfl ?_
  refine g_iload_n (pc := 2) 1 hC dX3_setRelay_2 rfl ?_
  obtain ⟨r1, hr1, hf⟩ := bnd_s hf
  refine g_callVi (pc := 3) (st := []) (wc2 := (ws_X3_has G q_this q_parts q_names q_pickTime q_dropTime q_contacts q_makes q_period q_onTime q_told q_joined q_netOf c_toldNets c_nets c_parts)) (ws2 := (ws_X3_setRelay G q_this q_parts q_pickTime q_dropTime q_contacts q_makes q_names q_period q_onTime q_told q_joined q_netOf c_toldNets c_nets c_parts c_pickTime c_dropTime c_contacts c_makes)) [0, 1] 0 hC (c_X3_has G q_this q_parts q_names q_pickTime q_dropTime q_contacts q_makes q_period q_onTime q_told q_joined q_netOf c_toldNets c_nets c_parts (0 : Int32) x1 r1 hr1) mY_X3_has mI_X3_has W1_94 dX3_setRelay_3 rfl rfl rfl rfl rfl rfl rfl rfl rfl ⟨Nat.le_of_ble_eq_true rfl, Nat.le_of_ble_eq_true rfl⟩ ⟨Nat.le_refl 0, Nat.le_refl 0⟩ (Nat.le_of_ble_eq_true rfl) ?_
  refine g_if_eq (pc := 6) 39 hC dX3_setRelay_6 (by decide) (fun hb => ?_) (fun hb => ?_)
  · replace hf := ite_t hf hb
    obtain rfl := Option.some.inj hf
    exact g_vret (pc := 39) hC hQ dX3_setRelay_39
  · replace hf := ite_f hf hb
    refine g_aload_n (pc := 9) 0 hC dX3_setRelay_9 rfl ?_
    refine g_get (pc := 10) 0 2 hC inX3 dX3_setRelay_10 W1_109 rfl rfl (Nat.le_of_ble_eq_true rfl) rfl rfl ?_
    refine g_iload_n (pc := 13) 1 hC dX3_setRelay_13 rfl ?_
    refine g_iload_n (pc := 14) 2 hC dX3_setRelay_14 rfl ?_
    obtain ⟨h2, hf⟩ := bad_s hf
    obtain ⟨w3, ew3, hf⟩ := vlet_s hf
    refine g_iast (pc := 15) (ws2 := (ws_X3_setRelay G q_this q_parts q_pickTime q_dropTime q_contacts q_makes q_names q_period q_onTime q_told q_joined q_netOf c_toldNets c_nets c_parts w3 c_dropTime c_contacts c_makes)) 2 hC dX3_setRelay_15 rfl h2 ew3 rfl ?_
    refine g_aload_n (pc := 16) 0 hC dX3_setRelay_16 rfl ?_
    refine g_get (pc := 17) 0 3 hC inX3 dX3_setRelay_17 W1_112 rfl rfl (Nat.le_of_ble_eq_true rfl) rfl rfl ?_
    refine g_iload_n (pc := 20) 1 hC dX3_setRelay_20 rfl ?_
    refine g_iload_n (pc := 21) 3 hC dX3_setRelay_21 rfl ?_
    obtain ⟨h4, hf⟩ := bad_s hf
    obtain ⟨w5, ew5, hf⟩ := vlet_s hf
    refine g_iast (pc := 22) (ws2 := (ws_X3_setRelay G q_this q_parts q_pickTime q_dropTime q_contacts q_makes q_names q_period q_onTime q_told q_joined q_netOf c_toldNets c_nets c_parts w3 w5 c_contacts c_makes)) 3 hC dX3_setRelay_22 rfl h4 ew5 rfl ?_
    refine g_aload_n (pc := 23) 0 hC dX3_setRelay_23 rfl ?_
    refine g_get (pc := 24) 0 4 hC inX3 dX3_setRelay_24 W1_115 rfl rfl (Nat.le_of_ble_eq_true rfl) rfl rfl ?_
    refine g_iload_n (pc := 27) 1 hC dX3_setRelay_27 rfl ?_
    refine g_iload (pc := 28) 4 hC dX3_setRelay_28 rfl ?_
    obtain ⟨h6, hf⟩ := bad_s hf
    obtain ⟨w7, ew7, hf⟩ := vlet_s hf
    refine g_iast (pc := 30) (ws2 := (ws_X3_setRelay G q_this q_parts q_pickTime q_dropTime q_contacts q_makes q_names q_period q_onTime q_told q_joined q_netOf c_toldNets c_nets c_parts w3 w5 w7 c_makes)) 4 hC dX3_setRelay_30 rfl h6 ew7 rfl ?_
    refine g_aload_n (pc := 31) 0 hC dX3_setRelay_31 rfl ?_
    refine g_get (pc := 32) 0 5 hC inX3 dX3_setRelay_32 W1_118 rfl rfl (Nat.le_of_ble_eq_true rfl) rfl rfl ?_
    refine g_iload_n (pc := 35) 1 hC dX3_setRelay_35 rfl ?_
    refine g_iload (pc := 36) 5 hC dX3_setRelay_36 rfl ?_
    obtain ⟨h8, hf⟩ := bad_s hf
    obtain ⟨w9, ew9, hf⟩ := vlet_s hf
    refine g_iast (pc := 38) (ws2 := (ws_X3_setRelay G q_this q_parts q_pickTime q_dropTime q_contacts q_makes q_names q_period q_onTime q_told q_joined q_netOf c_toldNets c_nets c_parts w3 w5 w7 w9)) 5 hC dX3_setRelay_38 rfl h8 ew9 rfl ?_
    obtain rfl := Option.some.inj hf
    exact g_vret (pc := 39) hC hQ dX3_setRelay_39
/-! CoilBench$Netlist.setClock(III)V -/
abbrev ws_X3_setClock (G : Gx) (q_this : Nat) (q_parts : Nat) (q_period : Nat) (q_onTime : Nat) (q_names : Nat) (q_pickTime : Nat) (q_dropTime : Nat) (q_contacts : Nat) (q_makes : Nat) (q_told : Nat) (q_joined : Nat) (q_netOf : Nat) (c_toldNets : Int32) (c_nets : Int32) (c_parts : Nat → Int32) (c_period : Nat → Int32) (c_onTime : Nat → Int32) : va_W := [(q_this, eO 2 [.ref q_parts, .ref q_names, .ref q_pickTime, .ref q_dropTime, .ref q_contacts, .ref q_makes, .ref q_period, .ref q_onTime, .ref q_told, .ref q_joined, .ref q_netOf, .int c_toldNets, .int c_nets]), (q_parts, eI G 5 c_parts), (q_period, eI G 4 c_period), (q_onTime, eI G 4 c_onTime)]
theorem mY_X3_setClock : vY yX3_setClock cX3_setClock 4 (none) 3 := ⟨W3_95, W1_4, ⟨by decide +kernel, by decide +kernel⟩, by decide +kernel⟩
theorem mI_X3_setClock : vYi yX3_setClock := ⟨W3_93, W3_94⟩
def f_X3_setClock (x1 : Int32) (x2 : Int32) (x3 : Int32) (c_parts : Nat → Int32) (c_period : Nat → Int32) (c_onTime : Nat → Int32) : Option ((Nat → Int32) × (Nat → Int32)) := (f_X3_has (3 : Int32) x1 c_parts).bind fun r1 => if r1 = 0 then (some (c_period, c_onTime)) else (if bad x1 4 = true then none else vlet (upd c_period x1.toNatClampNeg x2) fun w3 => if bad x1 4 = true then none else vlet (upd c_onTime x1.toNatClampNeg x3) fun w5 => some (w3, w5))
set_option maxHeartbeats 4000000 in
set_option maxRecDepth 100000 in
theorem c_X3_setClock (G : Gx) (q_this : Nat) (q_parts : Nat) (q_period : Nat) (q_onTime : Nat) (q_names : Nat) (q_pickTime : Nat) (q_dropTime : Nat) (q_contacts : Nat) (q_makes : Nat) (q_told : Nat) (q_joined : Nat) (q_netOf : Nat) (c_toldNets : Int32) (c_nets : Int32) (c_parts : Nat → Int32) (c_period : Nat → Int32) (c_onTime : Nat → Int32) (x1 : Int32) (x2 : Int32) (x3 : Int32) (R : (Nat → Int32) × (Nat → Int32)) (hf : f_X3_setClock x1 x2 x3 c_parts c_period c_onTime = some R) : vM G yX3_setClock cX3_setClock 4 (none) 1 22 [.ref q_this, .int x1, .int x2, .int x3] (ws_X3_setClock G q_this q_parts q_period q_onTime q_names q_pickTime q_dropTime q_contacts q_makes q_told q_joined q_netOf c_toldNets c_nets c_parts c_period c_onTime) none (ws_X3_setClock G q_this q_parts q_period q_onTime q_names q_pickTime q_dropTime q_contacts q_makes q_told q_joined q_netOf c_toldNets c_nets c_parts R.1 R.2) := by
  refine vM_of (by decide +kernel) (Nat.le_of_ble_eq_true rfl) [(0, .ref q_this), (1, .int x1), (2, .int x2), (3, .int x3)] rfl (fun C hC hQ => ?_)
  have hC : vH G C cX3_setClock RX3 4 (none) { frames := 1, cells := 0, slots := 0, locals := 22 } := hC
  rw [f_X3_setClock] at hf
  refine g_aload_n (pc := 0) 0 hC dX3_setClock_0 rfl ?_
  refine g_iconst (pc := 1) (3 : Int32) hC dX3_setClock_1 rfl ?_
  refine g_iload_n (pc := 2) 1 hC dX3_setClock_2 rfl ?_
  obtain ⟨r1, hr1, hf⟩ := bnd_s hf
  refine g_callVi (pc := 3) (st := []) (wc2 := (ws_X3_has G q_this q_parts q_names q_pickTime q_dropTime q_contacts q_makes q_period q_onTime q_told q_joined q_netOf c_toldNets c_nets c_parts)) (ws2 := (ws_X3_setClock G q_this q_parts q_period q_onTime q_names q_pickTime q_dropTime q_contacts q_makes q_told q_joined q_netOf c_toldNets c_nets c_parts c_period c_onTime)) [0, 1] 0 hC (c_X3_has G q_this q_parts q_names q_pickTime q_dropTime q_contacts q_makes q_period q_onTime q_told q_joined q_netOf c_toldNets c_nets c_parts (3 : Int32) x1 r1 hr1) mY_X3_has mI_X3_has W1_94 dX3_setClock_3 rfl rfl rfl rfl rfl rfl rfl rfl rfl ⟨Nat.le_of_ble_eq_true rfl, Nat.le_of_ble_eq_true rfl⟩ ⟨Nat.le_refl 0, Nat.le_refl 0⟩ (Nat.le_of_ble_eq_true rfl) ?_
  refine g_if_eq (pc := 6) 23 hC dX3_setClock_6 (by decide) (fun hb => ?_) (fun hb => ?_)
  · replace hf := ite_t hf hb
    obtain rfl := Option.some.inj hf
    exact g_vret (pc := 23) hC hQ dX3_setClock_23
  · replace hf := ite_f hf hb
    refine g_aload_n (pc := 9) 0 hC dX3_setClock_9 rfl ?_
    refine g_get (pc := 10) 0 6 hC inX3 dX3_setClock_10 W1_119 rfl rfl (Nat.le_of_ble_eq_true rfl) rfl rfl ?_
    refine g_iload_n (pc := 13) 1 hC dX3_setClock_13 rfl ?_
    refine g_iload_n (pc := 14) 2 hC dX3_setClock_14 rfl ?_
    obtain ⟨h2, hf⟩ := bad_s hf
    obtain ⟨w3, ew3, hf⟩ := vlet_s hf
    refine g_iast (pc := 15) (ws2 := (ws_X3_setClock G q_this q_parts q_period q_onTime q_names q_pickTime q_dropTime q_contacts q_makes q_told q_joined q_netOf c_toldNets c_nets c_parts w3 c_onTime)) 2 hC dX3_setClock_15 rfl h2 ew3 rfl ?_
    refine g_aload_n (pc := 16) 0 hC dX3_setClock_16 rfl ?_
    refine g_get (pc := 17) 0 7 hC inX3 dX3_setClock_17 W1_120 rfl rfl (Nat.le_of_ble_eq_true rfl) rfl rfl ?_
    refine g_iload_n (pc := 20) 1 hC dX3_setClock_20 rfl ?_
    refine g_iload_n (pc := 21) 3 hC dX3_setClock_21 rfl ?_
    obtain ⟨h4, hf⟩ := bad_s hf
    obtain ⟨w5, ew5, hf⟩ := vlet_s hf
    refine g_iast (pc := 22) (ws2 := (ws_X3_setClock G q_this q_parts q_period q_onTime q_names q_pickTime q_dropTime q_contacts q_makes q_told q_joined q_netOf c_toldNets c_nets c_parts w3 w5)) 3 hC dX3_setClock_22 rfl h4 ew5 rfl ?_
    obtain rfl := Option.some.inj hf
    exact g_vret (pc := 23) hC hQ dX3_setClock_23
/-! CoilBench$Netlist.joinTold(II)V -/
abbrev ws_X3_joinTold (G : Gx) (q_this : Nat) (q_told : Nat) (q_joined : Nat) (q_parts : Nat) (q_names : Nat) (q_pickTime : Nat) (q_dropTime : Nat) (q_contacts : Nat) (q_makes : Nat) (q_period : Nat) (q_onTime : Nat) (q_netOf : Nat) (c_toldNets : Int32) (c_nets : Int32) (c_told : Nat → Int32) (c_joined : Nat → Int32) : va_W := [(q_this, eO 2 [.ref q_parts, .ref q_names, .ref q_pickTime, .ref q_dropTime, .ref q_contacts, .ref q_makes, .ref q_period, .ref q_onTime, .ref q_told, .ref q_joined, .ref q_netOf, .int c_toldNets, .int c_nets]), (q_told, eZ G 954 c_told), (q_joined, eI G 954 c_joined)]
theorem mY_X3_joinTold : vY yX3_joinTold cX3_joinTold 3 (none) 2 := ⟨W3_117, W1_4, ⟨by decide +kernel, by decide +kernel⟩, by decide +kernel⟩
theorem mI_X3_joinTold : vYi yX3_joinTold := ⟨W3_115, W3_116⟩
def f_X3_joinTold (x1 : Int32) (x2 : Int32) (c_told : Nat → Int32) (c_joined : Nat → Int32) : Option ((Nat → Int32) × (Nat → Int32)) := if x1 < 0 then (some (c_told, c_joined)) else (if (954 : Int32) ≤ x1 then (some (c_told, c_joined)) else (if x2 < 0 then (some (c_told, c_joined)) else (if x2 < (954 : Int32) then (if bad x1 954 = true then none else vlet (upd c_told x1.toNatClampNeg (vp_nar .boolean (1 : Int32))) fun w2 => if bad x2 954 = true then none else vlet (upd w2 x2.toNatClampNeg (vp_nar .boolean (1 : Int32))) fun w4 => (f_X3_headOf x1 c_joined).bind fun r5 => (f_X3_headOf x2 r5.2).bind fun r6 => if bad r5.1 954 = true then none else vlet (upd r6.2 r5.1.toNatClampNeg r6.1) fun w8 => some (w4, w8)) else (some (c_told, c_joined)))))
set_option maxHeartbeats 4000000 in
set_option maxRecDepth 100000 in
theorem c_X3_joinTold (G : Gx) (q_this : Nat) (q_told : Nat) (q_joined : Nat) (q_parts : Nat) (q_names : Nat) (q_pickTime : Nat) (q_dropTime : Nat) (q_contacts : Nat) (q_makes : Nat) (q_period : Nat) (q_onTime : Nat) (q_netOf : Nat) (c_toldNets : Int32) (c_nets : Int32) (c_told : Nat → Int32) (c_joined : Nat → Int32) (x1 : Int32) (x2 : Int32) (R : (Nat → Int32) × (Nat → Int32)) (hf : f_X3_joinTold x1 x2 c_told c_joined = some R) : vM G yX3_joinTold cX3_joinTold 3 (none) 1 23 [.ref q_this, .int x1, .int x2] (ws_X3_joinTold G q_this q_told q_joined q_parts q_names q_pickTime q_dropTime q_contacts q_makes q_period q_onTime q_netOf c_toldNets c_nets c_told c_joined) none (ws_X3_joinTold G q_this q_told q_joined q_parts q_names q_pickTime q_dropTime q_contacts q_makes q_period q_onTime q_netOf c_toldNets c_nets R.1 R.2) := by
  refine vM_of (by decide +kernel) (Nat.le_of_ble_eq_true rfl) [(0, .ref q_this), (1, .int x1), (2, .int x2)] rfl (fun C hC hQ => ?_)
  have hC : vH G C cX3_joinTold RX3 3 (none) { frames := 1, cells := 0, slots := 0, locals := 23 } := hC
  rw [f_X3_joinTold] at hf
  refine g_iload_n (pc := 0) 1 hC dX3_joinTold_0 rfl ?_
  refine g_if_lt (pc := 1) 22 hC dX3_joinTold_1 (by decide) (fun hb => ?_) (fun hb => ?_)
  · replace hf := ite_t hf hb
    obtain rfl := Option.some.inj hf
    exact g_vret (pc := 22) hC hQ dX3_joinTold_22
  · replace hf := ite_f hf hb
    refine g_iload_n (pc := 4) 1 hC dX3_joinTold_4 rfl ?_
    refine g_sipush (pc := 5) (954 : Int32) hC dX3_joinTold_5 rfl ?_
    refine g_icmp_ge (pc := 8) 22 hC dX3_joinTold_8 (by decide) (fun hb => ?_) (fun hb => ?_)
    · replace hf := ite_t hf hb
      obtain rfl := Option.some.inj hf
      exact g_vret (pc := 22) hC hQ dX3_joinTold_22
    · replace hf := ite_f hf hb
      refine g_iload_n (pc := 11) 2 hC dX3_joinTold_11 rfl ?_
      refine g_if_lt (pc := 12) 22 hC dX3_joinTold_12 (by decide) (fun hb => ?_) (fun hb => ?_)
      · replace hf := ite_t hf hb
        obtain rfl := Option.some.inj hf
        exact g_vret (pc := 22) hC hQ dX3_joinTold_22
      · replace hf := ite_f hf hb
        refine g_iload_n (pc := 15) 2 hC dX3_joinTold_15 rfl ?_
        refine g_sipush (pc := 16) (954 : Int32) hC dX3_joinTold_16 rfl ?_
        refine g_icmp_lt (pc := 19) 23 hC dX3_joinTold_19 (by decide) (fun hb => ?_) (fun hb => ?_)
        · replace hf := ite_t hf hb
          refine g_aload_n (pc := 23) 0 hC dX3_joinTold_23 rfl ?_
          refine g_get (pc := 24) 0 8 hC inX3 dX3_joinTold_24 W1_121 rfl rfl (Nat.le_of_ble_eq_true rfl) rfl rfl ?_
          refine g_iload_n (pc := 27) 1 hC dX3_joinTold_27 rfl ?_
          refine g_iconst (pc := 28) (1 : Int32) hC dX3_joinTold_28 rfl ?_
          obtain ⟨h1, hf⟩ := bad_s hf
          obtain ⟨w2, ew2, hf⟩ := vlet_s hf
          refine g_zast (pc := 29) (ws2 := (ws_X3_joinTold G q_this q_told q_joined q_parts q_names q_pickTime q_dropTime q_contacts q_makes q_period q_onTime q_netOf c_toldNets c_nets w2 c_joined)) 1 hC dX3_joinTold_29 rfl h1 ew2 rfl ?_
          refine g_aload_n (pc := 30) 0 hC dX3_joinTold_30 rfl ?_
          refine g_get (pc := 31) 0 8 hC inX3 dX3_joinTold_31 W1_121 rfl rfl (Nat.le_of_ble_eq_true rfl) rfl rfl ?_
          refine g_iload_n (pc := 34) 2 hC dX3_joinTold_34 rfl ?_
          refine g_iconst (pc := 35) (1 : Int32) hC dX3_joinTold_35 rfl ?_
          obtain ⟨h3, hf⟩ := bad_s hf
          obtain ⟨w4, ew4, hf⟩ := vlet_s hf
          refine g_zast (pc := 36) (ws2 := (ws_X3_joinTold G q_this q_told q_joined q_parts q_names q_pickTime q_dropTime q_contacts q_makes q_period q_onTime q_netOf c_toldNets c_nets w4 c_joined)) 1 hC dX3_joinTold_36 rfl h3 ew4 rfl ?_
          refine g_aload_n (pc := 37) 0 hC dX3_joinTold_37 rfl ?_
          refine g_get (pc := 38) 0 9 hC inX3 dX3_joinTold_38 W1_122 rfl rfl (Nat.le_of_ble_eq_true rfl) rfl rfl ?_
          refine g_aload_n (pc := 41) 0 hC dX3_joinTold_41 rfl ?_
          refine g_iload_n (pc := 42) 1 hC dX3_joinTold_42 rfl ?_
          obtain ⟨r5, hr5, hf⟩ := bnd_s hf
          refine g_callVi (pc := 43) (st := [.ref q_joined]) (wc2 := (ws_X3_headOf G q_this q_joined q_parts q_names q_pickTime q_dropTime q_contacts q_makes q_period q_onTime q_told q_netOf c_toldNets c_nets r5.2)) (ws2 := (ws_X3_joinTold G q_this q_told q_joined q_parts q_names q_pickTime q_dropTime q_contacts q_makes q_period q_onTime q_netOf c_toldNets c_nets w4 r5.2)) [0, 2] 0 hC (c_X3_headOf G q_this q_joined q_parts q_names q_pickTime q_dropTime q_contacts q_makes q_period q_onTime q_told q_netOf c_toldNets c_nets c_joined x1 r5 hr5) mY_X3_headOf mI_X3_headOf W1_82 dX3_joinTold_43 rfl rfl rfl rfl rfl rfl rfl rfl rfl ⟨Nat.le_of_ble_eq_true rfl, Nat.le_of_ble_eq_true rfl⟩ ⟨Nat.le_refl 0, Nat.le_refl 0⟩ (Nat.le_of_ble_eq_true rfl) ?_
          refine g_aload_n (pc := 46) 0 hC dX3_joinTold_46 rfl ?_
          refine g_iload_n (pc := 47) 2 hC dX3_joinTold_47 rfl ?_
          obtain ⟨r6, hr6, hf⟩ := bnd_s hf
          refine g_callVi (pc := 48) (st := [.int r5.1, .ref q_joined]) (wc2 := (ws_X3_headOf G q_this q_joined q_parts q_names q_pickTime q_dropTime q_contacts q_makes q_period q_onTime q_told q_netOf c_toldNets c_nets r6.2)) (ws2 := (ws_X3_joinTold G q_this q_told q_joined q_parts q_names q_pickTime q_dropTime q_contacts q_makes q_period q_onTime q_netOf c_toldNets c_nets w4 r6.2)) [0, 2] 0 hC (c_X3_headOf G q_this q_joined q_parts q_names q_pickTime q_dropTime q_contacts q_makes q_period q_onTime q_told q_netOf c_toldNets c_nets r5.2 x2 r6 hr6) mY_X3_headOf mI_X3_headOf W1_82 dX3_joinTold_48 rfl rfl rfl rfl rfl rfl rfl rfl rfl ⟨Nat.le_of_ble_eq_true rfl, Nat.le_of_ble_eq_true rfl⟩ ⟨Nat.le_refl 0, Nat.le_refl 0⟩ (Nat.le_of_ble_eq_true rfl) ?_
          obtain ⟨h7, hf⟩ := bad_s hf
          obtain ⟨w8, ew8, hf⟩ := vlet_s hf
          refine g_iast (pc := 51) (ws2 := (ws_X3_joinTold G q_this q_told q_joined q_parts q_names q_pickTime q_dropTime q_contacts q_makes q_period q_onTime q_netOf c_toldNets c_nets w4 w8)) 2 hC dX3_joinTold_51 rfl h7 ew8 rfl ?_
          obtain rfl := Option.some.inj hf
          exact g_vret (pc := 52) hC hQ dX3_joinTold_52
        · replace hf := ite_f hf hb
          obtain rfl := Option.some.inj hf
          exact g_vret (pc := 22) hC hQ dX3_joinTold_22
/-! CoilBench.contactNumber(II)I -/
abbrev ws_X10_contactNumber (G : Gx)  : va_W := []
theorem mY_X10_contactNumber : vY yX10_contactNumber cX10_contactNumber 2 (some .int) 2 := ⟨W3_192, W1_1, ⟨by decide +kernel, by decide +kernel⟩, by decide +kernel⟩
def f_X10_contactNumber (x0 : Int32) (x1 : Int32) : Option (Int32) := some (((x0 * (6 : Int32)) + x1) - (1 : Int32))
set_option maxHeartbeats 4000000 in
set_option maxRecDepth 100000 in
theorem c_X10_contactNumber (G : Gx)  (x0 : Int32) (x1 : Int32) (R : Int32) (hf : f_X10_contactNumber x0 x1 = some R) : vM G yX10_contactNumber cX10_contactNumber 2 (some .int) 0 0 [.int x0, .int x1] (ws_X10_contactNumber G) (some (.int R)) (ws_X10_contactNumber G) := by
  refine vM_of (by decide +kernel) (Nat.le_of_ble_eq_true rfl) [(0, .int x0), (1, .int x1)] rfl (fun C hC hQ => ?_)
  have hC : vH G C cX10_contactNumber RX10 2 (some .int) { frames := 0, cells := 0, slots := 0, locals := 0 } := hC
  rw [f_X10_contactNumber] at hf
  refine g_iload_n (pc := 0) 0 hC dX10_contactNumber_0 rfl ?_
  refine g_bipush (pc := 1) (6 : Int32) hC dX10_contactNumber_1 rfl ?_
  refine g_imul (pc := 3) hC dX10_contactNumber_3 ?_
  refine g_iload_n (pc := 4) 1 hC dX10_contactNumber_4 rfl ?_
  refine g_iadd (pc := 5) hC dX10_contactNumber_5 ?_
  refine g_iconst (pc := 6) (1 : Int32) hC dX10_contactNumber_6 rfl ?_
  refine g_isub (pc := 7) hC dX10_contactNumber_7 ?_
  obtain rfl := Option.some.inj hf
  exact g_iret (pc := 8) hC hQ dX10_contactNumber_8
/-! CoilBench$Netlist.makesFirst(II)Z -/
abbrev ws_X3_makesFirst (G : Gx) (q_this : Nat) (q_makes : Nat) (q_parts : Nat) (q_names : Nat) (q_pickTime : Nat) (q_dropTime : Nat) (q_contacts : Nat) (q_period : Nat) (q_onTime : Nat) (q_told : Nat) (q_joined : Nat) (q_netOf : Nat) (c_toldNets : Int32) (c_nets : Int32) (c_makes : Nat → Int32) : va_W := [(q_this, eO 2 [.ref q_parts, .ref q_names, .ref q_pickTime, .ref q_dropTime, .ref q_contacts, .ref q_makes, .ref q_period, .ref q_onTime, .ref q_told, .ref q_joined, .ref q_netOf, .int c_toldNets, .int c_nets]), (q_makes, eI G 40 c_makes)]
theorem mY_X3_makesFirst : vY yX3_makesFirst cX3_makesFirst 3 (some .boolean) 2 := ⟨W3_196, W1_4, ⟨by decide +kernel, by decide +kernel⟩, by decide +kernel⟩
theorem mI_X3_makesFirst : vYi yX3_makesFirst := ⟨W3_194, W3_195⟩
def f_X3_makesFirst (x1 : Int32) (x2 : Int32) (c_makes : Nat → Int32) : Option (Int32) := if bad x1 40 = true then none else if ((xshr (c_makes x1.toNatClampNeg) (x2 - (1 : Int32))) &&& (1 : Int32)) = 0 then (some (0 : Int32)) else (some (1 : Int32))
set_option maxHeartbeats 4000000 in
set_option maxRecDepth 100000 in
theorem c_X3_makesFirst (G : Gx) (q_this : Nat) (q_makes : Nat) (q_parts : Nat) (q_names : Nat) (q_pickTime : Nat) (q_dropTime : Nat) (q_contacts : Nat) (q_period : Nat) (q_onTime : Nat) (q_told : Nat) (q_joined : Nat) (q_netOf : Nat) (c_toldNets : Int32) (c_nets : Int32) (c_makes : Nat → Int32) (x1 : Int32) (x2 : Int32) (R : Int32) (hf : f_X3_makesFirst x1 x2 c_makes = some R) : vM G yX3_makesFirst cX3_makesFirst 3 (some .boolean) 0 0 [.ref q_this, .int x1, .int x2] (ws_X3_makesFirst G q_this q_makes q_parts q_names q_pickTime q_dropTime q_contacts q_period q_onTime q_told q_joined q_netOf c_toldNets c_nets c_makes) (some (.int R)) (ws_X3_makesFirst G q_this q_makes q_parts q_names q_pickTime q_dropTime q_contacts q_period q_onTime q_told q_joined q_netOf c_toldNets c_nets c_makes) := by
  refine vM_of (by decide +kernel) (Nat.le_of_ble_eq_true rfl) [(0, .ref q_this), (1, .int x1), (2, .int x2)] rfl (fun C hC hQ => ?_)
  have hC : vH G C cX3_makesFirst RX3 3 (some .boolean) { frames := 0, cells := 0, slots := 0, locals := 0 } := hC
  rw [f_X3_makesFirst] at hf
  refine g_aload_n (pc := 0) 0 hC dX3_makesFirst_0 rfl ?_
  refine g_get (pc := 1) 0 5 hC inX3 dX3_makesFirst_1 W1_118 rfl rfl (Nat.le_of_ble_eq_true rfl) rfl rfl ?_
  refine g_iload_n (pc := 4) 1 hC dX3_makesFirst_4 rfl ?_
  obtain ⟨h1, hf⟩ := bad_s hf
  refine g_iald (pc := 5) 1 hC dX3_makesFirst_5 rfl h1 ?_
  refine g_iload_n (pc := 6) 2 hC dX3_makesFirst_6 rfl ?_
  refine g_iconst (pc := 7) (1 : Int32) hC dX3_makesFirst_7 rfl ?_
  refine g_isub (pc := 8) hC dX3_makesFirst_8 ?_
  refine g_ishr (pc := 9) hC dX3_makesFirst_9 ?_
  refine g_iconst (pc := 10) (1 : Int32) hC dX3_makesFirst_10 rfl ?_
  refine g_iand (pc := 11) hC dX3_makesFirst_11 ?_
  refine g_if_eq (pc := 12) 19 hC dX3_makesFirst_12 (by decide) (fun hb => ?_) (fun hb => ?_)
  · replace hf := ite_t hf hb
    refine g_iconst (pc := 19) (0 : Int32) hC dX3_makesFirst_19 rfl ?_
    obtain rfl := Option.some.inj hf
    exact g_zret (pc := 20) hC rfl hQ dX3_makesFirst_20
  · replace hf := ite_f hf hb
    refine g_iconst (pc := 15) (1 : Int32) hC dX3_makesFirst_15 rfl ?_
    refine g_goto (pc := 16) 20 hC dX3_makesFirst_16 (by decide) ?_
    obtain rfl := Option.some.inj hf
    exact g_zret (pc := 20) hC rfl hQ dX3_makesFirst_20
/-! CoilBench$Netlist.isOn(II)Z -/
abbrev ws_X3_isOn (G : Gx) (q_this : Nat) (q_period : Nat) (q_onTime : Nat) (q_parts : Nat) (q_names : Nat) (q_pickTime : Nat) (q_dropTime : Nat) (q_contacts : Nat) (q_makes : Nat) (q_told : Nat) (q_joined : Nat) (q_netOf : Nat) (c_toldNets : Int32) (c_nets : Int32) (c_period : Nat → Int32) (c_onTime : Nat → Int32) : va_W := [(q_this, eO 2 [.ref q_parts, .ref q_names, .ref q_pickTime, .ref q_dropTime, .ref q_contacts, .ref q_makes, .ref q_period, .ref q_onTime, .ref q_told, .ref q_joined, .ref q_netOf, .int c_toldNets, .int c_nets]), (q_period, eI G 4 c_period), (q_onTime, eI G 4 c_onTime)]
theorem mY_X3_isOn : vY yX3_isOn cX3_isOn 3 (some .boolean) 2 := ⟨W3_213, W1_4, ⟨by decide +kernel, by decide +kernel⟩, by decide +kernel⟩
theorem mI_X3_isOn : vYi yX3_isOn := ⟨W3_211, W3_212⟩
def f_X3_isOn (x1 : Int32) (x2 : Int32) (c_period : Nat → Int32) (c_onTime : Nat → Int32) : Option (Int32) := if bad x1 4 = true then none else if (c_period x1.toNatClampNeg) ≤ 0 then (some (0 : Int32)) else (if bad x1 4 = true then none else if (c_period x1.toNatClampNeg) = 0 then none else if bad x1 4 = true then none else if (c_onTime x1.toNatClampNeg) ≤ (xrem x2 (c_period x1.toNatClampNeg)) then (some (0 : Int32)) else (some (1 : Int32)))
set_option maxHeartbeats 4000000 in
set_option maxRecDepth 100000 in
theorem c_X3_isOn (G : Gx) (q_this : Nat) (q_period : Nat) (q_onTime : Nat) (q_parts : Nat) (q_names : Nat) (q_pickTime : Nat) (q_dropTime : Nat) (q_contacts : Nat) (q_makes : Nat) (q_told : Nat) (q_joined : Nat) (q_netOf : Nat) (c_toldNets : Int32) (c_nets : Int32) (c_period : Nat → Int32) (c_onTime : Nat → Int32) (x1 : Int32) (x2 : Int32) (R : Int32) (hf : f_X3_isOn x1 x2 c_period c_onTime = some R) : vM G yX3_isOn cX3_isOn 3 (some .boolean) 0 0 [.ref q_this, .int x1, .int x2] (ws_X3_isOn G q_this q_period q_onTime q_parts q_names q_pickTime q_dropTime q_contacts q_makes q_told q_joined q_netOf c_toldNets c_nets c_period c_onTime) (some (.int R)) (ws_X3_isOn G q_this q_period q_onTime q_parts q_names q_pickTime q_dropTime q_contacts q_makes q_told q_joined q_netOf c_toldNets c_nets c_period c_onTime) := by
  refine vM_of (by decide +kernel) (Nat.le_of_ble_eq_true rfl) [(0, .ref q_this), (1, .int x1), (2, .int x2)] rfl (fun C hC hQ => ?_)
  have hC : vH G C cX3_isOn RX3 3 (some .boolean) { frames := 0, cells := 0, slots := 0, locals := 0 } := hC
  rw [f_X3_isOn] at hf
  refine g_aload_n (pc := 0) 0 hC dX3_isOn_0 rfl ?_
  refine g_get (pc := 1) 0 6 hC inX3 dX3_isOn_1 W1_119 rfl rfl (Nat.le_of_ble_eq_true rfl) rfl rfl ?_
  refine g_iload_n (pc := 4) 1 hC dX3_isOn_4 rfl ?_
  obtain ⟨h1, hf⟩ := bad_s hf
  refine g_iald (pc := 5) 1 hC dX3_isOn_5 rfl h1 ?_
  refine g_if_le (pc := 6) 30 hC dX3_isOn_6 (by decide) (fun hb => ?_) (fun hb => ?_)
  · replace hf := ite_t hf hb
    refine g_iconst (pc := 30) (0 : Int32) hC dX3_isOn_30 rfl ?_
    obtain rfl := Option.some.inj hf
    exact g_zret (pc := 31) hC rfl hQ dX3_isOn_31
  · replace hf := ite_f hf hb
    refine g_iload_n (pc := 9) 2 hC dX3_isOn_9 rfl ?_
    refine g_aload_n (pc := 10) 0 hC dX3_isOn_10 rfl ?_
    refine g_get (pc := 11) 0 6 hC inX3 dX3_isOn_11 W1_119 rfl rfl (Nat.le_of_ble_eq_true rfl) rfl rfl ?_
    refine g_iload_n (pc := 14) 1 hC dX3_isOn_14 rfl ?_
    obtain ⟨h2, hf⟩ := bad_s hf
    refine g_iald (pc := 15) 1 hC dX3_isOn_15 rfl h2 ?_
    obtain ⟨h3, hf⟩ := ite_n hf
    refine g_irem (pc := 16) h3 hC dX3_isOn_16 ?_
    refine g_aload_n (pc := 17) 0 hC dX3_isOn_17 rfl ?_
    refine g_get (pc := 18) 0 7 hC inX3 dX3_isOn_18 W1_120 rfl rfl (Nat.le_of_ble_eq_true rfl) rfl rfl ?_
    refine g_iload_n (pc := 21) 1 hC dX3_isOn_21 rfl ?_
    obtain ⟨h4, hf⟩ := bad_s hf
    refine g_iald (pc := 22) 2 hC dX3_isOn_22 rfl h4 ?_
    refine g_icmp_ge (pc := 23) 30 hC dX3_isOn_23 (by decide) (fun hb => ?_) (fun hb => ?_)
    · replace hf := ite_t hf hb
      refine g_iconst (pc := 30) (0 : Int32) hC dX3_isOn_30 rfl ?_
      obtain rfl := Option.some.inj hf
      exact g_zret (pc := 31) hC rfl hQ dX3_isOn_31
    · replace hf := ite_f hf hb
      refine g_iconst (pc := 26) (1 : Int32) hC dX3_isOn_26 rfl ?_
      refine g_goto (pc := 27) 31 hC dX3_isOn_27 (by decide) ?_
      obtain rfl := Option.some.inj hf
      exact g_zret (pc := 31) hC rfl hQ dX3_isOn_31
/-! CoilBench$Netlist.toldEnds(I)I -/
abbrev ws_X3_toldEnds (G : Gx) (q_this : Nat) (q_parts : Nat) (q_contacts : Nat) (q_told : Nat) (q_names : Nat) (q_pickTime : Nat) (q_dropTime : Nat) (q_makes : Nat) (q_period : Nat) (q_onTime : Nat) (q_joined : Nat) (q_netOf : Nat) (c_toldNets : Int32) (c_nets : Int32) (c_parts : Nat → Int32) (c_contacts : Nat → Int32) (c_told : Nat → Int32) : va_W := [(q_this, eO 2 [.ref q_parts, .ref q_names, .ref q_pickTime, .ref q_dropTime, .ref q_contacts, .ref q_makes, .ref q_period, .ref q_onTime, .ref q_told, .ref q_joined, .ref q_netOf, .int c_toldNets, .int c_nets]), (q_parts, eI G 5 c_parts), (q_contacts, eI G 40 c_contacts), (q_told, eZ G 954 c_told)]
theorem mY_X3_toldEnds : vY yX3_toldEnds cX3_toldEnds 5 (some .int) 1 := ⟨W4_61, W1_4, ⟨by decide +kernel, by decide +kernel⟩, by decide +kernel⟩
theorem mI_X3_toldEnds : vYi yX3_toldEnds := ⟨W4_59, W4_60⟩
def f_X3_toldEnds_38 (k4 : Int32 → Int32 → Int32 → Option (Int32)) (c_parts : Nat → Int32) (c_contacts : Nat → Int32) (c_told : Nat → Int32) (x1 : Int32) (x2 : Int32) (x3 : Int32) : Option (Int32) := vlet (x3 + (1 : Int32)) fun t1 => (k4 x1 x2 t1)
set_option maxHeartbeats 4000000 in
set_option maxRecDepth 100000 in
theorem w_X3_toldEnds_38 {G : Gx} {C : Cx} (hC : vH G C cX3_toldEnds RX3 5 (some .int) { frames := 2, cells := 0, slots := 0, locals := 46 }) (q_this : Nat) (q_parts : Nat) (q_contacts : Nat) (q_told : Nat) (q_names : Nat) (q_pickTime : Nat) (q_dropTime : Nat) (q_makes : Nat) (q_period : Nat) (q_onTime : Nat) (q_joined : Nat) (q_netOf : Nat) (c_toldNets : Int32) (c_nets : Int32) (c_parts : Nat → Int32) (c_contacts : Nat → Int32) (c_told : Nat → Int32) (R : Int32) (hQ : vR G C 0 0 (some (.int R)) (ws_X3_toldEnds G q_this q_parts q_contacts q_told q_names q_pickTime q_dropTime q_makes q_period q_onTime q_joined q_netOf c_toldNets c_nets c_parts c_contacts c_told)) (k4 : Int32 → Int32 → Int32 → Option (Int32)) (hk4 : ∀ (x1 : Int32) (x2 : Int32) (x3 : Int32), k4 x1 x2 x3 = some R → vG G C 0 0 4 [(0, .ref q_this), (1, .int x1), (2, .int x2), (3, .int x3)] [] (ws_X3_toldEnds G q_this q_parts q_contacts q_told q_names q_pickTime q_dropTime q_makes q_period q_onTime q_joined q_netOf c_toldNets c_nets c_parts c_contacts c_told)) (x1 : Int32) (x2 : Int32) (x3 : Int32) (hf : f_X3_toldEnds_38 k4 c_parts c_contacts c_told x1 x2 x3 = some R) : vG G C 0 0 38 [(0, .ref q_this), (1, .int x1), (2, .int x2), (3, .int x3)] [] (ws_X3_toldEnds G q_this q_parts q_contacts q_told q_names q_pickTime q_dropTime q_makes q_period q_onTime q_joined q_netOf c_toldNets c_nets c_parts c_contacts c_told) := by
  rw [f_X3_toldEnds_38] at hf
  obtain ⟨t1, et1, hf⟩ := vlet_s hf
  refine g_iinc (pc := 38) 3 [(3, .int t1), (0, .ref q_this), (1, .int x1), (2, .int x2)] hC dX3_toldEnds_38 rfl (by rw [et1]; rfl) (Nat.le_of_ble_eq_true rfl) rfl ?_
  refine g_goto (pc := 41) 4 hC dX3_toldEnds_41 (by decide) ?_
  refine g_sub (lv2 := [(0, .ref q_this), (1, .int x1), (2, .int x2), (3, .int t1)]) [1, 2, 3, 0] rfl ?_
  exact hk4 x1 x2 t1 hf
def f_X3_toldEnds_4 (c_parts : Nat → Int32) (c_contacts : Nat → Int32) (c_told : Nat → Int32) : Nat → (Int32) → (Int32) → (Int32) → Option (Int32)
  | 0, _, _, _ => none
  | n + 1, x1, x2, x3 => if (20 : Int32) ≤ x3 then (some x2) else ((f_X3_endAt (0 : Int32) x1 x3 c_parts c_contacts).bind fun r1 => if r1 = (-1 : Int32) then ((f_X3_toldEnds_38 (f_X3_toldEnds_4 c_parts c_contacts c_told n) c_parts c_contacts c_told x1 x2 x3)) else (if bad r1 954 = true then none else if (c_told r1.toNatClampNeg) = 0 then ((f_X3_toldEnds_38 (f_X3_toldEnds_4 c_parts c_contacts c_told n) c_parts c_contacts c_told x1 x2 x3)) else (vlet (x2 + (1 : Int32)) fun t3 => (f_X3_toldEnds_38 (f_X3_toldEnds_4 c_parts c_contacts c_told n) c_parts c_contacts c_told x1 t3 x3))))
set_option maxHeartbeats 4000000 in
set_option maxRecDepth 100000 in
theorem w_X3_toldEnds_4 {G : Gx} {C : Cx} (hC : vH G C cX3_toldEnds RX3 5 (some .int) { frames := 2, cells := 0, slots := 0, locals := 46 }) (q_this : Nat) (q_parts : Nat) (q_contacts : Nat) (q_told : Nat) (q_names : Nat) (q_pickTime : Nat) (q_dropTime : Nat) (q_makes : Nat) (q_period : Nat) (q_onTime : Nat) (q_joined : Nat) (q_netOf : Nat) (c_toldNets : Int32) (c_nets : Int32) (c_parts : Nat → Int32) (c_contacts : Nat → Int32) (c_told : Nat → Int32) (R : Int32) (hQ : vR G C 0 0 (some (.int R)) (ws_X3_toldEnds G q_this q_parts q_contacts q_told q_names q_pickTime q_dropTime q_makes q_period q_onTime q_joined q_netOf c_toldNets c_nets c_parts c_contacts c_told)) : ∀ (n : Nat) (x1 : Int32) (x2 : Int32) (x3 : Int32), f_X3_toldEnds_4 c_parts c_contacts c_told n x1 x2 x3 = some R → vG G C 0 0 4 [(0, .ref q_this), (1, .int x1), (2, .int x2), (3, .int x3)] [] (ws_X3_toldEnds G q_this q_parts q_contacts q_told q_names q_pickTime q_dropTime q_makes q_period q_onTime q_joined q_netOf c_toldNets c_nets c_parts c_contacts c_told) := by
  intro n
  induction n with
  | zero => intro x1 x2 x3 hf; rw [f_X3_toldEnds_4] at hf; cases hf
  | succ n ih =>
    intro x1 x2 x3 hf
    rw [f_X3_toldEnds_4] at hf
    refine g_iload_n (pc := 4) 3 hC dX3_toldEnds_4 rfl ?_
    refine g_bipush (pc := 5) (20 : Int32) hC dX3_toldEnds_5 rfl ?_
    refine g_icmp_ge (pc := 7) 44 hC dX3_toldEnds_7 (by decide) (fun hb => ?_) (fun hb => ?_)
    · replace hf := ite_t hf hb
      refine g_iload_n (pc := 44) 2 hC dX3_toldEnds_44 rfl ?_
      obtain rfl := Option.some.inj hf
      exact g_iret (pc := 45) hC hQ dX3_toldEnds_45
    · replace hf := ite_f hf hb
      refine g_aload_n (pc := 10) 0 hC dX3_toldEnds_10 rfl ?_
      refine g_iconst (pc := 11) (0 : Int32) hC dX3_toldEnds_11 rfl ?_
      refine g_iload_n (pc := 12) 1 hC dX3_toldEnds_12 rfl ?_
      refine g_iload_n (pc := 13) 3 hC dX3_toldEnds_13 rfl ?_
      obtain ⟨r1, hr1, hf⟩ := bnd_s hf
      refine g_callVi (pc := 14) (st := []) (wc2 := (ws_X3_endAt G q_this q_parts q_contacts q_names q_pickTime q_dropTime q_makes q_period q_onTime q_told q_joined q_netOf c_toldNets c_nets c_parts c_contacts)) (ws2 := (ws_X3_toldEnds G q_this q_parts q_contacts q_told q_names q_pickTime q_dropTime q_makes q_period q_onTime q_joined q_netOf c_toldNets c_nets c_parts c_contacts c_told)) [0, 1, 2] 0 hC (c_X3_endAt G q_this q_parts q_contacts q_names q_pickTime q_dropTime q_makes q_period q_onTime q_told q_joined q_netOf c_toldNets c_nets c_parts c_contacts (0 : Int32) x1 x3 r1 hr1) mY_X3_endAt mI_X3_endAt W1_90 dX3_toldEnds_14 rfl rfl rfl rfl rfl rfl rfl rfl rfl ⟨Nat.le_of_ble_eq_true rfl, Nat.le_of_ble_eq_true rfl⟩ ⟨Nat.le_refl 0, Nat.le_refl 0⟩ (Nat.le_of_ble_eq_true rfl) ?_
      refine g_istore (pc := 17) [(4, .int r1), (0, .ref q_this), (1, .int x1), (2, .int x2), (3, .int x3)] hC dX3_toldEnds_17 (Nat.le_of_ble_eq_true rfl) rfl ?_
      refine g_iload (pc := 19) 0 hC dX3_toldEnds_19 rfl ?_
      refine g_iconst (pc := 21) (-1 : Int32) hC dX3_toldEnds_21 rfl ?_
      refine g_icmp_eq (pc := 22) 38 hC dX3_toldEnds_22 (by decide) (fun hb => ?_) (fun hb => ?_)
      · replace hf := ite_t hf hb
        refine g_sub (lv2 := [(0, .ref q_this), (1, .int x1), (2, .int x2), (3, .int x3)]) [1, 2, 3, 4] rfl ?_
        exact w_X3_toldEnds_38 hC q_this q_parts q_contacts q_told q_names q_pickTime q_dropTime q_makes q_period q_onTime q_joined q_netOf c_toldNets c_nets c_parts c_contacts c_told R hQ (f_X3_toldEnds_4 c_parts c_contacts c_told n) ih x1 x2 x3 hf
      · replace hf := ite_f hf hb
        refine g_aload_n (pc := 25) 1 hC dX3_toldEnds_25 rfl ?_
        refine g_get (pc := 26) 0 8 hC inX3 dX3_toldEnds_26 W1_121 rfl rfl (Nat.le_of_ble_eq_true rfl) rfl rfl ?_
        refine g_iload (pc := 29) 0 hC dX3_toldEnds_29 rfl ?_
        obtain ⟨h2, hf⟩ := bad_s hf
        refine g_zald (pc := 31) 3 hC dX3_toldEnds_31 rfl h2 ?_
        refine g_if_eq (pc := 32) 38 hC dX3_toldEnds_32 (by decide) (fun hb => ?_) (fun hb => ?_)
        · replace hf := ite_t hf hb
          refine g_sub (lv2 := [(0, .ref q_this), (1, .int x1), (2, .int x2), (3, .int x3)]) [1, 2, 3, 4] rfl ?_
          exact w_X3_toldEnds_38 hC q_this q_parts q_contacts q_told q_names q_pickTime q_dropTime q_makes q_period q_onTime q_joined q_netOf c_toldNets c_nets c_parts c_contacts c_told R hQ (f_X3_toldEnds_4 c_parts c_contacts c_told n) ih x1 x2 x3 hf
        · replace hf := ite_f hf hb
          obtain ⟨t3, et3, hf⟩ := vlet_s hf
          refine g_iinc (pc := 35) 3 [(2, .int t3), (4, .int r1), (0, .ref q_this), (1, .int x1), (3, .int x3)] hC dX3_toldEnds_35 rfl (by rw [et3]; rfl) (Nat.le_of_ble_eq_true rfl) rfl ?_
          refine g_sub (lv2 := [(0, .ref q_this), (1, .int x1), (2, .int t3), (3, .int x3)]) [2, 3, 0, 4] rfl ?_
          exact w_X3_toldEnds_38 hC q_this q_parts q_contacts q_told q_names q_pickTime q_dropTime q_makes q_period q_onTime q_joined q_netOf c_toldNets c_nets c_parts c_contacts c_told R hQ (f_X3_toldEnds_4 c_parts c_contacts c_told n) ih x1 t3 x3 hf
def f_X3_toldEnds (x1 : Int32) (c_parts : Nat → Int32) (c_contacts : Nat → Int32) (c_told : Nat → Int32) : Option (Int32) := (f_X3_toldEnds_4 c_parts c_contacts c_told FU x1 (0 : Int32) (0 : Int32))
set_option maxHeartbeats 4000000 in
set_option maxRecDepth 100000 in
theorem c_X3_toldEnds (G : Gx) (q_this : Nat) (q_parts : Nat) (q_contacts : Nat) (q_told : Nat) (q_names : Nat) (q_pickTime : Nat) (q_dropTime : Nat) (q_makes : Nat) (q_period : Nat) (q_onTime : Nat) (q_joined : Nat) (q_netOf : Nat) (c_toldNets : Int32) (c_nets : Int32) (c_parts : Nat → Int32) (c_contacts : Nat → Int32) (c_told : Nat → Int32) (x1 : Int32) (R : Int32) (hf : f_X3_toldEnds x1 c_parts c_contacts c_told = some R) : vM G yX3_toldEnds cX3_toldEnds 5 (some .int) 2 46 [.ref q_this, .int x1] (ws_X3_toldEnds G q_this q_parts q_contacts q_told q_names q_pickTime q_dropTime q_makes q_period q_onTime q_joined q_netOf c_toldNets c_nets c_parts c_contacts c_told) (some (.int R)) (ws_X3_toldEnds G q_this q_parts q_contacts q_told q_names q_pickTime q_dropTime q_makes q_period q_onTime q_joined q_netOf c_toldNets c_nets c_parts c_contacts c_told) := by
  refine vM_of (by decide +kernel) (Nat.le_of_ble_eq_true rfl) [(0, .ref q_this), (1, .int x1)] rfl (fun C hC hQ => ?_)
  have hC : vH G C cX3_toldEnds RX3 5 (some .int) { frames := 2, cells := 0, slots := 0, locals := 46 } := hC
  rw [f_X3_toldEnds] at hf
  refine g_iconst (pc := 0) (0 : Int32) hC dX3_toldEnds_0 rfl ?_
  refine g_istore_n (pc := 1) [(2, .int (0 : Int32)), (0, .ref q_this), (1, .int x1)] hC dX3_toldEnds_1 (Nat.le_of_ble_eq_true rfl) rfl ?_
  refine g_iconst (pc := 2) (0 : Int32) hC dX3_toldEnds_2 rfl ?_
  refine g_istore_n (pc := 3) [(3, .int (0 : Int32)), (2, .int (0 : Int32)), (0, .ref q_this), (1, .int x1)] hC dX3_toldEnds_3 (Nat.le_of_ble_eq_true rfl) rfl ?_
  refine g_sub (lv2 := [(0, .ref q_this), (1, .int x1), (2, .int (0 : Int32)), (3, .int (0 : Int32))]) [2, 3, 1, 0] rfl ?_
  exact w_X3_toldEnds_4 hC q_this q_parts q_contacts q_told q_names q_pickTime q_dropTime q_makes q_period q_onTime q_joined q_netOf c_toldNets c_nets c_parts c_contacts c_told R hQ FU x1 (0 : Int32) (0 : Int32) hf
/-! CoilBench$Netlist.hasContact(II)Z -/
abbrev ws_X3_hasContact (G : Gx) (q_this : Nat) (q_parts : Nat) (q_contacts : Nat) (q_names : Nat) (q_pickTime : Nat) (q_dropTime : Nat) (q_makes : Nat) (q_period : Nat) (q_onTime : Nat) (q_told : Nat) (q_joined : Nat) (q_netOf : Nat) (c_toldNets : Int32) (c_nets : Int32) (c_parts : Nat → Int32) (c_contacts : Nat → Int32) : va_W := [(q_this, eO 2 [.ref q_parts, .ref q_names, .ref q_pickTime, .ref q_dropTime, .ref q_contacts, .ref q_makes, .ref q_period, .ref q_onTime, .ref q_told, .ref q_joined, .ref q_netOf, .int c_toldNets, .int c_nets]), (q_parts, eI G 5 c_parts), (q_contacts, eI G 40 c_contacts)]
theorem mY_X3_hasContact : vY yX3_hasContact cX3_hasContact 3 (some .boolean) 2 := ⟨W4_69, W1_4, ⟨by decide +kernel, by decide +kernel⟩, by decide +kernel⟩
theorem mI_X3_hasContact : vYi yX3_hasContact := ⟨W4_67, W4_68⟩
def f_X3_hasContact (x1 : Int32) (x2 : Int32) (c_parts : Nat → Int32) (c_contacts : Nat → Int32) : Option (Int32) := (f_X3_has (0 : Int32) x1 c_parts).bind fun r1 => if r1 = 0 then (some (0 : Int32)) else (if x2 < (1 : Int32) then (some (0 : Int32)) else (if bad x1 40 = true then none else if (c_contacts x1.toNatClampNeg) < x2 then (some (0 : Int32)) else (some (1 : Int32))))
set_option maxHeartbeats 4000000 in
set_option maxRecDepth 100000 in
theorem c_X3_hasContact (G : Gx) (q_this : Nat) (q_parts : Nat) (q_contacts : Nat) (q_names : Nat) (q_pickTime : Nat) (q_dropTime : Nat) (q_makes : Nat) (q_period : Nat) (q_onTime : Nat) (q_told : Nat) (q_joined : Nat) (q_netOf : Nat) (c_toldNets : Int32) (c_nets : Int32) (c_parts : Nat → Int32) (c_contacts : Nat → Int32) (x1 : Int32) (x2 : Int32) (R : Int32) (hf : f_X3_hasContact x1 x2 c_parts c_contacts = some R) : vM G yX3_hasContact cX3_hasContact 3 (some .boolean) 1 22 [.ref q_this, .int x1, .int x2] (ws_X3_hasContact G q_this q_parts q_contacts q_names q_pickTime q_dropTime q_makes q_period q_onTime q_told q_joined q_netOf c_toldNets c_nets c_parts c_contacts) (some (.int R)) (ws_X3_hasContact G q_this q_parts q_contacts q_names q_pickTime q_dropTime q_makes q_period q_onTime q_told q_joined q_netOf c_toldNets c_nets c_parts c_contacts) := by
  refine vM_of (by decide +kernel) (Nat.le_of_ble_eq_true rfl) [(0, .ref q_this), (1, .int x1), (2, .int x2)] rfl (fun C hC hQ => ?_)
  have hC : vH G C cX3_hasContact RX3 3 (some .boolean) { frames := 1, cells := 0, slots := 0, locals := 22 } := hC
  rw [f_X3_hasContact] at hf
  refine g_aload_n (pc := 0) 0 hC dX3_hasContact_0 rfl ?_
  refine g_iconst (pc := 1) (0 : Int32) hC dX3_hasContact_1 rfl ?_
  refine g_iload_n (pc := 2) 1 hC dX3_hasContact_2 rfl ?_
  obtain ⟨r1, hr1, hf⟩ := bnd_s hf
  refine g_callVi (pc := 3) (st := []) (wc2 := (ws_X3_has G q_this q_parts q_names q_pickTime q_dropTime q_contacts q_makes q_period q_onTime q_told q_joined q_netOf c_toldNets c_nets c_parts)) (ws2 := (ws_X3_hasContact G q_this q_parts q_contacts q_names q_pickTime q_dropTime q_makes q_period q_onTime q_told q_joined q_netOf c_toldNets c_nets c_parts c_contacts)) [0, 1] 0 hC (c_X3_has G q_this q_parts q_names q_pickTime q_dropTime q_contacts q_makes q_period q_onTime q_told q_joined q_netOf c_toldNets c_nets c_parts (0 : Int32) x1 r1 hr1) mY_X3_has mI_X3_has W1_94 dX3_hasContact_3 rfl rfl rfl rfl rfl rfl rfl rfl rfl ⟨Nat.le_of_ble_eq_true rfl, Nat.le_of_ble_eq_true rfl⟩ ⟨Nat.le_refl 0, Nat.le_refl 0⟩ (Nat.le_of_ble_eq_true rfl) ?_
  refine g_if_eq (pc := 6) 28 hC dX3_hasContact_6 (by decide) (fun hb => ?_) (fun hb => ?_)
  · replace hf := ite_t hf hb
    refine g_iconst (pc := 28) (0 : Int32) hC dX3_hasContact_28 rfl ?_
    obtain rfl := Option.some.inj hf
    exact g_zret (pc := 29) hC rfl hQ dX3_hasContact_29
  · replace hf := ite_f hf hb
    refine g_iload_n (pc := 9) 2 hC dX3_hasContact_9 rfl ?_
    refine g_iconst (pc := 10) (1 : Int32) hC dX3_hasContact_10 rfl ?_
    refine g_icmp_lt (pc := 11) 28 hC dX3_hasContact_11 (by decide) (fun hb => ?_) (fun hb => ?_)
    · replace hf := ite_t hf hb
      refine g_iconst (pc := 28) (0 : Int32) hC dX3_hasContact_28 rfl ?_
      obtain rfl := Option.some.inj hf
      exact g_zret (pc := 29) hC rfl hQ dX3_hasContact_29
    · replace hf := ite_f hf hb
      refine g_iload_n (pc := 14) 2 hC dX3_hasContact_14 rfl ?_
      refine g_aload_n (pc := 15) 0 hC dX3_hasContact_15 rfl ?_
      refine g_get (pc := 16) 0 4 hC inX3 dX3_hasContact_16 W1_115 rfl rfl (Nat.le_of_ble_eq_true rfl) rfl rfl ?_
      refine g_iload_n (pc := 19) 1 hC dX3_hasContact_19 rfl ?_
      obtain ⟨h2, hf⟩ := bad_s hf
      refine g_iald (pc := 20) 2 hC dX3_hasContact_20 rfl h2 ?_
      refine g_icmp_gt (pc := 21) 28 hC dX3_hasContact_21 (by decide) (fun hb => ?_) (fun hb => ?_)
      · replace hf := ite_t hf hb
        refine g_iconst (pc := 28) (0 : Int32) hC dX3_hasContact_28 rfl ?_
        obtain rfl := Option.some.inj hf
        exact g_zret (pc := 29) hC rfl hQ dX3_hasContact_29
      · replace hf := ite_f hf hb
        refine g_iconst (pc := 24) (1 : Int32) hC dX3_hasContact_24 rfl ?_
        refine g_goto (pc := 25) 29 hC dX3_hasContact_25 (by decide) ?_
        obtain rfl := Option.some.inj hf
        exact g_zret (pc := 29) hC rfl hQ dX3_hasContact_29
