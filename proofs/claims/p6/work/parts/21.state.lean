/-! CoilBench$Wear.clear()V -/
abbrev ws_X9_clear (G : Gx) (q_this : Nat) (q_stuckAt : Nat) (q_dusty : Nat) (c_stuckAt : Nat → Int32) (c_dusty : Nat → Int32) : va_W := [(q_this, eO 8 [.ref q_stuckAt, .ref q_dusty]), (q_stuckAt, eI G 240 c_stuckAt), (q_dusty, eZ G 240 c_dusty)]
theorem mY_X9_clear : vY yX9_clear cX9_clear 2 (none) 0 := ⟨W1_222, W1_6, ⟨by decide +kernel, by decide +kernel⟩, by decide +kernel⟩
theorem mI_X9_clear : vYi yX9_clear := ⟨W1_220, W1_221⟩
def f_X9_clear_2 : Nat → (Int32) → (Nat → Int32) → (Nat → Int32) → Option ((Nat → Int32) × (Nat → Int32))
  | 0, _, _, _ => none
  | n + 1, x1, c_stuckAt, c_dusty => if (240 : Int32) ≤ x1 then (some (c_stuckAt, c_dusty)) else (if bad x1 240 = true then none else vlet (upd c_stuckAt x1.toNatClampNeg (-1 : Int32)) fun w2 => if bad x1 240 = true then none else vlet (upd c_dusty x1.toNatClampNeg (vp_nar .boolean (0 : Int32))) fun w4 => vlet (x1 + (1 : Int32)) fun t5 => (f_X9_clear_2 n t5 w2 w4))
set_option maxHeartbeats 4000000 in
set_option maxRecDepth 100000 in
theorem w_X9_clear_2 {G : Gx} {C : Cx} (hC : vH G C cX9_clear RX9 2 (none) { frames := 0, cells := 0, slots := 0, locals := 0 }) (q_this : Nat) (q_stuckAt : Nat) (q_dusty : Nat) (R : (Nat → Int32) × (Nat → Int32)) (hQ : vR G C 0 0 none (ws_X9_clear G q_this q_stuckAt q_dusty R.1 R.2)) : ∀ (n : Nat) (x1 : Int32) (c_stuckAt : Nat → Int32) (c_dusty : Nat → Int32), f_X9_clear_2 n x1 c_stuckAt c_dusty = some R → vG G C 0 0 2 [(0, .ref q_this), (1, .int x1)] [] (ws_X9_clear G q_this q_stuckAt q_dusty c_stuckAt c_dusty) := by
  intro n
  induction n with
  | zero => intro x1 c_stuckAt c_dusty hf; rw [f_X9_clear_2] at hf; cases hf
  | succ n ih =>
    intro x1 c_stuckAt c_dusty hf
    rw [f_X9_clear_2] at hf
    refine g_iload_n (pc := 2) 1 hC dX9_clear_2 rfl ?_
    refine g_aload_n (pc := 3) 0 hC dX9_clear_3 rfl ?_
    refine g_get (pc := 4) 0 0 hC inX9 dX9_clear_4 W1_223 rfl rfl (Nat.le_of_ble_eq_true rfl) rfl rfl ?_
    refine g_alen (pc := 7) (v := (240 : Int32)) 1 0 hC dX9_clear_7 rfl rfl rfl ?_
    refine g_icmp_ge (pc := 8) 31 hC dX9_clear_8 (by decide) (fun hb => ?_) (fun hb => ?_)
    · replace hf := ite_t hf hb
      obtain rfl := Option.some.inj hf
      exact g_vret (pc := 31) hC hQ dX9_clear_31
    · replace hf := ite_f hf hb
      refine g_aload_n (pc := 11) 0 hC dX9_clear_11 rfl ?_
      refine g_get (pc := 12) 0 0 hC inX9 dX9_clear_12 W1_223 rfl rfl (Nat.le_of_ble_eq_true rfl) rfl rfl ?_
      refine g_iload_n (pc := 15) 1 hC dX9_clear_15 rfl ?_
      refine g_iconst (pc := 16) (-1 : Int32) hC dX9_clear_16 rfl ?_
      obtain ⟨h1, hf⟩ := bad_s hf
      obtain ⟨w2, ew2, hf⟩ := vlet_s hf
      refine g_iast (pc := 17) (ws2 := (ws_X9_clear G q_this q_stuckAt q_dusty w2 c_dusty)) 1 hC dX9_clear_17 rfl h1 ew2 rfl ?_
      refine g_aload_n (pc := 18) 0 hC dX9_clear_18 rfl ?_
      refine g_get (pc := 19) 0 1 hC inX9 dX9_clear_19 W1_226 rfl rfl (Nat.le_of_ble_eq_true rfl) rfl rfl ?_
      refine g_iload_n (pc := 22) 1 hC dX9_clear_22 rfl ?_
      refine g_iconst (pc := 23) (0 : Int32) hC dX9_clear_23 rfl ?_
      obtain ⟨h3, hf⟩ := bad_s hf
      obtain ⟨w4, ew4, hf⟩ := vlet_s hf
      refine g_zast (pc := 24) (ws2 := (ws_X9_clear G q_this q_stuckAt q_dusty w2 w4)) 2 hC dX9_clear_24 rfl h3 ew4 rfl ?_
      obtain ⟨t5, et5, hf⟩ := vlet_s hf
      refine g_iinc (pc := 25) 1 [(1, .int t5), (0, .ref q_this)] hC dX9_clear_25 rfl (by rw [et5]; rfl) (Nat.le_of_ble_eq_true rfl) rfl ?_
      refine g_goto (pc := 28) 2 hC dX9_clear_28 (by decide) ?_
      refine g_sub (lv2 := [(0, .ref q_this), (1, .int t5)]) [1, 0] rfl ?_
      exact ih t5 w2 w4 hf
def f_X9_clear (c_stuckAt : Nat → Int32) (c_dusty : Nat → Int32) : Option ((Nat → Int32) × (Nat → Int32)) := (f_X9_clear_2 FU (0 : Int32) c_stuckAt c_dusty)
set_option maxHeartbeats 4000000 in
set_option maxRecDepth 100000 in
theorem c_X9_clear (G : Gx) (q_this : Nat) (q_stuckAt : Nat) (q_dusty : Nat) (c_stuckAt : Nat → Int32) (c_dusty : Nat → Int32) (R : (Nat → Int32) × (Nat → Int32)) (hf : f_X9_clear c_stuckAt c_dusty = some R) : vM G yX9_clear cX9_clear 2 (none) 0 0 [.ref q_this] (ws_X9_clear G q_this q_stuckAt q_dusty c_stuckAt c_dusty) none (ws_X9_clear G q_this q_stuckAt q_dusty R.1 R.2) := by
  refine vM_of (by decide +kernel) (Nat.le_of_ble_eq_true rfl) [(0, .ref q_this)] rfl (fun C hC hQ => ?_)
  have hC : vH G C cX9_clear RX9 2 (none) { frames := 0, cells := 0, slots := 0, locals := 0 } := hC
  rw [f_X9_clear] at hf
  refine g_iconst (pc := 0) (0 : Int32) hC dX9_clear_0 rfl ?_
  refine g_istore_n (pc := 1) [(1, .int (0 : Int32)), (0, .ref q_this)] hC dX9_clear_1 (Nat.le_of_ble_eq_true rfl) rfl ?_
  refine g_sub (lv2 := [(0, .ref q_this), (1, .int (0 : Int32))]) [1, 0] rfl ?_
  exact w_X9_clear_2 hC q_this q_stuckAt q_dusty R hQ FU (0 : Int32) c_stuckAt c_dusty hf
/-! CoilBench$State.clear()V -/
abbrev ws_X6_clear (G : Gx) (q_this : Nat) (q_counts : Nat) (q_positions : Nat) (c_picked : Int64) (c_keys : Int32) (c_time : Int32) (c_counts : Nat → Int32) (c_positions : Nat → Int32) : va_W := [(q_this, eO 5 [.long c_picked, .ref q_counts, .ref q_positions, .int c_keys, .int c_time]), (q_counts, eI G 40 c_counts), (q_positions, eI G 40 c_positions)]
theorem mY_X6_clear : vY yX6_clear cX6_clear 2 (none) 0 := ⟨W3_127, W1_8, ⟨by decide +kernel, by decide +kernel⟩, by decide +kernel⟩
theorem mI_X6_clear : vYi yX6_clear := ⟨W3_125, W3_126⟩
def f_X6_clear_17 : Nat → (Int32) → (Int64) → (Int32) → (Int32) → (Nat → Int32) → (Nat → Int32) → Option (Int64 × Int32 × Int32 × (Nat → Int32) × (Nat → Int32))
  | 0, _, _, _, _, _, _ => none
  | n + 1, x1, c_picked, c_keys, c_time, c_counts, c_positions => if (40 : Int32) ≤ x1 then (some (c_picked, c_keys, c_time, c_counts, c_positions)) else (if bad x1 40 = true then none else vlet (upd c_counts x1.toNatClampNeg (0 : Int32)) fun w2 => if bad x1 40 = true then none else vlet (upd c_positions x1.toNatClampNeg (0 : Int32)) fun w4 => vlet (x1 + (1 : Int32)) fun t5 => (f_X6_clear_17 n t5 c_picked c_keys c_time w2 w4))
set_option maxHeartbeats 4000000 in
set_option maxRecDepth 100000 in
theorem w_X6_clear_17 {G : Gx} {C : Cx} (hC : vH G C cX6_clear RX6 2 (none) { frames := 0, cells := 0, slots := 0, locals := 0 }) (q_this : Nat) (q_counts : Nat) (q_positions : Nat) (R : Int64 × Int32 × Int32 × (Nat → Int32) × (Nat → Int32)) (hQ : vR G C 0 0 none (ws_X6_clear G q_this q_counts q_positions R.1 R.2.1 R.2.2.1 R.2.2.2.1 R.2.2.2.2)) : ∀ (n : Nat) (x1 : Int32) (c_picked : Int64) (c_keys : Int32) (c_time : Int32) (c_counts : Nat → Int32) (c_positions : Nat → Int32), f_X6_clear_17 n x1 c_picked c_keys c_time c_counts c_positions = some R → vG G C 0 0 17 [(0, .ref q_this), (1, .int x1)] [] (ws_X6_clear G q_this q_counts q_positions c_picked c_keys c_time c_counts c_positions) := by
  intro n
  induction n with
  | zero => intro x1 c_picked c_keys c_time c_counts c_positions hf; rw [f_X6_clear_17] at hf; cases hf
  | succ n ih =>
    intro x1 c_picked c_keys c_time c_counts c_positions hf
    rw [f_X6_clear_17] at hf
    refine g_iload_n (pc := 17) 1 hC dX6_clear_17 rfl ?_
    refine g_bipush (pc := 18) (40 : Int32) hC dX6_clear_18 rfl ?_
    refine g_icmp_ge (pc := 20) 43 hC dX6_clear_20 (by decide) (fun hb => ?_) (fun hb => ?_)
    · replace hf := ite_t hf hb
      obtain rfl := Option.some.inj hf
      exact g_vret (pc := 43) hC hQ dX6_clear_43
    · replace hf := ite_f hf hb
      refine g_aload_n (pc := 23) 0 hC dX6_clear_23 rfl ?_
      refine g_get (pc := 24) 0 1 hC inX6 dX6_clear_24 W2_45 rfl rfl (Nat.le_of_ble_eq_true rfl) rfl rfl ?_
      refine g_iload_n (pc := 27) 1 hC dX6_clear_27 rfl ?_
      refine g_iconst (pc := 28) (0 : Int32) hC dX6_clear_28 rfl ?_
      obtain ⟨h1, hf⟩ := bad_s hf
      obtain ⟨w2, ew2, hf⟩ := vlet_s hf
      refine g_iast (pc := 29) (ws2 := (ws_X6_clear G q_this q_counts q_positions c_picked c_keys c_time w2 c_positions)) 1 hC dX6_clear_29 rfl h1 ew2 rfl ?_
      refine g_aload_n (pc := 30) 0 hC dX6_clear_30 rfl ?_
      refine g_get (pc := 31) 0 2 hC inX6 dX6_clear_31 W2_48 rfl rfl (Nat.le_of_ble_eq_true rfl) rfl rfl ?_
      refine g_iload_n (pc := 34) 1 hC dX6_clear_34 rfl ?_
      refine g_iconst (pc := 35) (0 : Int32) hC dX6_clear_35 rfl ?_
      obtain ⟨h3, hf⟩ := bad_s hf
      obtain ⟨w4, ew4, hf⟩ := vlet_s hf
      refine g_iast (pc := 36) (ws2 := (ws_X6_clear G q_this q_counts q_positions c_picked c_keys c_time w2 w4)) 2 hC dX6_clear_36 rfl h3 ew4 rfl ?_
      obtain ⟨t5, et5, hf⟩ := vlet_s hf
      refine g_iinc (pc := 37) 1 [(1, .int t5), (0, .ref q_this)] hC dX6_clear_37 rfl (by rw [et5]; rfl) (Nat.le_of_ble_eq_true rfl) rfl ?_
      refine g_goto (pc := 40) 17 hC dX6_clear_40 (by decide) ?_
      refine g_sub (lv2 := [(0, .ref q_this), (1, .int t5)]) [1, 0] rfl ?_
      exact ih t5 c_picked c_keys c_time w2 w4 hf
def f_X6_clear (c_picked : Int64) (c_keys : Int32) (c_time : Int32) (c_counts : Nat → Int32) (c_positions : Nat → Int32) : Option (Int64 × Int32 × Int32 × (Nat → Int32) × (Nat → Int32)) := (f_X6_clear_17 FU (0 : Int32) (0 : Int64) (0 : Int32) (0 : Int32) c_counts c_positions)
set_option maxHeartbeats 4000000 in
set_option maxRecDepth 100000 in
theorem c_X6_clear (G : Gx) (q_this : Nat) (q_counts : Nat) (q_positions : Nat) (c_picked : Int64) (c_keys : Int32) (c_time : Int32) (c_counts : Nat → Int32) (c_positions : Nat → Int32) (R : Int64 × Int32 × Int32 × (Nat → Int32) × (Nat → Int32)) (hf : f_X6_clear c_picked c_keys c_time c_counts c_positions = some R) : vM G yX6_clear cX6_clear 2 (none) 0 0 [.ref q_this] (ws_X6_clear G q_this q_counts q_positions c_picked c_keys c_time c_counts c_positions) none (ws_X6_clear G q_this q_counts q_positions R.1 R.2.1 R.2.2.1 R.2.2.2.1 R.2.2.2.2) := by
  refine vM_of (by decide +kernel) (Nat.le_of_ble_eq_true rfl) [(0, .ref q_this)] rfl (fun C hC hQ => ?_)
  have hC : vH G C cX6_clear RX6 2 (none) { frames := 0, cells := 0, slots := 0, locals := 0 } := hC
  rw [f_X6_clear] at hf
  refine g_aload_n (pc := 0) 0 hC dX6_clear_0 rfl ?_
  refine g_lconst (pc := 1) (0 : Int64) hC dX6_clear_1 rfl ?_
  refine g_put (pc := 2) (ws2 := (ws_X6_clear G q_this q_counts q_positions (0 : Int64) c_keys c_time c_counts c_positions)) 0 0 hC inX6 tyX6_ok nmX6 dX6_clear_2 W2_43 rfl rfl (Nat.le_of_ble_eq_true rfl) rfl rfl rfl rfl rfl (Nat.le_of_ble_eq_true rfl) rfl ?_
  refine g_aload_n (pc := 5) 0 hC dX6_clear_5 rfl ?_
  refine g_iconst (pc := 6) (0 : Int32) hC dX6_clear_6 rfl ?_
  refine g_put (pc := 7) (ws2 := (ws_X6_clear G q_this q_counts q_positions (0 : Int64) (0 : Int32) c_time c_counts c_positions)) 0 3 hC inX6 tyX6_ok nmX6 dX6_clear_7 W2_51 rfl rfl (Nat.le_of_ble_eq_true rfl) rfl rfl rfl rfl rfl (Nat.le_of_ble_eq_true rfl) rfl ?_
  refine g_aload_n (pc := 10) 0 hC dX6_clear_10 rfl ?_
  refine g_iconst (pc := 11) (0 : Int32) hC dX6_clear_11 rfl ?_
  refine g_put (pc := 12) (ws2 := (ws_X6_clear G q_this q_counts q_positions (0 : Int64) (0 : Int32) (0 : Int32) c_counts c_positions)) 0 4 hC inX6 tyX6_ok nmX6 dX6_clear_12 W2_53 rfl rfl (Nat.le_of_ble_eq_true rfl) rfl rfl rfl rfl rfl (Nat.le_of_ble_eq_true rfl) rfl ?_
  refine g_iconst (pc := 15) (0 : Int32) hC dX6_clear_15 rfl ?_
  refine g_istore_n (pc := 16) [(1, .int (0 : Int32)), (0, .ref q_this)] hC dX6_clear_16 (Nat.le_of_ble_eq_true rfl) rfl ?_
  refine g_sub (lv2 := [(0, .ref q_this), (1, .int (0 : Int32))]) [1, 0] rfl ?_
  exact w_X6_clear_17 hC q_this q_counts q_positions R hQ FU (0 : Int32) (0 : Int64) (0 : Int32) (0 : Int32) c_counts c_positions hf
/-! CoilBench$Ways.begin(I)V -/
abbrev ws_X8_begin (G : Gx) (q_this : Nat) (q_firstLink : Nat) (q_powers : Nat) (q_nextLink : Nat) (q_leadsTo : Nat) (q_lets : Nat) (q_reached : Nat) (c_nets : Int32) (c_links : Int32) (c_firstLink : Nat → Int32) (c_powers : Nat → Int32) : va_W := [(q_this, eO 7 [.int c_nets, .int c_links, .ref q_firstLink, .ref q_nextLink, .ref q_leadsTo, .ref q_lets, .ref q_powers, .ref q_reached]), (q_firstLink, eI G 954 c_firstLink), (q_powers, eI G 954 c_powers)]
theorem mY_X8_begin : vY yX8_begin cX8_begin 3 (none) 1 := ⟨W3_183, W1_7, ⟨by decide +kernel, by decide +kernel⟩, by decide +kernel⟩
theorem mI_X8_begin : vYi yX8_begin := ⟨W3_181, W3_182⟩
def f_X8_begin_22 : Nat → (Int32) → (Int32) → (Int32) → (Nat → Int32) → (Nat → Int32) → Option (Int32 × Int32 × (Nat → Int32) × (Nat → Int32))
  | 0, _, _, _, _, _ => none
  | n + 1, x2, c_nets, c_links, c_firstLink, c_powers => if c_nets ≤ x2 then (some (c_nets, c_links, c_firstLink, c_powers)) else (if bad x2 954 = true then none else vlet (upd c_firstLink x2.toNatClampNeg (-1 : Int32)) fun w2 => if bad x2 954 = true then none else vlet (upd c_powers x2.toNatClampNeg (0 : Int32)) fun w4 => vlet (x2 + (1 : Int32)) fun t5 => (f_X8_begin_22 n t5 c_nets c_links w2 w4))
set_option maxHeartbeats 4000000 in
set_option maxRecDepth 100000 in
theorem w_X8_begin_22 {G : Gx} {C : Cx} (hC : vH G C cX8_begin RX8 3 (none) { frames := 1, cells := 0, slots := 0, locals := 21 }) (q_this : Nat) (q_firstLink : Nat) (q_powers : Nat) (q_nextLink : Nat) (q_leadsTo : Nat) (q_lets : Nat) (q_reached : Nat) (R : Int32 × Int32 × (Nat → Int32) × (Nat → Int32)) (hQ : vR G C 0 0 none (ws_X8_begin G q_this q_firstLink q_powers q_nextLink q_leadsTo q_lets q_reached R.1 R.2.1 R.2.2.1 R.2.2.2)) : ∀ (n : Nat) (x2 : Int32) (c_nets : Int32) (c_links : Int32) (c_firstLink : Nat → Int32) (c_powers : Nat → Int32), f_X8_begin_22 n x2 c_nets c_links c_firstLink c_powers = some R → vG G C 0 0 22 [(0, .ref q_this), (2, .int x2)] [] (ws_X8_begin G q_this q_firstLink q_powers q_nextLink q_leadsTo q_lets q_reached c_nets c_links c_firstLink c_powers) := by
  intro n
  induction n with
  | zero => intro x2 c_nets c_links c_firstLink c_powers hf; rw [f_X8_begin_22] at hf; cases hf
  | succ n ih =>
    intro x2 c_nets c_links c_firstLink c_powers hf
    rw [f_X8_begin_22] at hf
    refine g_iload_n (pc := 22) 1 hC dX8_begin_22 rfl ?_
    refine g_aload_n (pc := 23) 0 hC dX8_begin_23 rfl ?_
    refine g_get (pc := 24) 0 0 hC inX8 dX8_begin_24 W2_0 rfl rfl (Nat.le_of_ble_eq_true rfl) rfl rfl ?_
    refine g_icmp_ge (pc := 27) 50 hC dX8_begin_27 (by decide) (fun hb => ?_) (fun hb => ?_)
    · replace hf := ite_t hf hb
      obtain rfl := Option.some.inj hf
      exact g_vret (pc := 50) hC hQ dX8_begin_50
    · replace hf := ite_f hf hb
      refine g_aload_n (pc := 30) 0 hC dX8_begin_30 rfl ?_
      refine g_get (pc := 31) 0 2 hC inX8 dX8_begin_31 W2_2 rfl rfl (Nat.le_of_ble_eq_true rfl) rfl rfl ?_
      refine g_iload_n (pc := 34) 1 hC dX8_begin_34 rfl ?_
      refine g_iconst (pc := 35) (-1 : Int32) hC dX8_begin_35 rfl ?_
      obtain ⟨h1, hf⟩ := bad_s hf
      obtain ⟨w2, ew2, hf⟩ := vlet_s hf
      refine g_iast (pc := 36) (ws2 := (ws_X8_begin G q_this q_firstLink q_powers q_nextLink q_leadsTo q_lets q_reached c_nets c_links w2 c_powers)) 1 hC dX8_begin_36 rfl h1 ew2 rfl ?_
      refine g_aload_n (pc := 37) 0 hC dX8_begin_37 rfl ?_
      refine g_get (pc := 38) 0 6 hC inX8 dX8_begin_38 W2_6 rfl rfl (Nat.le_of_ble_eq_true rfl) rfl rfl ?_
      refine g_iload_n (pc := 41) 1 hC dX8_begin_41 rfl ?_
      refine g_iconst (pc := 42) (0 : Int32) hC dX8_begin_42 rfl ?_
      obtain ⟨h3, hf⟩ := bad_s hf
      obtain ⟨w4, ew4, hf⟩ := vlet_s hf
      refine g_iast (pc := 43) (ws2 := (ws_X8_begin G q_this q_firstLink q_powers q_nextLink q_leadsTo q_lets q_reached c_nets c_links w2 w4)) 2 hC dX8_begin_43 rfl h3 ew4 rfl ?_
      obtain ⟨t5, et5, hf⟩ := vlet_s hf
      refine g_iinc (pc := 44) 1 [(2, .int t5), (0, .ref q_this)] hC dX8_begin_44 rfl (by rw [et5]; rfl) (Nat.le_of_ble_eq_true rfl) rfl ?_
      refine g_goto (pc := 47) 22 hC dX8_begin_47 (by decide) ?_
      refine g_sub (lv2 := [(0, .ref q_this), (2, .int t5)]) [1, 0] rfl ?_
      exact ih t5 c_nets c_links w2 w4 hf
def f_X8_begin (x1 : Int32) (c_nets : Int32) (c_links : Int32) (c_firstLink : Nat → Int32) (c_powers : Nat → Int32) : Option (Int32 × Int32 × (Nat → Int32) × (Nat → Int32)) := vlet ((xmax (0 : Int32) (xmin x1 (954 : Int32)))) fun t1 => (f_X8_begin_22 FU (0 : Int32) t1 (0 : Int32) c_firstLink c_powers)
set_option maxHeartbeats 4000000 in
set_option maxRecDepth 100000 in
theorem c_X8_begin (G : Gx) (q_this : Nat) (q_firstLink : Nat) (q_powers : Nat) (q_nextLink : Nat) (q_leadsTo : Nat) (q_lets : Nat) (q_reached : Nat) (c_nets : Int32) (c_links : Int32) (c_firstLink : Nat → Int32) (c_powers : Nat → Int32) (x1 : Int32) (R : Int32 × Int32 × (Nat → Int32) × (Nat → Int32)) (hf : f_X8_begin x1 c_nets c_links c_firstLink c_powers = some R) : vM G yX8_begin cX8_begin 3 (none) 1 21 [.ref q_this, .int x1] (ws_X8_begin G q_this q_firstLink q_powers q_nextLink q_leadsTo q_lets q_reached c_nets c_links c_firstLink c_powers) none (ws_X8_begin G q_this q_firstLink q_powers q_nextLink q_leadsTo q_lets q_reached R.1 R.2.1 R.2.2.1 R.2.2.2) := by
  refine vM_of (by decide +kernel) (Nat.le_of_ble_eq_true rfl) [(0, .ref q_this), (1, .int x1)] rfl (fun C hC hQ => ?_)
  have hC : vH G C cX8_begin RX8 3 (none) { frames := 1, cells := 0, slots := 0, locals := 21 } := hC
  rw [f_X8_begin] at hf
  refine g_aload_n (pc := 0) 0 hC dX8_begin_0 rfl ?_
  refine g_iconst (pc := 1) (0 : Int32) hC dX8_begin_1 rfl ?_
  refine g_iload_n (pc := 2) 1 hC dX8_begin_2 rfl ?_
  refine g_sipush (pc := 3) (954 : Int32) hC dX8_begin_3 rfl ?_
  refine g_mmin (pc := 6) hC W3_184 W2_156 W2_157 W1_12 dX8_begin_6 (Nat.le_of_ble_eq_true rfl) (Nat.le_of_ble_eq_true rfl) ⟨Nat.le_of_ble_eq_true rfl, Nat.le_of_ble_eq_true rfl⟩ ?_
  refine g_mmax (pc := 9) hC W3_185 W2_159 W2_160 W1_12 dX8_begin_9 (Nat.le_of_ble_eq_true rfl) (Nat.le_of_ble_eq_true rfl) ⟨Nat.le_of_ble_eq_true rfl, Nat.le_of_ble_eq_true rfl⟩ ?_
  obtain ⟨t1, et1, hf⟩ := vlet_s hf
  refine g_nmi et1 ?_
  refine g_put (pc := 12) (ws2 := (ws_X8_begin G q_this q_firstLink q_powers q_nextLink q_leadsTo q_lets q_reached t1 c_links c_firstLink c_powers)) 0 0 hC inX8 tyX8_ok nmX8 dX8_begin_12 W2_0 rfl rfl (Nat.le_of_ble_eq_true rfl) rfl rfl rfl rfl rfl (Nat.le_of_ble_eq_true rfl) rfl ?_
  refine g_aload_n (pc := 15) 0 hC dX8_begin_15 rfl ?_
  refine g_iconst (pc := 16) (0 : Int32) hC dX8_begin_16 rfl ?_
  refine g_put (pc := 17) (ws2 := (ws_X8_begin G q_this q_firstLink q_powers q_nextLink q_leadsTo q_lets q_reached t1 (0 : Int32) c_firstLink c_powers)) 0 1 hC inX8 tyX8_ok nmX8 dX8_begin_17 W2_1 rfl rfl (Nat.le_of_ble_eq_true rfl) rfl rfl rfl rfl rfl (Nat.le_of_ble_eq_true rfl) rfl ?_
  refine g_iconst (pc := 20) (0 : Int32) hC dX8_begin_20 rfl ?_
  refine g_istore_n (pc := 21) [(2, .int (0 : Int32)), (0, .ref q_this), (1, .int x1)] hC dX8_begin_21 (Nat.le_of_ble_eq_true rfl) rfl ?_
  refine g_sub (lv2 := [(0, .ref q_this), (2, .int (0 : Int32))]) [1, 0] rfl ?_
  exact w_X8_begin_22 hC q_this q_firstLink q_powers q_nextLink q_leadsTo q_lets q_reached R hQ FU (0 : Int32) t1 (0 : Int32) c_firstLink c_powers hf
/-! CoilBench$Ways.join(IIII)V -/
abbrev ws_X8_join (G : Gx) (q_this : Nat) (q_firstLink : Nat) (q_nextLink : Nat) (q_leadsTo : Nat) (q_lets : Nat) (q_powers : Nat) (q_reached : Nat) (c_nets : Int32) (c_links : Int32) (c_firstLink : Nat → Int32) (c_nextLink : Nat → Int32) (c_leadsTo : Nat → Int32) (c_lets : Nat → Int32) : va_W := [(q_this, eO 7 [.int c_nets, .int c_links, .ref q_firstLink, .ref q_nextLink, .ref q_leadsTo, .ref q_lets, .ref q_powers, .ref q_reached]), (q_firstLink, eI G 954 c_firstLink), (q_nextLink, eI G 1200 c_nextLink), (q_leadsTo, eI G 1200 c_leadsTo), (q_lets, eI G 1200 c_lets)]
theorem mY_X8_join : vY yX8_join cX8_join 5 (none) 4 := ⟨W3_201, W1_7, ⟨by decide +kernel, by decide +kernel⟩, by decide +kernel⟩
theorem mI_X8_join : vYi yX8_join := ⟨W3_199, W3_200⟩
def f_X8_join (x1 : Int32) (x2 : Int32) (x3 : Int32) (x4 : Int32) (c_nets : Int32) (c_links : Int32) (c_firstLink : Nat → Int32) (c_nextLink : Nat → Int32) (c_leadsTo : Nat → Int32) (c_lets : Nat → Int32) : Option (Int32 × (Nat → Int32) × (Nat → Int32) × (Nat → Int32) × (Nat → Int32)) := if x1 < 0 then (some (c_links, c_firstLink, c_nextLink, c_leadsTo, c_lets)) else (if c_nets ≤ x1 then (some (c_links, c_firstLink, c_nextLink, c_leadsTo, c_lets)) else (if x2 < 0 then (some (c_links, c_firstLink, c_nextLink, c_leadsTo, c_lets)) else (if c_nets ≤ x2 then (some (c_links, c_firstLink, c_nextLink, c_leadsTo, c_lets)) else (if x1 = x2 then (some (c_links, c_firstLink, c_nextLink, c_leadsTo, c_lets)) else (if c_links ≤ (1198 : Int32) then (if bad c_links 1200 = true then none else vlet (upd c_leadsTo c_links.toNatClampNeg x2) fun w2 => if bad c_links 1200 = true then none else vlet (upd c_lets c_links.toNatClampNeg x3) fun w4 => if bad x1 954 = true then none else vlet ((c_firstLink x1.toNatClampNeg)) fun t6 => if bad c_links 1200 = true then none else vlet (upd c_nextLink c_links.toNatClampNeg t6) fun w8 => if bad x1 954 = true then none else vlet (upd c_firstLink x1.toNatClampNeg c_links) fun w10 => if bad (c_links + (1 : Int32)) 1200 = true then none else vlet (upd w2 (c_links + (1 : Int32)).toNatClampNeg x1) fun w12 => if bad (c_links + (1 : Int32)) 1200 = true then none else vlet (upd w4 (c_links + (1 : Int32)).toNatClampNeg x4) fun w14 => if bad x2 954 = true then none else vlet ((w10 x2.toNatClampNeg)) fun t16 => if bad (c_links + (1 : Int32)) 1200 = true then none else vlet (upd w8 (c_links + (1 : Int32)).toNatClampNeg t16) fun w18 => vlet ((c_links + (1 : Int32))) fun t19 => if bad x2 954 = true then none else vlet (upd w10 x2.toNatClampNeg t19) fun w21 => vlet ((c_links + (2 : Int32))) fun t22 => some (t22, w21, w18, w12, w14)) else (some (c_links, c_firstLink, c_nextLink, c_leadsTo, c_lets)))))))
set_option maxHeartbeats 4000000 in
set_option maxRecDepth 100000 in
theorem c_X8_join (G : Gx) (q_this : Nat) (q_firstLink : Nat) (q_nextLink : Nat) (q_leadsTo : Nat) (q_lets : Nat) (q_powers : Nat) (q_reached : Nat) (c_nets : Int32) (c_links : Int32) (c_firstLink : Nat → Int32) (c_nextLink : Nat → Int32) (c_leadsTo : Nat → Int32) (c_lets : Nat → Int32) (x1 : Int32) (x2 : Int32) (x3 : Int32) (x4 : Int32) (R : Int32 × (Nat → Int32) × (Nat → Int32) × (Nat → Int32) × (Nat → Int32)) (hf : f_X8_join x1 x2 x3 x4 c_nets c_links c_firstLink c_nextLink c_leadsTo c_lets = some R) : vM G yX8_join cX8_join 5 (none) 0 0 [.ref q_this, .int x1, .int x2, .int x3, .int x4] (ws_X8_join G q_this q_firstLink q_nextLink q_leadsTo q_lets q_powers q_reached c_nets c_links c_firstLink c_nextLink c_leadsTo c_lets) none (ws_X8_join G q_this q_firstLink q_nextLink q_leadsTo q_lets q_powers q_reached c_nets R.1 R.2.1 R.2.2.1 R.2.2.2.1 R.2.2.2.2) := by
  refine vM_of (by decide +kernel) (Nat.le_of_ble_eq_true rfl) [(0, .ref q_this), (1, .int x1), (2, .int x2), (3, .int x3), (4, .int x4)] rfl (fun C hC hQ => ?_)
  have hC : vH G C cX8_join RX8 5 (none) { frames := 0, cells := 0, slots := 0, locals := 0 } := hC
  rw [f_X8_join] at hf
  refine g_iload_n (pc := 0) 1 hC dX8_join_0 rfl ?_
  refine g_if_lt (pc := 1) 39 hC dX8_join_1 (by decide) (fun hb => ?_) (fun hb => ?_)
  · replace hf := ite_t hf hb
    obtain rfl := Option.some.inj hf
    exact g_vret (pc := 39) hC hQ dX8_join_39
  · replace hf := ite_f hf hb
    refine g_iload_n (pc := 4) 1 hC dX8_join_4 rfl ?_
    refine g_aload_n (pc := 5) 0 hC dX8_join_5 rfl ?_
    refine g_get (pc := 6) 0 0 hC inX8 dX8_join_6 W2_0 rfl rfl (Nat.le_of_ble_eq_true rfl) rfl rfl ?_
    refine g_icmp_ge (pc := 9) 39 hC dX8_join_9 (by decide) (fun hb => ?_) (fun hb => ?_)
    · replace hf := ite_t hf hb
      obtain rfl := Option.some.inj hf
      exact g_vret (pc := 39) hC hQ dX8_join_39
    · replace hf := ite_f hf hb
      refine g_iload_n (pc := 12) 2 hC dX8_join_12 rfl ?_
      refine g_if_lt (pc := 13) 39 hC dX8_join_13 (by decide) (fun hb => ?_) (fun hb => ?_)
      · replace hf := ite_t hf hb
        obtain rfl := Option.some.inj hf
        exact g_vret (pc := 39) hC hQ dX8_join_39
      · replace hf := ite_f hf hb
        refine g_iload_n (pc := 16) 2 hC dX8_join_16 rfl ?_
        refine g_aload_n (pc := 17) 0 hC dX8_join_17 rfl ?_
        refine g_get (pc := 18) 0 0 hC inX8 dX8_join_18 W2_0 rfl rfl (Nat.le_of_ble_eq_true rfl) rfl rfl ?_
        refine g_icmp_ge (pc := 21) 39 hC dX8_join_21 (by decide) (fun hb => ?_) (fun hb => ?_)
        · replace hf := ite_t hf hb
          obtain rfl := Option.some.inj hf
          exact g_vret (pc := 39) hC hQ dX8_join_39
        · replace hf := ite_f hf hb
          refine g_iload_n (pc := 24) 1 hC dX8_join_24 rfl ?_
          refine g_iload_n (pc := 25) 2 hC dX8_join_25 rfl ?_
          refine g_icmp_eq (pc := 26) 39 hC dX8_join_26 (by decide) (fun hb => ?_) (fun hb => ?_)
          · replace hf := ite_t hf hb
            obtain rfl := Option.some.inj hf
            exact g_vret (pc := 39) hC hQ dX8_join_39
          · replace hf := ite_f hf hb
            refine g_aload_n (pc := 29) 0 hC dX8_join_29 rfl ?_
            refine g_get (pc := 30) 0 1 hC inX8 dX8_join_30 W2_1 rfl rfl (Nat.le_of_ble_eq_true rfl) rfl rfl ?_
            refine g_sipush (pc := 33) (1198 : Int32) hC dX8_join_33 rfl ?_
            refine g_icmp_le (pc := 36) 40 hC dX8_join_36 (by decide) (fun hb => ?_) (fun hb => ?_)
            · replace hf := ite_t hf hb
              refine g_aload_n (pc := 40) 0 hC dX8_join_40 rfl ?_
              refine g_get (pc := 41) 0 4 hC inX8 dX8_join_41 W2_4 rfl rfl (Nat.le_of_ble_eq_true rfl) rfl rfl ?_
              refine g_aload_n (pc := 44) 0 hC dX8_join_44 rfl ?_
              refine g_get (pc := 45) 0 1 hC inX8 dX8_join_45 W2_1 rfl rfl (Nat.le_of_ble_eq_true rfl) rfl rfl ?_
              refine g_iload_n (pc := 48) 2 hC dX8_join_48 rfl ?_
              obtain ⟨h1, hf⟩ := bad_s hf
              obtain ⟨w2, ew2, hf⟩ := vlet_s hf
              refine g_iast (pc := 49) (ws2 := (ws_X8_join G q_this q_firstLink q_nextLink q_leadsTo q_lets q_powers q_reached c_nets c_links c_firstLink c_nextLink w2 c_lets)) 3 hC dX8_join_49 rfl h1 ew2 rfl ?_
              refine g_aload_n (pc := 50) 0 hC dX8_join_50 rfl ?_
              refine g_get (pc := 51) 0 5 hC inX8 dX8_join_51 W2_5 rfl rfl (Nat.le_of_ble_eq_true rfl) rfl rfl ?_
              refine g_aload_n (pc := 54) 0 hC dX8_join_54 rfl ?_
              refine g_get (pc := 55) 0 1 hC inX8 dX8_join_55 W2_1 rfl rfl (Nat.le_of_ble_eq_true rfl) rfl rfl ?_
              refine g_iload_n (pc := 58) 3 hC dX8_join_58 rfl ?_
              obtain ⟨h3, hf⟩ := bad_s hf
              obtain ⟨w4, ew4, hf⟩ := vlet_s hf
              refine g_iast (pc := 59) (ws2 := (ws_X8_join G q_this q_firstLink q_nextLink q_leadsTo q_lets q_powers q_reached c_nets c_links c_firstLink c_nextLink w2 w4)) 4 hC dX8_join_59 rfl h3 ew4 rfl ?_
              refine g_aload_n (pc := 60) 0 hC dX8_join_60 rfl ?_
              refine g_get (pc := 61) 0 3 hC inX8 dX8_join_61 W2_3 rfl rfl (Nat.le_of_ble_eq_true rfl) rfl rfl ?_
              refine g_aload_n (pc := 64) 0 hC dX8_join_64 rfl ?_
              refine g_get (pc := 65) 0 1 hC inX8 dX8_join_65 W2_1 rfl rfl (Nat.le_of_ble_eq_true rfl) rfl rfl ?_
              refine g_aload_n (pc := 68) 0 hC dX8_join_68 rfl ?_
              refine g_get (pc := 69) 0 2 hC inX8 dX8_join_69 W2_2 rfl rfl (Nat.le_of_ble_eq_true rfl) rfl rfl ?_
              refine g_iload_n (pc := 72) 1 hC dX8_join_72 rfl ?_
              obtain ⟨h5, hf⟩ := bad_s hf
              refine g_iald (pc := 73) 1 hC dX8_join_73 rfl h5 ?_
              obtain ⟨t6, et6, hf⟩ := vlet_s hf
              refine g_nmi et6 ?_
              obtain ⟨h7, hf⟩ := bad_s hf
              obtain ⟨w8, ew8, hf⟩ := vlet_s hf
              refine g_iast (pc := 74) (ws2 := (ws_X8_join G q_this q_firstLink q_nextLink q_leadsTo q_lets q_powers q_reached c_nets c_links c_firstLink w8 w2 w4)) 2 hC dX8_join_74 rfl h7 ew8 rfl ?_
              refine g_aload_n (pc := 75) 0 hC dX8_join_75 rfl ?_
              refine g_get (pc := 76) 0 2 hC inX8 dX8_join_76 W2_2 rfl rfl (Nat.le_of_ble_eq_true rfl) rfl rfl ?_
              refine g_iload_n (pc := 79) 1 hC dX8_join_79 rfl ?_
              refine g_aload_n (pc := 80) 0 hC dX8_join_80 rfl ?_
              refine g_get (pc := 81) 0 1 hC inX8 dX8_join_81 W2_1 rfl rfl (Nat.le_of_ble_eq_true rfl) rfl rfl ?_
              obtain ⟨h9, hf⟩ := bad_s hf
              obtain ⟨w10, ew10, hf⟩ := vlet_s hf
              refine g_iast (pc := 84) (ws2 := (ws_X8_join G q_this q_firstLink q_nextLink q_leadsTo q_lets q_powers q_reached c_nets c_links w10 w8 w2 w4)) 1 hC dX8_join_84 rfl h9 ew10 rfl ?_
              refine g_aload_n (pc := 85) 0 hC dX8_join_85 rfl ?_
              refine g_get (pc := 86) 0 4 hC inX8 dX8_join_86 W2_4 rfl rfl (Nat.le_of_ble_eq_true rfl) rfl rfl ?_
              refine g_aload_n (pc := 89) 0 hC dX8_join_89 rfl ?_
              refine g_get (pc := 90) 0 1 hC inX8 dX8_join_90 W2_1 rfl rfl (Nat.le_of_ble_eq_true rfl) rfl rfl ?_
              refine g_iconst (pc := 93) (1 : Int32) hC dX8_join_93 rfl ?_
              refine g_iadd (pc := 94) hC dX8_join_94 ?_
              refine g_iload_n (pc := 95) 1 hC dX8_join_95 rfl ?_
              obtain ⟨h11, hf⟩ := bad_s hf
              obtain ⟨w12, ew12, hf⟩ := vlet_s hf
              refine g_iast (pc := 96) (ws2 := (ws_X8_join G q_this q_firstLink q_nextLink q_leadsTo q_lets q_powers q_reached c_nets c_links w10 w8 w12 w4)) 3 hC dX8_join_96 rfl h11 ew12 rfl ?_
              refine g_aload_n (pc := 97) 0 hC dX8_join_97 rfl ?_
              refine g_get (pc := 98) 0 5 hC inX8 dX8_join_98 W2_5 rfl rfl (Nat.le_of_ble_eq_true rfl) rfl rfl ?_
              refine g_aload_n (pc := 101) 0 hC dX8_join_101 rfl ?_
              refine g_get (pc := 102) 0 1 hC inX8 dX8_join_102 W2_1 rfl rfl (Nat.le_of_ble_eq_true rfl) rfl rfl ?_
              refine g_iconst (pc := 105) (1 : Int32) hC dX8_join_105 rfl ?_
              refine g_iadd (pc := 106) hC dX8_join_106 ?_
              refine g_iload (pc := 107) 4 hC dX8_join_107 rfl ?_
              obtain ⟨h13, hf⟩ := bad_s hf
              obtain ⟨w14, ew14, hf⟩ := vlet_s hf
              refine g_iast (pc := 109) (ws2 := (ws_X8_join G q_this q_firstLink q_nextLink q_leadsTo q_lets q_powers q_reached c_nets c_links w10 w8 w12 w14)) 4 hC dX8_join_109 rfl h13 ew14 rfl ?_
              refine g_aload_n (pc := 110) 0 hC dX8_join_110 rfl ?_
              refine g_get (pc := 111) 0 3 hC inX8 dX8_join_111 W2_3 rfl rfl (Nat.le_of_ble_eq_true rfl) rfl rfl ?_
              refine g_aload_n (pc := 114) 0 hC dX8_join_114 rfl ?_
              refine g_get (pc := 115) 0 1 hC inX8 dX8_join_115 W2_1 rfl rfl (Nat.le_of_ble_eq_true rfl) rfl rfl ?_
              refine g_iconst (pc := 118) (1 : Int32) hC dX8_join_118 rfl ?_
              refine g_iadd (pc := 119) hC dX8_join_119 ?_
              refine g_aload_n (pc := 120) 0 hC dX8_join_120 rfl ?_
              refine g_get (pc := 121) 0 2 hC inX8 dX8_join_121 W2_2 rfl rfl (Nat.le_of_ble_eq_true rfl) rfl rfl ?_
              refine g_iload_n (pc := 124) 2 hC dX8_join_124 rfl ?_
              obtain ⟨h15, hf⟩ := bad_s hf
              refine g_iald (pc := 125) 1 hC dX8_join_125 rfl h15 ?_
              obtain ⟨t16, et16, hf⟩ := vlet_s hf
              refine g_nmi et16 ?_
              obtain ⟨h17, hf⟩ := bad_s hf
              obtain ⟨w18, ew18, hf⟩ := vlet_s hf
              refine g_iast (pc := 126) (ws2 := (ws_X8_join G q_this q_firstLink q_nextLink q_leadsTo q_lets q_powers q_reached c_nets c_links w10 w18 w12 w14)) 2 hC dX8_join_126 rfl h17 ew18 rfl ?_
              refine g_aload_n (pc := 127) 0 hC dX8_join_127 rfl ?_
              refine g_get (pc := 128) 0 2 hC inX8 dX8_join_128 W2_2 rfl rfl (Nat.le_of_ble_eq_true rfl) rfl rfl ?_
              refine g_iload_n (pc := 131) 2 hC dX8_join_131 rfl ?_
              refine g_aload_n (pc := 132) 0 hC dX8_join_132 rfl ?_
              refine g_get (pc := 133) 0 1 hC inX8 dX8_join_133 W2_1 rfl rfl (Nat.le_of_ble_eq_true rfl) rfl rfl ?_
              refine g_iconst (pc := 136) (1 : Int32) hC dX8_join_136 rfl ?_
              refine g_iadd (pc := 137) hC dX8_join_137 ?_
              obtain ⟨t19, et19, hf⟩ := vlet_s hf
              refine g_nmi et19 ?_
              obtain ⟨h20, hf⟩ := bad_s hf
              obtain ⟨w21, ew21, hf⟩ := vlet_s hf
              refine g_iast (pc := 138) (ws2 := (ws_X8_join G q_this q_firstLink q_nextLink q_leadsTo q_lets q_powers q_reached c_nets c_links w21 w18 w12 w14)) 1 hC dX8_join_138 rfl h20 ew21 rfl ?_
              refine g_aload_n (pc := 139) 0 hC dX8_join_139 rfl ?_
              refine g_dup (pc := 140) rfl hC dX8_join_140 ?_
              refine g_get (pc := 141) 0 1 hC inX8 dX8_join_141 W2_1 rfl rfl (Nat.le_of_ble_eq_true rfl) rfl rfl ?_
              refine g_iconst (pc := 144) (2 : Int32) hC dX8_join_144 rfl ?_
              refine g_iadd (pc := 145) hC dX8_join_145 ?_
              obtain ⟨t22, et22, hf⟩ := vlet_s hf
              refine g_nmi et22 ?_
              refine g_put (pc := 146) (ws2 := (ws_X8_join G q_this q_firstLink q_nextLink q_leadsTo q_lets q_powers q_reached c_nets t22 w21 w18 w12 w14)) 0 1 hC inX8 tyX8_ok nmX8 dX8_join_146 W2_1 rfl rfl (Nat.le_of_ble_eq_true rfl) rfl rfl rfl rfl rfl (Nat.le_of_ble_eq_true rfl) rfl ?_
              obtain rfl := Option.some.inj hf
              exact g_vret (pc := 149) hC hQ dX8_join_149
            · replace hf := ite_f hf hb
              obtain rfl := Option.some.inj hf
              exact g_vret (pc := 39) hC hQ dX8_join_39
/-! CoilBench$State.isDown(I)Z -/
abbrev ws_X6_isDown (G : Gx) (q_this : Nat) (q_counts : Nat) (q_positions : Nat) (c_picked : Int64) (c_keys : Int32) (c_time : Int32) : va_W := [(q_this, eO 5 [.long c_picked, .ref q_counts, .ref q_positions, .int c_keys, .int c_time])]
theorem mY_X6_isDown : vY yX6_isDown cX6_isDown 2 (some .boolean) 1 := ⟨W3_205, W1_8, ⟨by decide +kernel, by decide +kernel⟩, by decide +kernel⟩
theorem mI_X6_isDown : vYi yX6_isDown := ⟨W3_203, W3_204⟩
def f_X6_isDown (x1 : Int32) (c_keys : Int32) : Option (Int32) := if ((xshr c_keys x1) &&& (1 : Int32)) = 0 then (some (0 : Int32)) else (some (1 : Int32))
set_option maxHeartbeats 4000000 in
set_option maxRecDepth 100000 in
theorem c_X6_isDown (G : Gx) (q_this : Nat) (q_counts : Nat) (q_positions : Nat) (c_picked : Int64) (c_keys : Int32) (c_time : Int32) (x1 : Int32) (R : Int32) (hf : f_X6_isDown x1 c_keys = some R) : vM G yX6_isDown cX6_isDown 2 (some .boolean) 0 0 [.ref q_this, .int x1] (ws_X6_isDown G q_this q_counts q_positions c_picked c_keys c_time) (some (.int R)) (ws_X6_isDown G q_this q_counts q_positions c_picked c_keys c_time) := by
  refine vM_of (by decide +kernel) (Nat.le_of_ble_eq_true rfl) [(0, .ref q_this), (1, .int x1)] rfl (fun C hC hQ => ?_)
  have hC : vH G C cX6_isDown RX6 2 (some .boolean) { frames := 0, cells := 0, slots := 0, locals := 0 } := hC
  rw [f_X6_isDown] at hf
  refine g_aload_n (pc := 0) 0 hC dX6_isDown_0 rfl ?_
  refine g_get (pc := 1) 0 3 hC inX6 dX6_isDown_1 W2_51 rfl rfl (Nat.le_of_ble_eq_true rfl) rfl rfl ?_
  refine g_iload_n (pc := 4) 1 hC dX6_isDown_4 rfl ?_
  refine g_ishr (pc := 5) hC dX6_isDown_5 ?_
  refine g_iconst (pc := 6) (1 : Int32) hC dX6_isDown_6 rfl ?_
  refine g_iand (pc := 7) hC dX6_isDown_7 ?_
  refine g_if_eq (pc := 8) 15 hC dX6_isDown_8 (by decide) (fun hb => ?_) (fun hb => ?_)
  · replace hf := ite_t hf hb
    refine g_iconst (pc := 15) (0 : Int32) hC dX6_isDown_15 rfl ?_
    obtain rfl := Option.some.inj hf
    exact g_zret (pc := 16) hC rfl hQ dX6_isDown_16
  · replace hf := ite_f hf hb
    refine g_iconst (pc := 11) (1 : Int32) hC dX6_isDown_11 rfl ?_
    refine g_goto (pc := 12) 16 hC dX6_isDown_12 (by decide) ?_
    obtain rfl := Option.some.inj hf
    exact g_zret (pc := 16) hC rfl hQ dX6_isDown_16
/-! CoilBench$Ways.spread(II)V -/
abbrev ws_X8_spread (G : Gx) (q_this : Nat) (q_firstLink : Nat) (q_nextLink : Nat) (q_leadsTo : Nat) (q_lets : Nat) (q_powers : Nat) (q_reached : Nat) (c_nets : Int32) (c_links : Int32) (c_firstLink : Nat → Int32) (c_nextLink : Nat → Int32) (c_leadsTo : Nat → Int32) (c_lets : Nat → Int32) (c_powers : Nat → Int32) (c_reached : Nat → Int32) : va_W := [(q_this, eO 7 [.int c_nets, .int c_links, .ref q_firstLink, .ref q_nextLink, .ref q_leadsTo, .ref q_lets, .ref q_powers, .ref q_reached]), (q_firstLink, eI G 954 c_firstLink), (q_nextLink, eI G 1200 c_nextLink), (q_leadsTo, eI G 1200 c_leadsTo), (q_lets, eI G 1200 c_lets), (q_powers, eI G 954 c_powers), (q_reached, eI G 954 c_reached)]
theorem mY_X8_spread : vY yX8_spread cX8_spread 8 (none) 2 := ⟨W3_217, W1_7, ⟨by decide +kernel, by decide +kernel⟩, by decide +kernel⟩
theorem mI_X8_spread : vYi yX8_spread := ⟨W3_215, W3_216⟩
def f_X8_spread_145 (k35 : Int32 → Int32 → Int32 → (Nat → Int32) → (Nat → Int32) → Option ((Nat → Int32) × (Nat → Int32))) (k67 : Int32 → Int32 → Int32 → Int32 → Int32 → (Nat → Int32) → (Nat → Int32) → Option ((Nat → Int32) × (Nat → Int32))) (c_nets : Int32) (c_links : Int32) (c_firstLink : Nat → Int32) (c_nextLink : Nat → Int32) (c_leadsTo : Nat → Int32) (c_lets : Nat → Int32) (x2 : Int32) (x3 : Int32) (x4 : Int32) (x5 : Int32) (x6 : Int32) (c_powers : Nat → Int32) (c_reached : Nat → Int32) : Option ((Nat → Int32) × (Nat → Int32)) := if bad x5 1200 = true then none else vlet ((c_nextLink x5.toNatClampNeg)) fun t2 => vlet (x6 + (1 : Int32)) fun t3 => (k67 x2 x3 x4 t2 t3 c_powers c_reached)
set_option maxHeartbeats 4000000 in
set_option maxRecDepth 100000 in
theorem w_X8_spread_145 {G : Gx} {C : Cx} (hC : vH G C cX8_spread RX8 8 (none) { frames := 0, cells := 0, slots := 0, locals := 0 }) (q_this : Nat) (q_firstLink : Nat) (q_nextLink : Nat) (q_leadsTo : Nat) (q_lets : Nat) (q_powers : Nat) (q_reached : Nat) (c_nets : Int32) (c_links : Int32) (c_firstLink : Nat → Int32) (c_nextLink : Nat → Int32) (c_leadsTo : Nat → Int32) (c_lets : Nat → Int32) (R : (Nat → Int32) × (Nat → Int32)) (hQ : vR G C 0 0 none (ws_X8_spread G q_this q_firstLink q_nextLink q_leadsTo q_lets q_powers q_reached c_nets c_links c_firstLink c_nextLink c_leadsTo c_lets R.1 R.2)) (k35 : Int32 → Int32 → Int32 → (Nat → Int32) → (Nat → Int32) → Option ((Nat → Int32) × (Nat → Int32))) (hk35 : ∀ (x2 : Int32) (x3 : Int32) (x4 : Int32) (c_powers : Nat → Int32) (c_reached : Nat → Int32), k35 x2 x3 x4 c_powers c_reached = some R → vG G C 0 0 35 [(0, .ref q_this), (2, .int x2), (3, .int x3), (4, .int x4)] [] (ws_X8_spread G q_this q_firstLink q_nextLink q_leadsTo q_lets q_powers q_reached c_nets c_links c_firstLink c_nextLink c_leadsTo c_lets c_powers c_reached)) (k67 : Int32 → Int32 → Int32 → Int32 → Int32 → (Nat → Int32) → (Nat → Int32) → Option ((Nat → Int32) × (Nat → Int32))) (hk67 : ∀ (x2 : Int32) (x3 : Int32) (x4 : Int32) (x5 : Int32) (x6 : Int32) (c_powers : Nat → Int32) (c_reached : Nat → Int32), k67 x2 x3 x4 x5 x6 c_powers c_reached = some R → vG G C 0 0 67 [(0, .ref q_this), (2, .int x2), (3, .int x3), (4, .int x4), (5, .int x5), (6, .int x6)] [] (ws_X8_spread G q_this q_firstLink q_nextLink q_leadsTo q_lets q_powers q_reached c_nets c_links c_firstLink c_nextLink c_leadsTo c_lets c_powers c_reached)) (x2 : Int32) (x3 : Int32) (x4 : Int32) (x5 : Int32) (x6 : Int32) (c_powers : Nat → Int32) (c_reached : Nat → Int32) (hf : f_X8_spread_145 k35 k67 c_nets c_links c_firstLink c_nextLink c_leadsTo c_lets x2 x3 x4 x5 x6 c_powers c_reached = some R) : vG G C 0 0 145 [(0, .ref q_this), (2, .int x2), (3, .int x3), (4, .int x4), (5, .int x5), (6, .int x6)] [] (ws_X8_spread G q_this q_firstLink q_nextLink q_leadsTo q_lets q_powers q_reached c_nets c_links c_firstLink c_nextLink c_leadsTo c_lets c_powers c_reached) := by
  rw [f_X8_spread_145] at hf
  refine g_aload_n (pc := 145) 0 hC dX8_spread_145 rfl ?_
  refine g_get (pc := 146) 0 3 hC inX8 dX8_spread_146 W2_3 rfl rfl (Nat.le_of_ble_eq_true rfl) rfl rfl ?_
  refine g_iload (pc := 149) 4 hC dX8_spread_149 rfl ?_
  obtain ⟨h1, hf⟩ := bad_s hf
  refine g_iald (pc := 151) 2 hC dX8_spread_151 rfl h1 ?_
  obtain ⟨t2, et2, hf⟩ := vlet_s hf
  refine g_nmi et2 ?_
  refine g_istore (pc := 152) [(5, .int t2), (0, .ref q_this), (2, .int x2), (3, .int x3), (4, .int x4), (6, .int x6)] hC dX8_spread_152 (Nat.le_of_ble_eq_true rfl) rfl ?_
  obtain ⟨t3, et3, hf⟩ := vlet_s hf
  refine g_iinc (pc := 154) 5 [(6, .int t3), (5, .int t2), (0, .ref q_this), (2, .int x2), (3, .int x3), (4, .int x4)] hC dX8_spread_154 rfl (by rw [et3]; rfl) (Nat.le_of_ble_eq_true rfl) rfl ?_
  refine g_goto (pc := 157) 67 hC dX8_spread_157 (by decide) ?_
  refine g_sub (lv2 := [(0, .ref q_this), (2, .int x2), (3, .int x3), (4, .int x4), (5, .int t2), (6, .int t3)]) [2, 3, 4, 5, 1, 0] rfl ?_
  exact hk67 x2 x3 x4 t2 t3 c_powers c_reached hf
def f_X8_spread_160 (k35 : Int32 → Int32 → Int32 → (Nat → Int32) → (Nat → Int32) → Option ((Nat → Int32) × (Nat → Int32))) (c_nets : Int32) (c_links : Int32) (c_firstLink : Nat → Int32) (c_nextLink : Nat → Int32) (c_leadsTo : Nat → Int32) (c_lets : Nat → Int32) (x2 : Int32) (x3 : Int32) (x4 : Int32) (c_powers : Nat → Int32) (c_reached : Nat → Int32) : Option ((Nat → Int32) × (Nat → Int32)) := vlet (x4 + (1 : Int32)) fun t1 => (k35 x2 x3 t1 c_powers c_reached)
set_option maxHeartbeats 4000000 in
set_option maxRecDepth 100000 in
theorem w_X8_spread_160 {G : Gx} {C : Cx} (hC : vH G C cX8_spread RX8 8 (none) { frames := 0, cells := 0, slots := 0, locals := 0 }) (q_this : Nat) (q_firstLink : Nat) (q_nextLink : Nat) (q_leadsTo : Nat) (q_lets : Nat) (q_powers : Nat) (q_reached : Nat) (c_nets : Int32) (c_links : Int32) (c_firstLink : Nat → Int32) (c_nextLink : Nat → Int32) (c_leadsTo : Nat → Int32) (c_lets : Nat → Int32) (R : (Nat → Int32) × (Nat → Int32)) (hQ : vR G C 0 0 none (ws_X8_spread G q_this q_firstLink q_nextLink q_leadsTo q_lets q_powers q_reached c_nets c_links c_firstLink c_nextLink c_leadsTo c_lets R.1 R.2)) (k35 : Int32 → Int32 → Int32 → (Nat → Int32) → (Nat → Int32) → Option ((Nat → Int32) × (Nat → Int32))) (hk35 : ∀ (x2 : Int32) (x3 : Int32) (x4 : Int32) (c_powers : Nat → Int32) (c_reached : Nat → Int32), k35 x2 x3 x4 c_powers c_reached = some R → vG G C 0 0 35 [(0, .ref q_this), (2, .int x2), (3, .int x3), (4, .int x4)] [] (ws_X8_spread G q_this q_firstLink q_nextLink q_leadsTo q_lets q_powers q_reached c_nets c_links c_firstLink c_nextLink c_leadsTo c_lets c_powers c_reached)) (x2 : Int32) (x3 : Int32) (x4 : Int32) (c_powers : Nat → Int32) (c_reached : Nat → Int32) (hf : f_X8_spread_160 k35 c_nets c_links c_firstLink c_nextLink c_leadsTo c_lets x2 x3 x4 c_powers c_reached = some R) : vG G C 0 0 160 [(0, .ref q_this), (2, .int x2), (3, .int x3), (4, .int x4)] [] (ws_X8_spread G q_this q_firstLink q_nextLink q_leadsTo q_lets q_powers q_reached c_nets c_links c_firstLink c_nextLink c_leadsTo c_lets c_powers c_reached) := by
  rw [f_X8_spread_160] at hf
  obtain ⟨t1, et1, hf⟩ := vlet_s hf
  refine g_iinc (pc := 160) 3 [(4, .int t1), (0, .ref q_this), (2, .int x2), (3, .int x3)] hC dX8_spread_160 rfl (by rw [et1]; rfl) (Nat.le_of_ble_eq_true rfl) rfl ?_
  refine g_goto (pc := 163) 35 hC dX8_spread_163 (by decide) ?_
  refine g_sub (lv2 := [(0, .ref q_this), (2, .int x2), (3, .int x3), (4, .int t1)]) [1, 2, 3, 0] rfl ?_
  exact hk35 x2 x3 t1 c_powers c_reached hf
def f_X8_spread_67 (k35 : Int32 → Int32 → Int32 → (Nat → Int32) → (Nat → Int32) → Option ((Nat → Int32) × (Nat → Int32))) (c_nets : Int32) (c_links : Int32) (c_firstLink : Nat → Int32) (c_nextLink : Nat → Int32) (c_leadsTo : Nat → Int32) (c_lets : Nat → Int32) : Nat → (Int32) → (Int32) → (Int32) → (Int32) → (Int32) → (Nat → Int32) → (Nat → Int32) → Option ((Nat → Int32) × (Nat → Int32))
  | 0, _, _, _, _, _, _, _ => none
  | n + 1, x2, x3, x4, x5, x6, c_powers, c_reached => if c_links ≤ x6 then ((f_X8_spread_160 k35 c_nets c_links c_firstLink c_nextLink c_leadsTo c_lets x2 x3 x4 c_powers c_reached)) else (if x5 = (-1 : Int32) then ((f_X8_spread_160 k35 c_nets c_links c_firstLink c_nextLink c_leadsTo c_lets x2 x3 x4 c_powers c_reached)) else (if bad x5 1200 = true then none else vlet ((c_leadsTo x5.toNatClampNeg)) fun t2 => if bad x5 1200 = true then none else if ((c_lets x5.toNatClampNeg) &&& x2) = 0 then ((f_X8_spread_145 k35 (f_X8_spread_67 k35 c_nets c_links c_firstLink c_nextLink c_leadsTo c_lets n) c_nets c_links c_firstLink c_nextLink c_leadsTo c_lets x2 x3 x4 x5 x6 c_powers c_reached)) else (if bad t2 954 = true then none else if ((c_powers t2.toNatClampNeg) &&& x2) = 0 then (if c_nets ≤ x3 then ((f_X8_spread_145 k35 (f_X8_spread_67 k35 c_nets c_links c_firstLink c_nextLink c_leadsTo c_lets n) c_nets c_links c_firstLink c_nextLink c_leadsTo c_lets x2 x3 x4 x5 x6 c_powers c_reached)) else (if bad t2 954 = true then none else vlet (((c_powers t2.toNatClampNeg) ||| x2)) fun t6 => if bad t2 954 = true then none else vlet (upd c_powers t2.toNatClampNeg t6) fun w8 => if bad x3 954 = true then none else vlet (upd c_reached x3.toNatClampNeg t2) fun w10 => vlet (x3 + (1 : Int32)) fun t11 => (f_X8_spread_145 k35 (f_X8_spread_67 k35 c_nets c_links c_firstLink c_nextLink c_leadsTo c_lets n) c_nets c_links c_firstLink c_nextLink c_leadsTo c_lets x2 t11 x4 x5 x6 w8 w10))) else ((f_X8_spread_145 k35 (f_X8_spread_67 k35 c_nets c_links c_firstLink c_nextLink c_leadsTo c_lets n) c_nets c_links c_firstLink c_nextLink c_leadsTo c_lets x2 x3 x4 x5 x6 c_powers c_reached)))))
set_option maxHeartbeats 4000000 in
set_option maxRecDepth 100000 in
theorem w_X8_spread_67 {G : Gx} {C : Cx} (hC : vH G C cX8_spread RX8 8 (none) { frames := 0, cells := 0, slots := 0, locals := 0 }) (q_this : Nat) (q_firstLink : Nat) (q_nextLink : Nat) (q_leadsTo : Nat) (q_lets : Nat) (q_powers : Nat) (q_reached : Nat) (c_nets : Int32) (c_links : Int32) (c_firstLink : Nat → Int32) (c_nextLink : Nat → Int32) (c_leadsTo : Nat → Int32) (c_lets : Nat → Int32) (R : (Nat → Int32) × (Nat → Int32)) (hQ : vR G C 0 0 none (ws_X8_spread G q_this q_firstLink q_nextLink q_leadsTo q_lets q_powers q_reached c_nets c_links c_firstLink c_nextLink c_leadsTo c_lets R.1 R.2)) (k35 : Int32 → Int32 → Int32 → (Nat → Int32) → (Nat → Int32) → Option ((Nat → Int32) × (Nat → Int32))) (hk35 : ∀ (x2 : Int32) (x3 : Int32) (x4 : Int32) (c_powers : Nat → Int32) (c_reached : Nat → Int32), k35 x2 x3 x4 c_powers c_reached = some R → vG G C 0 0 35 [(0, .ref q_this), (2, .int x2), (3, .int x3), (4, .int x4)] [] (ws_X8_spread G q_this q_firstLink q_nextLink q_leadsTo q_lets q_powers q_reached c_nets c_links c_firstLink c_nextLink c_leadsTo c_lets c_powers c_reached)) : ∀ (n : Nat) (x2 : Int32) (x3 : Int32) (x4 : Int32) (x5 : Int32) (x6 : Int32) (c_powers : Nat → Int32) (c_reached : Nat → Int32), f_X8_spread_67 k35 c_nets c_links c_firstLink c_nextLink c_leadsTo c_lets n x2 x3 x4 x5 x6 c_powers c_reached = some R → vG G C 0 0 67 [(0, .ref q_this), (2, .int x2), (3, .int x3), (4, .int x4), (5, .int x5), (6, .int x6)] [] (ws_X8_spread G q_this q_firstLink q_nextLink q_leadsTo q_lets q_powers q_reached c_nets c_links c_firstLink c_nextLink c_leadsTo c_lets c_powers c_reached) := by
  intro n
  induction n with
  | zero => intro x2 x3 x4 x5 x6 c_powers c_reached hf; rw [f_X8_spread_67] at hf; cases hf
  | succ n ih =>
    intro x2 x3 x4 x5 x6 c_powers c_reached hf
    rw [f_X8_spread_67] at hf
    refine g_iload (pc := 67) 5 hC dX8_spread_67 rfl ?_
    refine g_aload_n (pc := 69) 0 hC dX8_spread_69 rfl ?_
    refine g_get (pc := 70) 0 1 hC inX8 dX8_spread_70 W2_1 rfl rfl (Nat.le_of_ble_eq_true rfl) rfl rfl ?_
    refine g_icmp_ge (pc := 73) 160 hC dX8_spread_73 (by decide) (fun hb => ?_) (fun hb => ?_)
    · replace hf := ite_t hf hb
      refine g_sub (lv2 := [(0, .ref q_this), (2, .int x2), (3, .int x3), (4, .int x4)]) [0, 1, 2, 3] rfl ?_
      exact w_X8_spread_160 hC q_this q_firstLink q_nextLink q_leadsTo q_lets q_powers q_reached c_nets c_links c_firstLink c_nextLink c_leadsTo c_lets R hQ k35 hk35 x2 x3 x4 c_powers c_reached hf
    · replace hf := ite_f hf hb
      refine g_iload (pc := 76) 4 hC dX8_spread_76 rfl ?_
      refine g_iconst (pc := 78) (-1 : Int32) hC dX8_spread_78 rfl ?_
      refine g_icmp_eq (pc := 79) 160 hC dX8_spread_79 (by decide) (fun hb => ?_) (fun hb => ?_)
      · replace hf := ite_t hf hb
        refine g_sub (lv2 := [(0, .ref q_this), (2, .int x2), (3, .int x3), (4, .int x4)]) [0, 1, 2, 3] rfl ?_
        exact w_X8_spread_160 hC q_this q_firstLink q_nextLink q_leadsTo q_lets q_powers q_reached c_nets c_links c_firstLink c_nextLink c_leadsTo c_lets R hQ k35 hk35 x2 x3 x4 c_powers c_reached hf
      · replace hf := ite_f hf hb
        refine g_aload_n (pc := 82) 0 hC dX8_spread_82 rfl ?_
        refine g_get (pc := 83) 0 4 hC inX8 dX8_spread_83 W2_4 rfl rfl (Nat.le_of_ble_eq_true rfl) rfl rfl ?_
        refine g_iload (pc := 86) 4 hC dX8_spread_86 rfl ?_
        obtain ⟨h1, hf⟩ := bad_s hf
        refine g_iald (pc := 88) 3 hC dX8_spread_88 rfl h1 ?_
        obtain ⟨t2, et2, hf⟩ := vlet_s hf
        refine g_nmi et2 ?_
        refine g_istore (pc := 89) [(7, .int t2), (0, .ref q_this), (2, .int x2), (3, .int x3), (4, .int x4), (5, .int x5), (6, .int x6)] hC dX8_spread_89 (Nat.le_of_ble_eq_true rfl) rfl ?_
        refine g_aload_n (pc := 91) 1 hC dX8_spread_91 rfl ?_
        refine g_get (pc := 92) 0 5 hC inX8 dX8_spread_92 W2_5 rfl rfl (Nat.le_of_ble_eq_true rfl) rfl rfl ?_
        refine g_iload (pc := 95) 5 hC dX8_spread_95 rfl ?_
        obtain ⟨h3, hf⟩ := bad_s hf
        refine g_iald (pc := 97) 4 hC dX8_spread_97 rfl h3 ?_
        refine g_iload_n (pc := 98) 2 hC dX8_spread_98 rfl ?_
        refine g_iand (pc := 99) hC dX8_spread_99 ?_
        refine g_if_eq (pc := 100) 145 hC dX8_spread_100 (by decide) (fun hb => ?_) (fun hb => ?_)
        · replace hf := ite_t hf hb
          refine g_sub (lv2 := [(0, .ref q_this), (2, .int x2), (3, .int x3), (4, .int x4), (5, .int x5), (6, .int x6)]) [1, 2, 3, 4, 5, 6] rfl ?_
          exact w_X8_spread_145 hC q_this q_firstLink q_nextLink q_leadsTo q_lets q_powers q_reached c_nets c_links c_firstLink c_nextLink c_leadsTo c_lets R hQ k35 hk35 (f_X8_spread_67 k35 c_nets c_links c_firstLink c_nextLink c_leadsTo c_lets n) ih x2 x3 x4 x5 x6 c_powers c_reached hf
        · replace hf := ite_f hf hb
          refine g_aload_n (pc := 103) 1 hC dX8_spread_103 rfl ?_
          refine g_get (pc := 104) 0 6 hC inX8 dX8_spread_104 W2_6 rfl rfl (Nat.le_of_ble_eq_true rfl) rfl rfl ?_
          refine g_iload (pc := 107) 0 hC dX8_spread_107 rfl ?_
          obtain ⟨h4, hf⟩ := bad_s hf
          refine g_iald (pc := 109) 5 hC dX8_spread_109 rfl h4 ?_
          refine g_iload_n (pc := 110) 2 hC dX8_spread_110 rfl ?_
          refine g_iand (pc := 111) hC dX8_spread_111 ?_
          refine g_if_ne (pc := 112) 145 hC dX8_spread_112 (by decide) (fun hb => ?_) (fun hb => ?_)
          · replace hf := ite_f hf hb
            refine g_sub (lv2 := [(0, .ref q_this), (2, .int x2), (3, .int x3), (4, .int x4), (5, .int x5), (6, .int x6)]) [1, 2, 3, 4, 5, 6] rfl ?_
            exact w_X8_spread_145 hC q_this q_firstLink q_nextLink q_leadsTo q_lets q_powers q_reached c_nets c_links c_firstLink c_nextLink c_leadsTo c_lets R hQ k35 hk35 (f_X8_spread_67 k35 c_nets c_links c_firstLink c_nextLink c_leadsTo c_lets n) ih x2 x3 x4 x5 x6 c_powers c_reached hf
          · replace hf := ite_t hf hb
            refine g_iload_n (pc := 115) 3 hC dX8_spread_115 rfl ?_
            refine g_aload_n (pc := 116) 1 hC dX8_spread_116 rfl ?_
            refine g_get (pc := 117) 0 0 hC inX8 dX8_spread_117 W2_0 rfl rfl (Nat.le_of_ble_eq_true rfl) rfl rfl ?_
            refine g_icmp_ge (pc := 120) 145 hC dX8_spread_120 (by decide) (fun hb => ?_) (fun hb => ?_)
            · replace hf := ite_t hf hb
              refine g_sub (lv2 := [(0, .ref q_this), (2, .int x2), (3, .int x3), (4, .int x4), (5, .int x5), (6, .int x6)]) [1, 2, 3, 4, 5, 6] rfl ?_
              exact w_X8_spread_145 hC q_this q_firstLink q_nextLink q_leadsTo q_lets q_powers q_reached c_nets c_links c_firstLink c_nextLink c_leadsTo c_lets R hQ k35 hk35 (f_X8_spread_67 k35 c_nets c_links c_firstLink c_nextLink c_leadsTo c_lets n) ih x2 x3 x4 x5 x6 c_powers c_reached hf
            · replace hf := ite_f hf hb
              refine g_aload_n (pc := 123) 1 hC dX8_spread_123 rfl ?_
              refine g_get (pc := 124) 0 6 hC inX8 dX8_spread_124 W2_6 rfl rfl (Nat.le_of_ble_eq_true rfl) rfl rfl ?_
              refine g_iload (pc := 127) 0 hC dX8_spread_127 rfl ?_
              refine g_dup2_11 (pc := 129) rfl rfl hC dX8_spread_129 ?_
              obtain ⟨h5, hf⟩ := bad_s hf
              refine g_iald (pc := 130) 5 hC dX8_spread_130 rfl h5 ?_
              refine g_iload_n (pc := 131) 2 hC dX8_spread_131 rfl ?_
              refine g_ior (pc := 132) hC dX8_spread_132 ?_
              obtain ⟨t6, et6, hf⟩ := vlet_s hf
              refine g_nmi et6 ?_
              obtain ⟨h7, hf⟩ := bad_s hf
              obtain ⟨w8, ew8, hf⟩ := vlet_s hf
              refine g_iast (pc := 133) (ws2 := (ws_X8_spread G q_this q_firstLink q_nextLink q_leadsTo q_lets q_powers q_reached c_nets c_links c_firstLink c_nextLink c_leadsTo c_lets w8 c_reached)) 5 hC dX8_spread_133 rfl h7 ew8 rfl ?_
              refine g_aload_n (pc := 134) 1 hC dX8_spread_134 rfl ?_
              refine g_get (pc := 135) 0 7 hC inX8 dX8_spread_135 W2_7 rfl rfl (Nat.le_of_ble_eq_true rfl) rfl rfl ?_
              refine g_iload_n (pc := 138) 3 hC dX8_spread_138 rfl ?_
              refine g_iload (pc := 139) 0 hC dX8_spread_139 rfl ?_
              obtain ⟨h9, hf⟩ := bad_s hf
              obtain ⟨w10, ew10, hf⟩ := vlet_s hf
              refine g_iast (pc := 141) (ws2 := (ws_X8_spread G q_this q_firstLink q_nextLink q_leadsTo q_lets q_powers q_reached c_nets c_links c_firstLink c_nextLink c_leadsTo c_lets w8 w10)) 6 hC dX8_spread_141 rfl h9 ew10 rfl ?_
              obtain ⟨t11, et11, hf⟩ := vlet_s hf
              refine g_iinc (pc := 142) 3 [(3, .int t11), (7, .int t2), (0, .ref q_this), (2, .int x2), (4, .int x4), (5, .int x5), (6, .int x6)] hC dX8_spread_142 rfl (by rw [et11]; rfl) (Nat.le_of_ble_eq_true rfl) rfl ?_
              refine g_sub (lv2 := [(0, .ref q_this), (2, .int x2), (3, .int t11), (4, .int x4), (5, .int x5), (6, .int x6)]) [2, 3, 0, 4, 5, 6] rfl ?_
              exact w_X8_spread_145 hC q_this q_firstLink q_nextLink q_leadsTo q_lets q_powers q_reached c_nets c_links c_firstLink c_nextLink c_leadsTo c_lets R hQ k35 hk35 (f_X8_spread_67 k35 c_nets c_links c_firstLink c_nextLink c_leadsTo c_lets n) ih x2 t11 x4 x5 x6 w8 w10 hf
def f_X8_spread_35 (c_nets : Int32) (c_links : Int32) (c_firstLink : Nat → Int32) (c_nextLink : Nat → Int32) (c_leadsTo : Nat → Int32) (c_lets : Nat → Int32) : Nat → (Int32) → (Int32) → (Int32) → (Nat → Int32) → (Nat → Int32) → Option ((Nat → Int32) × (Nat → Int32))
  | 0, _, _, _, _, _ => none
  | n + 1, x2, x3, x4, c_powers, c_reached => if x3 ≤ x4 then (some (c_powers, c_reached)) else (if c_nets ≤ x4 then (some (c_powers, c_reached)) else (if bad x4 954 = true then none else if bad (c_reached x4.toNatClampNeg) 954 = true then none else vlet ((c_firstLink (c_reached x4.toNatClampNeg).toNatClampNeg)) fun t3 => (f_X8_spread_67 (f_X8_spread_35 c_nets c_links c_firstLink c_nextLink c_leadsTo c_lets n) c_nets c_links c_firstLink c_nextLink c_leadsTo c_lets FU x2 x3 x4 t3 (0 : Int32) c_powers c_reached)))
set_option maxHeartbeats 4000000 in
set_option maxRecDepth 100000 in
theorem w_X8_spread_35 {G : Gx} {C : Cx} (hC : vH G C cX8_spread RX8 8 (none) { frames := 0, cells := 0, slots := 0, locals := 0 }) (q_this : Nat) (q_firstLink : Nat) (q_nextLink : Nat) (q_leadsTo : Nat) (q_lets : Nat) (q_powers : Nat) (q_reached : Nat) (c_nets : Int32) (c_links : Int32) (c_firstLink : Nat → Int32) (c_nextLink : Nat → Int32) (c_leadsTo : Nat → Int32) (c_lets : Nat → Int32) (R : (Nat → Int32) × (Nat → Int32)) (hQ : vR G C 0 0 none (ws_X8_spread G q_this q_firstLink q_nextLink q_leadsTo q_lets q_powers q_reached c_nets c_links c_firstLink c_nextLink c_leadsTo c_lets R.1 R.2)) : ∀ (n : Nat) (x2 : Int32) (x3 : Int32) (x4 : Int32) (c_powers : Nat → Int32) (c_reached : Nat → Int32), f_X8_spread_35 c_nets c_links c_firstLink c_nextLink c_leadsTo c_lets n x2 x3 x4 c_powers c_reached = some R → vG G C 0 0 35 [(0, .ref q_this), (2, .int x2), (3, .int x3), (4, .int x4)] [] (ws_X8_spread G q_this q_firstLink q_nextLink q_leadsTo q_lets q_powers q_reached c_nets c_links c_firstLink c_nextLink c_leadsTo c_lets c_powers c_reached) := by
  intro n
  induction n with
  | zero => intro x2 x3 x4 c_powers c_reached hf; rw [f_X8_spread_35] at hf; cases hf
  | succ n ih =>
    intro x2 x3 x4 c_powers c_reached hf
    rw [f_X8_spread_35] at hf
    refine g_iload (pc := 35) 3 hC dX8_spread_35 rfl ?_
    refine g_iload_n (pc := 37) 2 hC dX8_spread_37 rfl ?_
    refine g_icmp_ge (pc := 38) 166 hC dX8_spread_38 (by decide) (fun hb => ?_) (fun hb => ?_)
    · replace hf := ite_t hf hb
      obtain rfl := Option.some.inj hf
      exact g_vret (pc := 166) hC hQ dX8_spread_166
    · replace hf := ite_f hf hb
      refine g_iload (pc := 41) 3 hC dX8_spread_41 rfl ?_
      refine g_aload_n (pc := 43) 0 hC dX8_spread_43 rfl ?_
      refine g_get (pc := 44) 0 0 hC inX8 dX8_spread_44 W2_0 rfl rfl (Nat.le_of_ble_eq_true rfl) rfl rfl ?_
      refine g_icmp_ge (pc := 47) 166 hC dX8_spread_47 (by decide) (fun hb => ?_) (fun hb => ?_)
      · replace hf := ite_t hf hb
        obtain rfl := Option.some.inj hf
        exact g_vret (pc := 166) hC hQ dX8_spread_166
      · replace hf := ite_f hf hb
        refine g_aload_n (pc := 50) 0 hC dX8_spread_50 rfl ?_
        refine g_get (pc := 51) 0 2 hC inX8 dX8_spread_51 W2_2 rfl rfl (Nat.le_of_ble_eq_true rfl) rfl rfl ?_
        refine g_aload_n (pc := 54) 0 hC dX8_spread_54 rfl ?_
        refine g_get (pc := 55) 0 7 hC inX8 dX8_spread_55 W2_7 rfl rfl (Nat.le_of_ble_eq_true rfl) rfl rfl ?_
        refine g_iload (pc := 58) 3 hC dX8_spread_58 rfl ?_
        obtain ⟨h1, hf⟩ := bad_s hf
        refine g_iald (pc := 60) 6 hC dX8_spread_60 rfl h1 ?_
        obtain ⟨h2, hf⟩ := bad_s hf
        refine g_iald (pc := 61) 1 hC dX8_spread_61 rfl h2 ?_
        obtain ⟨t3, et3, hf⟩ := vlet_s hf
        refine g_nmi et3 ?_
        refine g_istore (pc := 62) [(5, .int t3), (0, .ref q_this), (2, .int x2), (3, .int x3), (4, .int x4)] hC dX8_spread_62 (Nat.le_of_ble_eq_true rfl) rfl ?_
        refine g_iconst (pc := 64) (0 : Int32) hC dX8_spread_64 rfl ?_
        refine g_istore (pc := 65) [(6, .int (0 : Int32)), (5, .int t3), (0, .ref q_this), (2, .int x2), (3, .int x3), (4, .int x4)] hC dX8_spread_65 (Nat.le_of_ble_eq_true rfl) rfl ?_
        refine g_sub (lv2 := [(0, .ref q_this), (2, .int x2), (3, .int x3), (4, .int x4), (5, .int t3), (6, .int (0 : Int32))]) [2, 3, 4, 5, 1, 0] rfl ?_
        exact w_X8_spread_67 hC q_this q_firstLink q_nextLink q_leadsTo q_lets q_powers q_reached c_nets c_links c_firstLink c_nextLink c_leadsTo c_lets R hQ (f_X8_spread_35 c_nets c_links c_firstLink c_nextLink c_leadsTo c_lets n) ih FU x2 x3 x4 t3 (0 : Int32) c_powers c_reached hf
def f_X8_spread (x1 : Int32) (x2 : Int32) (c_nets : Int32) (c_links : Int32) (c_firstLink : Nat → Int32) (c_nextLink : Nat → Int32) (c_leadsTo : Nat → Int32) (c_lets : Nat → Int32) (c_powers : Nat → Int32) (c_reached : Nat → Int32) : Option ((Nat → Int32) × (Nat → Int32)) := if x1 < 0 then (some (c_powers, c_reached)) else (if x1 < c_nets then (if bad x1 954 = true then none else vlet (((c_powers x1.toNatClampNeg) ||| x2)) fun t2 => if bad x1 954 = true then none else vlet (upd c_powers x1.toNatClampNeg t2) fun w4 => if bad (0 : Int32) 954 = true then none else vlet (upd c_reached (0 : Int32).toNatClampNeg x1) fun w6 => (f_X8_spread_35 c_nets c_links c_firstLink c_nextLink c_leadsTo c_lets FU x2 (1 : Int32) (0 : Int32) w4 w6)) else (some (c_powers, c_reached)))
set_option maxHeartbeats 4000000 in
set_option maxRecDepth 100000 in
theorem c_X8_spread (G : Gx) (q_this : Nat) (q_firstLink : Nat) (q_nextLink : Nat) (q_leadsTo : Nat) (q_lets : Nat) (q_powers : Nat) (q_reached : Nat) (c_nets : Int32) (c_links : Int32) (c_firstLink : Nat → Int32) (c_nextLink : Nat → Int32) (c_leadsTo : Nat → Int32) (c_lets : Nat → Int32) (c_powers : Nat → Int32) (c_reached : Nat → Int32) (x1 : Int32) (x2 : Int32) (R : (Nat → Int32) × (Nat → Int32)) (hf : f_X8_spread x1 x2 c_nets c_links c_firstLink c_nextLink c_leadsTo c_lets c_powers c_reached = some R) : vM G yX8_spread cX8_spread 8 (none) 0 0 [.ref q_this, .int x1, .int x2] (ws_X8_spread G q_this q_firstLink q_nextLink q_leadsTo q_lets q_powers q_reached c_nets c_links c_firstLink c_nextLink c_leadsTo c_lets c_powers c_reached) none (ws_X8_spread G q_this q_firstLink q_nextLink q_leadsTo q_lets q_powers q_reached c_nets c_links c_firstLink c_nextLink c_leadsTo c_lets R.1 R.2) := by
  refine vM_of (by decide +kernel) (Nat.le_of_ble_eq_true rfl) [(0, .ref q_this), (1, .int x1), (2, .int x2)] rfl (fun C hC hQ => ?_)
  have hC : vH G C cX8_spread RX8 8 (none) { frames := 0, cells := 0, slots := 0, locals := 0 } := hC
  rw [f_X8_spread] at hf
  refine g_iload_n (pc := 0) 1 hC dX8_spread_0 rfl ?_
  refine g_if_lt (pc := 1) 12 hC dX8_spread_1 (by decide) (fun hb => ?_) (fun hb => ?_)
  · replace hf := ite_t hf hb
    obtain rfl := Option.some.inj hf
    exact g_vret (pc := 12) hC hQ dX8_spread_12
  · replace hf := ite_f hf hb
    refine g_iload_n (pc := 4) 1 hC dX8_spread_4 rfl ?_
    refine g_aload_n (pc := 5) 0 hC dX8_spread_5 rfl ?_
    refine g_get (pc := 6) 0 0 hC inX8 dX8_spread_6 W2_0 rfl rfl (Nat.le_of_ble_eq_true rfl) rfl rfl ?_
    refine g_icmp_lt (pc := 9) 13 hC dX8_spread_9 (by decide) (fun hb => ?_) (fun hb => ?_)
    · replace hf := ite_t hf hb
      refine g_aload_n (pc := 13) 0 hC dX8_spread_13 rfl ?_
      refine g_get (pc := 14) 0 6 hC inX8 dX8_spread_14 W2_6 rfl rfl (Nat.le_of_ble_eq_true rfl) rfl rfl ?_
      refine g_iload_n (pc := 17) 1 hC dX8_spread_17 rfl ?_
      refine g_dup2_11 (pc := 18) rfl rfl hC dX8_spread_18 ?_
      obtain ⟨h1, hf⟩ := bad_s hf
      refine g_iald (pc := 19) 5 hC dX8_spread_19 rfl h1 ?_
      refine g_iload_n (pc := 20) 2 hC dX8_spread_20 rfl ?_
      refine g_ior (pc := 21) hC dX8_spread_21 ?_
      obtain ⟨t2, et2, hf⟩ := vlet_s hf
      refine g_nmi et2 ?_
      obtain ⟨h3, hf⟩ := bad_s hf
      obtain ⟨w4, ew4, hf⟩ := vlet_s hf
      refine g_iast (pc := 22) (ws2 := (ws_X8_spread G q_this q_firstLink q_nextLink q_leadsTo q_lets q_powers q_reached c_nets c_links c_firstLink c_nextLink c_leadsTo c_lets w4 c_reached)) 5 hC dX8_spread_22 rfl h3 ew4 rfl ?_
      refine g_aload_n (pc := 23) 0 hC dX8_spread_23 rfl ?_
      refine g_get (pc := 24) 0 7 hC inX8 dX8_spread_24 W2_7 rfl rfl (Nat.le_of_ble_eq_true rfl) rfl rfl ?_
      refine g_iconst (pc := 27) (0 : Int32) hC dX8_spread_27 rfl ?_
      refine g_iload_n (pc := 28) 1 hC dX8_spread_28 rfl ?_
      obtain ⟨h5, hf⟩ := bad_s hf
      obtain ⟨w6, ew6, hf⟩ := vlet_s hf
      refine g_iast (pc := 29) (ws2 := (ws_X8_spread G q_this q_firstLink q_nextLink q_leadsTo q_lets q_powers q_reached c_nets c_links c_firstLink c_nextLink c_leadsTo c_lets w4 w6)) 6 hC dX8_spread_29 rfl h5 ew6 rfl ?_
      refine g_iconst (pc := 30) (1 : Int32) hC dX8_spread_30 rfl ?_
      refine g_istore_n (pc := 31) [(3, .int (1 : Int32)), (0, .ref q_this), (1, .int x1), (2, .int x2)] hC dX8_spread_31 (Nat.le_of_ble_eq_true rfl) rfl ?_
      refine g_iconst (pc := 32) (0 : Int32) hC dX8_spread_32 rfl ?_
      refine g_istore (pc := 33) [(4, .int (0 : Int32)), (3, .int (1 : Int32)), (0, .ref q_this), (1, .int x1), (2, .int x2)] hC dX8_spread_33 (Nat.le_of_ble_eq_true rfl) rfl ?_
      refine g_sub (lv2 := [(0, .ref q_this), (2, .int x2), (3, .int (1 : Int32)), (4, .int (0 : Int32))]) [2, 4, 1, 0] rfl ?_
      exact w_X8_spread_35 hC q_this q_firstLink q_nextLink q_leadsTo q_lets q_powers q_reached c_nets c_links c_firstLink c_nextLink c_leadsTo c_lets R hQ FU x2 (1 : Int32) (0 : Int32) w4 w6 hf
    · replace hf := ite_f hf hb
      obtain rfl := Option.some.inj hf
      exact g_vret (pc := 12) hC hQ dX8_spread_12
/-! CoilBench$Ways.at(I)I -/
abbrev ws_X8_at (G : Gx) (q_this : Nat) (q_powers : Nat) (q_firstLink : Nat) (q_nextLink : Nat) (q_leadsTo : Nat) (q_lets : Nat) (q_reached : Nat) (c_nets : Int32) (c_links : Int32) (c_powers : Nat → Int32) : va_W := [(q_this, eO 7 [.int c_nets, .int c_links, .ref q_firstLink, .ref q_nextLink, .ref q_leadsTo, .ref q_lets, .ref q_powers, .ref q_reached]), (q_powers, eI G 954 c_powers)]
theorem mY_X8_at : vY yX8_at cX8_at 2 (some .int) 1 := ⟨W3_225, W1_7, ⟨by decide +kernel, by decide +kernel⟩, by decide +kernel⟩
theorem mI_X8_at : vYi yX8_at := ⟨W3_223, W3_224⟩
def f_X8_at_12 (c_nets : Int32) (c_powers : Nat → Int32) : Option (Int32) := some (0 : Int32)
set_option maxHeartbeats 4000000 in
set_option maxRecDepth 100000 in
theorem w_X8_at_12 {G : Gx} {C : Cx} (hC : vH G C cX8_at RX8 2 (some .int) { frames := 0, cells := 0, slots := 0, locals := 0 }) (q_this : Nat) (q_powers : Nat) (q_firstLink : Nat) (q_nextLink : Nat) (q_leadsTo : Nat) (q_lets : Nat) (q_reached : Nat) (c_nets : Int32) (c_links : Int32) (c_powers : Nat → Int32) (R : Int32) (hQ : vR G C 0 0 (some (.int R)) (ws_X8_at G q_this q_powers q_firstLink q_nextLink q_leadsTo q_lets q_reached c_nets c_links c_powers)) (hf : f_X8_at_12 c_nets c_powers = some R) : vG G C 0 0 12 [] [] (ws_X8_at G q_this q_powers q_firstLink q_nextLink q_leadsTo q_lets q_reached c_nets c_links c_powers) := by
  rw [f_X8_at_12] at hf
  refine g_iconst (pc := 12) (0 : Int32) hC dX8_at_12 rfl ?_
  refine g_goto (pc := 13) 22 hC dX8_at_13 (by decide) ?_
  obtain rfl := Option.some.inj hf
  exact g_iret (pc := 22) hC hQ dX8_at_22
def f_X8_at (x1 : Int32) (c_nets : Int32) (c_powers : Nat → Int32) : Option (Int32) := if x1 < 0 then ((f_X8_at_12 c_nets c_powers)) else (if x1 < c_nets then (if bad x1 954 = true then none else some (c_powers x1.toNatClampNeg)) else ((f_X8_at_12 c_nets c_powers)))
set_option maxHeartbeats 4000000 in
set_option maxRecDepth 100000 in
theorem c_X8_at (G : Gx) (q_this : Nat) (q_powers : Nat) (q_firstLink : Nat) (q_nextLink : Nat) (q_leadsTo : Nat) (q_lets : Nat) (q_reached : Nat) (c_nets : Int32) (c_links : Int32) (c_powers : Nat → Int32) (x1 : Int32) (R : Int32) (hf : f_X8_at x1 c_nets c_powers = some R) : vM G yX8_at cX8_at 2 (some .int) 0 0 [.ref q_this, .int x1] (ws_X8_at G q_this q_powers q_firstLink q_nextLink q_leadsTo q_lets q_reached c_nets c_links c_powers) (some (.int R)) (ws_X8_at G q_this q_powers q_firstLink q_nextLink q_leadsTo q_lets q_reached c_nets c_links c_powers) := by
  refine vM_of (by decide +kernel) (Nat.le_of_ble_eq_true rfl) [(0, .ref q_this), (1, .int x1)] rfl (fun C hC hQ => ?_)
  have hC : vH G C cX8_at RX8 2 (some .int) { frames := 0, cells := 0, slots := 0, locals := 0 } := hC
  rw [f_X8_at] at hf
  refine g_iload_n (pc := 0) 1 hC dX8_at_0 rfl ?_
  refine g_if_lt (pc := 1) 12 hC dX8_at_1 (by decide) (fun hb => ?_) (fun hb => ?_)
  · replace hf := ite_t hf hb
    refine g_sub (lv2 := []) [] rfl ?_
    exact w_X8_at_12 hC q_this q_powers q_firstLink q_nextLink q_leadsTo q_lets q_reached c_nets c_links c_powers R hQ hf
  · replace hf := ite_f hf hb
    refine g_iload_n (pc := 4) 1 hC dX8_at_4 rfl ?_
    refine g_aload_n (pc := 5) 0 hC dX8_at_5 rfl ?_
    refine g_get (pc := 6) 0 0 hC inX8 dX8_at_6 W2_0 rfl rfl (Nat.le_of_ble_eq_true rfl) rfl rfl ?_
    refine g_icmp_lt (pc := 9) 16 hC dX8_at_9 (by decide) (fun hb => ?_) (fun hb => ?_)
    · replace hf := ite_t hf hb
      refine g_aload_n (pc := 16) 0 hC dX8_at_16 rfl ?_
      refine g_get (pc := 17) 0 6 hC inX8 dX8_at_17 W2_6 rfl rfl (Nat.le_of_ble_eq_true rfl) rfl rfl ?_
      refine g_iload_n (pc := 20) 1 hC dX8_at_20 rfl ?_
      obtain ⟨h1, hf⟩ := bad_s hf
      refine g_iald (pc := 21) 1 hC dX8_at_21 rfl h1 ?_
      obtain rfl := Option.some.inj hf
      exact g_iret (pc := 22) hC hQ dX8_at_22
    · replace hf := ite_f hf hb
      refine g_sub (lv2 := []) [] rfl ?_
      exact w_X8_at_12 hC q_this q_powers q_firstLink q_nextLink q_leadsTo q_lets q_reached c_nets c_links c_powers R hQ hf
/-! CoilBench$State.copy(LCoilBench$State;)V -/
abbrev ws_X6_copy (G : Gx) (q_this : Nat) (q_counts : Nat) (q_positions : Nat) (q_p1 : Nat) (q_p1_counts : Nat) (q_p1_positions : Nat) (c_picked : Int64) (c_keys : Int32) (c_time : Int32) (c_counts : Nat → Int32) (c_positions : Nat → Int32) (c_p1_picked : Int64) (c_p1_keys : Int32) (c_p1_time : Int32) (c_p1_counts : Nat → Int32) (c_p1_positions : Nat → Int32) : va_W := [(q_this, eO 5 [.long c_picked, .ref q_counts, .ref q_positions, .int c_keys, .int c_time]), (q_counts, eI G 40 c_counts), (q_positions, eI G 40 c_positions), (q_p1, eO 5 [.long c_p1_picked, .ref q_p1_counts, .ref q_p1_positions, .int c_p1_keys, .int c_p1_time]), (q_p1_counts, eI G 40 c_p1_counts), (q_p1_positions, eI G 40 c_p1_positions)]
theorem mY_X6_copy : vY yX6_copy cX6_copy 2 (none) 1 := ⟨W4_13, W1_8, ⟨by decide +kernel, by decide +kernel⟩, by decide +kernel⟩
theorem mI_X6_copy : vYi yX6_copy := ⟨W4_11, W4_12⟩
def f_X6_copy (c_picked : Int64) (c_keys : Int32) (c_time : Int32) (c_counts : Nat → Int32) (c_positions : Nat → Int32) (c_p1_picked : Int64) (c_p1_keys : Int32) (c_p1_time : Int32) (c_p1_counts : Nat → Int32) (c_p1_positions : Nat → Int32) : Option (Int64 × Int32 × Int32 × (Nat → Int32) × (Nat → Int32)) := if cpyok (0 : Int32) (0 : Int32) (40 : Int32) 40 40 = true then (vlet (va_cpy c_p1_counts c_counts (0 : Int32).toNatClampNeg (0 : Int32).toNatClampNeg (40 : Int32).toNatClampNeg) fun w2 => if cpyok (0 : Int32) (0 : Int32) (40 : Int32) 40 40 = true then (vlet (va_cpy c_p1_positions c_positions (0 : Int32).toNatClampNeg (0 : Int32).toNatClampNeg (40 : Int32).toNatClampNeg) fun w4 => some (c_p1_picked, c_p1_keys, c_p1_time, w2, w4)) else none) else none
set_option maxHeartbeats 4000000 in
set_option maxRecDepth 100000 in
theorem c_X6_copy (G : Gx) (q_this : Nat) (q_counts : Nat) (q_positions : Nat) (q_p1 : Nat) (q_p1_counts : Nat) (q_p1_positions : Nat) (c_picked : Int64) (c_keys : Int32) (c_time : Int32) (c_counts : Nat → Int32) (c_positions : Nat → Int32) (c_p1_picked : Int64) (c_p1_keys : Int32) (c_p1_time : Int32) (c_p1_counts : Nat → Int32) (c_p1_positions : Nat → Int32) (R : Int64 × Int32 × Int32 × (Nat → Int32) × (Nat → Int32)) (hf : f_X6_copy c_picked c_keys c_time c_counts c_positions c_p1_picked c_p1_keys c_p1_time c_p1_counts c_p1_positions = some R) : vM G yX6_copy cX6_copy 2 (none) 1 26 [.ref q_this, .ref q_p1] (ws_X6_copy G q_this q_counts q_positions q_p1 q_p1_counts q_p1_positions c_picked c_keys c_time c_counts c_positions c_p1_picked c_p1_keys c_p1_time c_p1_counts c_p1_positions) none (ws_X6_copy G q_this q_counts q_positions q_p1 q_p1_counts q_p1_positions R.1 R.2.1 R.2.2.1 R.2.2.2.1 R.2.2.2.2 c_p1_picked c_p1_keys c_p1_time c_p1_counts c_p1_positions) := by
  refine vM_of (by decide +kernel) (Nat.le_of_ble_eq_true rfl) [(0, .ref q_this), (1, .ref q_p1)] rfl (fun C hC hQ => ?_)
  have hC : vH G C cX6_copy RX6 2 (none) { frames := 1, cells := 0, slots := 0, locals := 26 } := hC
  rw [f_X6_copy] at hf
  refine g_aload_n (pc := 0) 0 hC dX6_copy_0 rfl ?_
  refine g_aload_n (pc := 1) 1 hC dX6_copy_1 rfl ?_
  refine g_get (pc := 2) 3 0 hC inX6 dX6_copy_2 W2_43 rfl rfl (Nat.le_of_ble_eq_true rfl) rfl rfl ?_
  refine g_put (pc := 5) (ws2 := (ws_X6_copy G q_this q_counts q_positions q_p1 q_p1_counts q_p1_positions c_p1_picked c_keys c_time c_counts c_positions c_p1_picked c_p1_keys c_p1_time c_p1_counts c_p1_positions)) 0 0 hC inX6 tyX6_ok nmX6 dX6_copy_5 W2_43 rfl rfl (Nat.le_of_ble_eq_true rfl) rfl rfl rfl rfl rfl (Nat.le_of_ble_eq_true rfl) rfl ?_
  refine g_aload_n (pc := 8) 0 hC dX6_copy_8 rfl ?_
  refine g_aload_n (pc := 9) 1 hC dX6_copy_9 rfl ?_
  refine g_get (pc := 10) 3 3 hC inX6 dX6_copy_10 W2_51 rfl rfl (Nat.le_of_ble_eq_true rfl) rfl rfl ?_
  refine g_put (pc := 13) (ws2 := (ws_X6_copy G q_this q_counts q_positions q_p1 q_p1_counts q_p1_positions c_p1_picked c_p1_keys c_time c_counts c_positions c_p1_picked c_p1_keys c_p1_time c_p1_counts c_p1_positions)) 0 3 hC inX6 tyX6_ok nmX6 dX6_copy_13 W2_51 rfl rfl (Nat.le_of_ble_eq_true rfl) rfl rfl rfl rfl rfl (Nat.le_of_ble_eq_true rfl) rfl ?_
  refine g_aload_n (pc := 16) 0 hC dX6_copy_16 rfl ?_
  refine g_aload_n (pc := 17) 1 hC dX6_copy_17 rfl ?_
  refine g_get (pc := 18) 3 4 hC inX6 dX6_copy_18 W2_53 rfl rfl (Nat.le_of_ble_eq_true rfl) rfl rfl ?_
  refine g_put (pc := 21) (ws2 := (ws_X6_copy G q_this q_counts q_positions q_p1 q_p1_counts q_p1_positions c_p1_picked c_p1_keys c_p1_time c_counts c_positions c_p1_picked c_p1_keys c_p1_time c_p1_counts c_p1_positions)) 0 4 hC inX6 tyX6_ok nmX6 dX6_copy_21 W2_53 rfl rfl (Nat.le_of_ble_eq_true rfl) rfl rfl rfl rfl rfl (Nat.le_of_ble_eq_true rfl) rfl ?_
  refine g_aload_n (pc := 24) 1 hC dX6_copy_24 rfl ?_
  refine g_get (pc := 25) 3 1 hC inX6 dX6_copy_25 W2_45 rfl rfl (Nat.le_of_ble_eq_true rfl) rfl rfl ?_
  refine g_iconst (pc := 28) (0 : Int32) hC dX6_copy_28 rfl ?_
  refine g_aload_n (pc := 29) 0 hC dX6_copy_29 rfl ?_
  refine g_get (pc := 30) 0 1 hC inX6 dX6_copy_30 W2_45 rfl rfl (Nat.le_of_ble_eq_true rfl) rfl rfl ?_
  refine g_iconst (pc := 33) (0 : Int32) hC dX6_copy_33 rfl ?_
  refine g_bipush (pc := 34) (40 : Int32) hC dX6_copy_34 rfl ?_
  obtain ⟨⟨h1a, h1b, h1c, h1d, h1e⟩, hf⟩ := cpy_s hf
  obtain ⟨w2, ew2, hf⟩ := vlet_s hf
  refine g_copyI (pc := 36) (ws2 := (ws_X6_copy G q_this q_counts q_positions q_p1 q_p1_counts q_p1_positions c_p1_picked c_p1_keys c_p1_time w2 c_positions c_p1_picked c_p1_keys c_p1_time c_p1_counts c_p1_positions)) 4 1 hC W4_14 acN W2_162 W1_13 dX6_copy_36 rfl rfl h1a h1b h1c h1d h1e (Nat.le_of_ble_eq_true rfl) (Nat.le_of_ble_eq_true rfl) ew2 rfl ?_
  refine g_aload_n (pc := 39) 1 hC dX6_copy_39 rfl ?_
  refine g_get (pc := 40) 3 2 hC inX6 dX6_copy_40 W2_48 rfl rfl (Nat.le_of_ble_eq_true rfl) rfl rfl ?_
  refine g_iconst (pc := 43) (0 : Int32) hC dX6_copy_43 rfl ?_
  refine g_aload_n (pc := 44) 0 hC dX6_copy_44 rfl ?_
  refine g_get (pc := 45) 0 2 hC inX6 dX6_copy_45 W2_48 rfl rfl (Nat.le_of_ble_eq_true rfl) rfl rfl ?_
  refine g_iconst (pc := 48) (0 : Int32) hC dX6_copy_48 rfl ?_
  refine g_bipush (pc := 49) (40 : Int32) hC dX6_copy_49 rfl ?_
  obtain ⟨⟨h3a, h3b, h3c, h3d, h3e⟩, hf⟩ := cpy_s hf
  obtain ⟨w4, ew4, hf⟩ := vlet_s hf
  refine g_copyI (pc := 51) (ws2 := (ws_X6_copy G q_this q_counts q_positions q_p1 q_p1_counts q_p1_positions c_p1_picked c_p1_keys c_p1_time w2 w4 c_p1_picked c_p1_keys c_p1_time c_p1_counts c_p1_positions)) 5 2 hC W4_14 acN W2_162 W1_13 dX6_copy_51 rfl rfl h3a h3b h3c h3d h3e (Nat.le_of_ble_eq_true rfl) (Nat.le_of_ble_eq_true rfl) ew4 rfl ?_
  obtain rfl := Option.some.inj hf
  exact g_vret (pc := 54) hC hQ dX6_copy_54
/-! CoilBench$State.goOver(I)V -/
abbrev ws_X6_goOver (G : Gx) (q_this : Nat) (q_counts : Nat) (q_positions : Nat) (c_picked : Int64) (c_keys : Int32) (c_time : Int32) (c_counts : Nat → Int32) : va_W := [(q_this, eO 5 [.long c_picked, .ref q_counts, .ref q_positions, .int c_keys, .int c_time]), (q_counts, eI G 40 c_counts)]
theorem mY_X6_goOver : vY yX6_goOver cX6_goOver 2 (none) 1 := ⟨W4_24, W1_8, ⟨by decide +kernel, by decide +kernel⟩, by decide +kernel⟩
theorem mI_X6_goOver : vYi yX6_goOver := ⟨W4_22, W4_23⟩
def f_X6_goOver (x1 : Int32) (c_picked : Int64) (c_counts : Nat → Int32) : Option (Int64 × (Nat → Int32)) := vlet ((c_picked ^^^ (xlshl (1 : Int64) x1))) fun t1 => if bad x1 40 = true then none else vlet (upd c_counts x1.toNatClampNeg (0 : Int32)) fun w3 => some (t1, w3)
set_option maxHeartbeats 4000000 in
set_option maxRecDepth 100000 in
theorem c_X6_goOver (G : Gx) (q_this : Nat) (q_counts : Nat) (q_positions : Nat) (c_picked : Int64) (c_keys : Int32) (c_time : Int32) (c_counts : Nat → Int32) (x1 : Int32) (R : Int64 × (Nat → Int32)) (hf : f_X6_goOver x1 c_picked c_counts = some R) : vM G yX6_goOver cX6_goOver 2 (none) 0 0 [.ref q_this, .int x1] (ws_X6_goOver G q_this q_counts q_positions c_picked c_keys c_time c_counts) none (ws_X6_goOver G q_this q_counts q_positions R.1 c_keys c_time R.2) := by
  refine vM_of (by decide +kernel) (Nat.le_of_ble_eq_true rfl) [(0, .ref q_this), (1, .int x1)] rfl (fun C hC hQ => ?_)
  have hC : vH G C cX6_goOver RX6 2 (none) { frames := 0, cells := 0, slots := 0, locals := 0 } := hC
  rw [f_X6_goOver] at hf
  refine g_aload_n (pc := 0) 0 hC dX6_goOver_0 rfl ?_
  refine g_dup (pc := 1) rfl hC dX6_goOver_1 ?_
  refine g_get (pc := 2) 0 0 hC inX6 dX6_goOver_2 W2_43 rfl rfl (Nat.le_of_ble_eq_true rfl) rfl rfl ?_
  refine g_lconst (pc := 5) (1 : Int64) hC dX6_goOver_5 rfl ?_
  refine g_iload_n (pc := 6) 1 hC dX6_goOver_6 rfl ?_
  refine g_lshl (pc := 7) hC dX6_goOver_7 ?_
  refine g_lxor (pc := 8) hC dX6_goOver_8 ?_
  obtain ⟨t1, et1, hf⟩ := vlet_s hf
  refine g_nml et1 ?_
  refine g_put (pc := 9) (ws2 := (ws_X6_goOver G q_this q_counts q_positions t1 c_keys c_time c_counts)) 0 0 hC inX6 tyX6_ok nmX6 dX6_goOver_9 W2_43 rfl rfl (Nat.le_of_ble_eq_true rfl) rfl rfl rfl rfl rfl (Nat.le_of_ble_eq_true rfl) rfl ?_
  refine g_aload_n (pc := 12) 0 hC dX6_goOver_12 rfl ?_
  refine g_get (pc := 13) 0 1 hC inX6 dX6_goOver_13 W2_45 rfl rfl (Nat.le_of_ble_eq_true rfl) rfl rfl ?_
  refine g_iload_n (pc := 16) 1 hC dX6_goOver_16 rfl ?_
  refine g_iconst (pc := 17) (0 : Int32) hC dX6_goOver_17 rfl ?_
  obtain ⟨h2, hf⟩ := bad_s hf
  obtain ⟨w3, ew3, hf⟩ := vlet_s hf
  refine g_iast (pc := 18) (ws2 := (ws_X6_goOver G q_this q_counts q_positions t1 c_keys c_time w3)) 1 hC dX6_goOver_18 rfl h2 ew3 rfl ?_
  obtain rfl := Option.some.inj hf
  exact g_vret (pc := 19) hC hQ dX6_goOver_19
/-! CoilBench$State.isPicked(I)Z -/
abbrev ws_X6_isPicked (G : Gx) (q_this : Nat) (q_counts : Nat) (q_positions : Nat) (c_picked : Int64) (c_keys : Int32) (c_time : Int32) : va_W := [(q_this, eO 5 [.long c_picked, .ref q_counts, .ref q_positions, .int c_keys, .int c_time])]
theorem mY_X6_isPicked : vY yX6_isPicked cX6_isPicked 2 (some .boolean) 1 := ⟨W4_36, W1_8, ⟨by decide +kernel, by decide +kernel⟩, by decide +kernel⟩
theorem mI_X6_isPicked : vYi yX6_isPicked := ⟨W4_34, W4_35⟩
def f_X6_isPicked (x1 : Int32) (c_picked : Int64) : Option (Int32) := if (lg_cmp ((xlshr c_picked x1) &&& (1 : Int64)) (0 : Int64)) = 0 then (some (0 : Int32)) else (some (1 : Int32))
set_option maxHeartbeats 4000000 in
set_option maxRecDepth 100000 in
theorem c_X6_isPicked (G : Gx) (q_this : Nat) (q_counts : Nat) (q_positions : Nat) (c_picked : Int64) (c_keys : Int32) (c_time : Int32) (x1 : Int32) (R : Int32) (hf : f_X6_isPicked x1 c_picked = some R) : vM G yX6_isPicked cX6_isPicked 2 (some .boolean) 0 0 [.ref q_this, .int x1] (ws_X6_isPicked G q_this q_counts q_positions c_picked c_keys c_time) (some (.int R)) (ws_X6_isPicked G q_this q_counts q_positions c_picked c_keys c_time) := by
  refine vM_of (by decide +kernel) (Nat.le_of_ble_eq_true rfl) [(0, .ref q_this), (1, .int x1)] rfl (fun C hC hQ => ?_)
  have hC : vH G C cX6_isPicked RX6 2 (some .boolean) { frames := 0, cells := 0, slots := 0, locals := 0 } := hC
  rw [f_X6_isPicked] at hf
  refine g_aload_n (pc := 0) 0 hC dX6_isPicked_0 rfl ?_
  refine g_get (pc := 1) 0 0 hC inX6 dX6_isPicked_1 W2_43 rfl rfl (Nat.le_of_ble_eq_true rfl) rfl rfl ?_
  refine g_iload_n (pc := 4) 1 hC dX6_isPicked_4 rfl ?_
  refine g_lshr (pc := 5) hC dX6_isPicked_5 ?_
  refine g_lconst (pc := 6) (1 : Int64) hC dX6_isPicked_6 rfl ?_
  refine g_land (pc := 7) hC dX6_isPicked_7 ?_
  refine g_lconst (pc := 8) (0 : Int64) hC dX6_isPicked_8 rfl ?_
  refine g_lcmp (pc := 9) hC dX6_isPicked_9 ?_
  refine g_if_eq (pc := 10) 17 hC dX6_isPicked_10 (by decide) (fun hb => ?_) (fun hb => ?_)
  · replace hf := ite_t hf hb
    refine g_iconst (pc := 17) (0 : Int32) hC dX6_isPicked_17 rfl ?_
    obtain rfl := Option.some.inj hf
    exact g_zret (pc := 18) hC rfl hQ dX6_isPicked_18
  · replace hf := ite_f hf hb
    refine g_iconst (pc := 13) (1 : Int32) hC dX6_isPicked_13 rfl ?_
    refine g_goto (pc := 14) 18 hC dX6_isPicked_14 (by decide) ?_
    obtain rfl := Option.some.inj hf
    exact g_zret (pc := 18) hC rfl hQ dX6_isPicked_18
/-! CoilBench$State.moveContacts(I)V -/
abbrev ws_X6_moveContacts (G : Gx) (q_this : Nat) (q_positions : Nat) (q_counts : Nat) (c_picked : Int64) (c_keys : Int32) (c_time : Int32) (c_positions : Nat → Int32) : va_W := [(q_this, eO 5 [.long c_picked, .ref q_counts, .ref q_positions, .int c_keys, .int c_time]), (q_positions, eI G 40 c_positions)]
theorem mY_X6_moveContacts : vY yX6_moveContacts cX6_moveContacts 2 (none) 1 := ⟨W4_40, W1_8, ⟨by decide +kernel, by decide +kernel⟩, by decide +kernel⟩
theorem mI_X6_moveContacts : vYi yX6_moveContacts := ⟨W4_38, W4_39⟩
def f_X6_moveContacts (x1 : Int32) (c_picked : Int64) (c_positions : Nat → Int32) : Option ((Nat → Int32)) := (f_X6_isPicked x1 c_picked).bind fun r1 => if r1 = 0 then (if bad x1 40 = true then none else vlet ((xmax (0 : Int32) ((c_positions x1.toNatClampNeg) - (1 : Int32)))) fun t3 => if bad x1 40 = true then none else vlet (upd c_positions x1.toNatClampNeg t3) fun w5 => some w5) else (if bad x1 40 = true then none else vlet ((xmin (2 : Int32) ((c_positions x1.toNatClampNeg) + (1 : Int32)))) fun t7 => if bad x1 40 = true then none else vlet (upd c_positions x1.toNatClampNeg t7) fun w9 => some w9)
set_option maxHeartbeats 4000000 in
set_option maxRecDepth 100000 in
theorem c_X6_moveContacts (G : Gx) (q_this : Nat) (q_positions : Nat) (q_counts : Nat) (c_picked : Int64) (c_keys : Int32) (c_time : Int32) (c_positions : Nat → Int32) (x1 : Int32) (R : (Nat → Int32)) (hf : f_X6_moveContacts x1 c_picked c_positions = some R) : vM G yX6_moveContacts cX6_moveContacts 2 (none) 1 21 [.ref q_this, .int x1] (ws_X6_moveContacts G q_this q_positions q_counts c_picked c_keys c_time c_positions) none (ws_X6_moveContacts G q_this q_positions q_counts c_picked c_keys c_time R) := by
  refine vM_of (by decide +kernel) (Nat.le_of_ble_eq_true rfl) [(0, .ref q_this), (1, .int x1)] rfl (fun C hC hQ => ?_)
  have hC : vH G C cX6_moveContacts RX6 2 (none) { frames := 1, cells := 0, slots := 0, locals := 21 } := hC
  rw [f_X6_moveContacts] at hf
  refine g_aload_n (pc := 0) 0 hC dX6_moveContacts_0 rfl ?_
  refine g_iload_n (pc := 1) 1 hC dX6_moveContacts_1 rfl ?_
  obtain ⟨r1, hr1, hf⟩ := bnd_s hf
  refine g_callVi (pc := 2) (st := []) (wc2 := (ws_X6_isPicked G q_this q_counts q_positions c_picked c_keys c_time)) (ws2 := (ws_X6_moveContacts G q_this q_positions q_counts c_picked c_keys c_time c_positions)) [0] 0 hC (c_X6_isPicked G q_this q_counts q_positions c_picked c_keys c_time x1 r1 hr1) mY_X6_isPicked mI_X6_isPicked W4_41 dX6_moveContacts_2 rfl rfl rfl rfl rfl rfl rfl rfl rfl ⟨Nat.le_of_ble_eq_true rfl, Nat.le_of_ble_eq_true rfl⟩ ⟨Nat.le_refl 0, Nat.le_refl 0⟩ (Nat.le_of_ble_eq_true rfl) ?_
  refine g_if_eq (pc := 5) 29 hC dX6_moveContacts_5 (by decide) (fun hb => ?_) (fun hb => ?_)
  · replace hf := ite_t hf hb
    refine g_aload_n (pc := 29) 0 hC dX6_moveContacts_29 rfl ?_
    refine g_get (pc := 30) 0 2 hC inX6 dX6_moveContacts_30 W2_48 rfl rfl (Nat.le_of_ble_eq_true rfl) rfl rfl ?_
    refine g_iload_n (pc := 33) 1 hC dX6_moveContacts_33 rfl ?_
    refine g_iconst (pc := 34) (0 : Int32) hC dX6_moveContacts_34 rfl ?_
    refine g_aload_n (pc := 35) 0 hC dX6_moveContacts_35 rfl ?_
    refine g_get (pc := 36) 0 2 hC inX6 dX6_moveContacts_36 W2_48 rfl rfl (Nat.le_of_ble_eq_true rfl) rfl rfl ?_
    refine g_iload_n (pc := 39) 1 hC dX6_moveContacts_39 rfl ?_
    obtain ⟨h2, hf⟩ := bad_s hf
    refine g_iald (pc := 40) 1 hC dX6_moveContacts_40 rfl h2 ?_
    refine g_iconst (pc := 41) (1 : Int32) hC dX6_moveContacts_41 rfl ?_
    refine g_isub (pc := 42) hC dX6_moveContacts_42 ?_
    refine g_mmax (pc := 43) hC W4_43 W2_159 W2_160 W1_12 dX6_moveContacts_43 (Nat.le_of_ble_eq_true rfl) (Nat.le_of_ble_eq_true rfl) ⟨Nat.le_of_ble_eq_true rfl, Nat.le_of_ble_eq_true rfl⟩ ?_
    obtain ⟨t3, et3, hf⟩ := vlet_s hf
    refine g_nmi et3 ?_
    obtain ⟨h4, hf⟩ := bad_s hf
    obtain ⟨w5, ew5, hf⟩ := vlet_s hf
    refine g_iast (pc := 46) (ws2 := (ws_X6_moveContacts G q_this q_positions q_counts c_picked c_keys c_time w5)) 1 hC dX6_moveContacts_46 rfl h4 ew5 rfl ?_
    obtain rfl := Option.some.inj hf
    exact g_vret (pc := 47) hC hQ dX6_moveContacts_47
  · replace hf := ite_f hf hb
    refine g_aload_n (pc := 8) 0 hC dX6_moveContacts_8 rfl ?_
    refine g_get (pc := 9) 0 2 hC inX6 dX6_moveContacts_9 W2_48 rfl rfl (Nat.le_of_ble_eq_true rfl) rfl rfl ?_
    refine g_iload_n (pc := 12) 1 hC dX6_moveContacts_12 rfl ?_
    refine g_iconst (pc := 13) (2 : Int32) hC dX6_moveContacts_13 rfl ?_
    refine g_aload_n (pc := 14) 0 hC dX6_moveContacts_14 rfl ?_
    refine g_get (pc := 15) 0 2 hC inX6 dX6_moveContacts_15 W2_48 rfl rfl (Nat.le_of_ble_eq_true rfl) rfl rfl ?_
    refine g_iload_n (pc := 18) 1 hC dX6_moveContacts_18 rfl ?_
    obtain ⟨h6, hf⟩ := bad_s hf
    refine g_iald (pc := 19) 1 hC dX6_moveContacts_19 rfl h6 ?_
    refine g_iconst (pc := 20) (1 : Int32) hC dX6_moveContacts_20 rfl ?_
    refine g_iadd (pc := 21) hC dX6_moveContacts_21 ?_
    refine g_mmin (pc := 22) hC W4_42 W2_156 W2_157 W1_12 dX6_moveContacts_22 (Nat.le_of_ble_eq_true rfl) (Nat.le_of_ble_eq_true rfl) ⟨Nat.le_of_ble_eq_true rfl, Nat.le_of_ble_eq_true rfl⟩ ?_
    obtain ⟨t7, et7, hf⟩ := vlet_s hf
    refine g_nmi et7 ?_
    obtain ⟨h8, hf⟩ := bad_s hf
    obtain ⟨w9, ew9, hf⟩ := vlet_s hf
    refine g_iast (pc := 25) (ws2 := (ws_X6_moveContacts G q_this q_positions q_counts c_picked c_keys c_time w9)) 1 hC dX6_moveContacts_25 rfl h8 ew9 rfl ?_
    refine g_goto (pc := 26) 47 hC dX6_moveContacts_26 (by decide) ?_
    obtain rfl := Option.some.inj hf
    exact g_vret (pc := 47) hC hQ dX6_moveContacts_47
/-! CoilBench$State.restsAs(LCoilBench$State;)Z -/
abbrev ws_X6_restsAs (G : Gx) (q_this : Nat) (q_counts : Nat) (q_positions : Nat) (q_p1 : Nat) (q_p1_counts : Nat) (q_p1_positions : Nat) (c_picked : Int64) (c_keys : Int32) (c_time : Int32) (c_counts : Nat → Int32) (c_positions : Nat → Int32) (c_p1_picked : Int64) (c_p1_keys : Int32) (c_p1_time : Int32) (c_p1_counts : Nat → Int32) (c_p1_positions : Nat → Int32) : va_W := [(q_this, eO 5 [.long c_picked, .ref q_counts, .ref q_positions, .int c_keys, .int c_time]), (q_counts, eI G 40 c_counts), (q_positions, eI G 40 c_positions), (q_p1, eO 5 [.long c_p1_picked, .ref q_p1_counts, .ref q_p1_positions, .int c_p1_keys, .int c_p1_time]), (q_p1_counts, eI G 40 c_p1_counts), (q_p1_positions, eI G 40 c_p1_positions)]
theorem mY_X6_restsAs : vY yX6_restsAs cX6_restsAs 3 (some .boolean) 1 := ⟨W4_51, W1_8, ⟨by decide +kernel, by decide +kernel⟩, by decide +kernel⟩
theorem mI_X6_restsAs : vYi yX6_restsAs := ⟨W4_49, W4_50⟩
def f_X6_restsAs_16 (c_picked : Int64) (c_counts : Nat → Int32) (c_positions : Nat → Int32) (c_p1_picked : Int64) (c_p1_counts : Nat → Int32) (c_p1_positions : Nat → Int32) : Nat → (Int32) → Option (Int32)
  | 0, _ => none
  | n + 1, x2 => if (40 : Int32) ≤ x2 then (some (1 : Int32)) else (if bad x2 40 = true then none else if bad x2 40 = true then none else if (c_counts x2.toNatClampNeg) = (c_p1_counts x2.toNatClampNeg) then (if bad x2 40 = true then none else if bad x2 40 = true then none else if (c_positions x2.toNatClampNeg) = (c_p1_positions x2.toNatClampNeg) then (vlet (x2 + (1 : Int32)) fun t5 => (f_X6_restsAs_16 c_picked c_counts c_positions c_p1_picked c_p1_counts c_p1_positions n t5)) else (some (0 : Int32))) else (some (0 : Int32)))
set_option maxHeartbeats 4000000 in
set_option maxRecDepth 100000 in
theorem w_X6_restsAs_16 {G : Gx} {C : Cx} (hC : vH G C cX6_restsAs RX6 3 (some .boolean) { frames := 0, cells := 0, slots := 0, locals := 0 }) (q_this : Nat) (q_counts : Nat) (q_positions : Nat) (q_p1 : Nat) (q_p1_counts : Nat) (q_p1_positions : Nat) (c_picked : Int64) (c_keys : Int32) (c_time : Int32) (c_counts : Nat → Int32) (c_positions : Nat → Int32) (c_p1_picked : Int64) (c_p1_keys : Int32) (c_p1_time : Int32) (c_p1_counts : Nat → Int32) (c_p1_positions : Nat → Int32) (R : Int32) (hQ : vR G C 0 0 (some (.int R)) (ws_X6_restsAs G q_this q_counts q_positions q_p1 q_p1_counts q_p1_positions c_picked c_keys c_time c_counts c_positions c_p1_picked c_p1_keys c_p1_time c_p1_counts c_p1_positions)) : ∀ (n : Nat) (x2 : Int32), f_X6_restsAs_16 c_picked c_counts c_positions c_p1_picked c_p1_counts c_p1_positions n x2 = some R → vG G C 0 0 16 [(0, .ref q_this), (1, .ref q_p1), (2, .int x2)] [] (ws_X6_restsAs G q_this q_counts q_positions q_p1 q_p1_counts q_p1_positions c_picked c_keys c_time c_counts c_positions c_p1_picked c_p1_keys c_p1_time c_p1_counts c_p1_positions) := by
  intro n
  induction n with
  | zero => intro x2 hf; rw [f_X6_restsAs_16] at hf; cases hf
  | succ n ih =>
    intro x2 hf
    rw [f_X6_restsAs_16] at hf
    refine g_iload_n (pc := 16) 2 hC dX6_restsAs_16 rfl ?_
    refine g_bipush (pc := 17) (40 : Int32) hC dX6_restsAs_17 rfl ?_
    refine g_icmp_ge (pc := 19) 60 hC dX6_restsAs_19 (by decide) (fun hb => ?_) (fun hb => ?_)
    · replace hf := ite_t hf hb
      refine g_iconst (pc := 60) (1 : Int32) hC dX6_restsAs_60 rfl ?_
      obtain rfl := Option.some.inj hf
      exact g_zret (pc := 61) hC rfl hQ dX6_restsAs_61
    · replace hf := ite_f hf hb
      refine g_aload_n (pc := 22) 0 hC dX6_restsAs_22 rfl ?_
      refine g_get (pc := 23) 0 1 hC inX6 dX6_restsAs_23 W2_45 rfl rfl (Nat.le_of_ble_eq_true rfl) rfl rfl ?_
      refine g_iload_n (pc := 26) 2 hC dX6_restsAs_26 rfl ?_
      obtain ⟨h1, hf⟩ := bad_s hf
      refine g_iald (pc := 27) 1 hC dX6_restsAs_27 rfl h1 ?_
      refine g_aload_n (pc := 28) 1 hC dX6_restsAs_28 rfl ?_
      refine g_get (pc := 29) 3 1 hC inX6 dX6_restsAs_29 W2_45 rfl rfl (Nat.le_of_ble_eq_true rfl) rfl rfl ?_
      refine g_iload_n (pc := 32) 2 hC dX6_restsAs_32 rfl ?_
      obtain ⟨h2, hf⟩ := bad_s hf
      refine g_iald (pc := 33) 4 hC dX6_restsAs_33 rfl h2 ?_
      refine g_icmp_ne (pc := 34) 52 hC dX6_restsAs_34 (by decide) (fun hb => ?_) (fun hb => ?_)
      · replace hf := ite_f hf hb
        refine g_iconst (pc := 52) (0 : Int32) hC dX6_restsAs_52 rfl ?_
        obtain rfl := Option.some.inj hf
        exact g_zret (pc := 53) hC rfl hQ dX6_restsAs_53
      · replace hf := ite_t hf hb
        refine g_aload_n (pc := 37) 0 hC dX6_restsAs_37 rfl ?_
        refine g_get (pc := 38) 0 2 hC inX6 dX6_restsAs_38 W2_48 rfl rfl (Nat.le_of_ble_eq_true rfl) rfl rfl ?_
        refine g_iload_n (pc := 41) 2 hC dX6_restsAs_41 rfl ?_
        obtain ⟨h3, hf⟩ := bad_s hf
        refine g_iald (pc := 42) 2 hC dX6_restsAs_42 rfl h3 ?_
        refine g_aload_n (pc := 43) 1 hC dX6_restsAs_43 rfl ?_
        refine g_get (pc := 44) 3 2 hC inX6 dX6_restsAs_44 W2_48 rfl rfl (Nat.le_of_ble_eq_true rfl) rfl rfl ?_
        refine g_iload_n (pc := 47) 2 hC dX6_restsAs_47 rfl ?_
        obtain ⟨h4, hf⟩ := bad_s hf
        refine g_iald (pc := 48) 5 hC dX6_restsAs_48 rfl h4 ?_
        refine g_icmp_eq (pc := 49) 54 hC dX6_restsAs_49 (by decide) (fun hb => ?_) (fun hb => ?_)
        · replace hf := ite_t hf hb
          obtain ⟨t5, et5, hf⟩ := vlet_s hf
          refine g_iinc (pc := 54) 2 [(2, .int t5), (0, .ref q_this), (1, .ref q_p1)] hC dX6_restsAs_54 rfl (by rw [et5]; rfl) (Nat.le_of_ble_eq_true rfl) rfl ?_
          refine g_goto (pc := 57) 16 hC dX6_restsAs_57 (by decide) ?_
          refine g_sub (lv2 := [(0, .ref q_this), (1, .ref q_p1), (2, .int t5)]) [1, 2, 0] rfl ?_
          exact ih t5 hf
        · replace hf := ite_f hf hb
          refine g_iconst (pc := 52) (0 : Int32) hC dX6_restsAs_52 rfl ?_
          obtain rfl := Option.some.inj hf
          exact g_zret (pc := 53) hC rfl hQ dX6_restsAs_53
def f_X6_restsAs (c_picked : Int64) (c_counts : Nat → Int32) (c_positions : Nat → Int32) (c_p1_picked : Int64) (c_p1_counts : Nat → Int32) (c_p1_positions : Nat → Int32) : Option (Int32) := if (lg_cmp c_picked c_p1_picked) = 0 then ((f_X6_restsAs_16 c_picked c_counts c_positions c_p1_picked c_p1_counts c_p1_positions FU (0 : Int32))) else (some (0 : Int32))
set_option maxHeartbeats 4000000 in
set_option maxRecDepth 100000 in
theorem c_X6_restsAs (G : Gx) (q_this : Nat) (q_counts : Nat) (q_positions : Nat) (q_p1 : Nat) (q_p1_counts : Nat) (q_p1_positions : Nat) (c_picked : Int64) (c_keys : Int32) (c_time : Int32) (c_counts : Nat → Int32) (c_positions : Nat → Int32) (c_p1_picked : Int64) (c_p1_keys : Int32) (c_p1_time : Int32) (c_p1_counts : Nat → Int32) (c_p1_positions : Nat → Int32) (R : Int32) (hf : f_X6_restsAs c_picked c_counts c_positions c_p1_picked c_p1_counts c_p1_positions = some R) : vM G yX6_restsAs cX6_restsAs 3 (some .boolean) 0 0 [.ref q_this, .ref q_p1] (ws_X6_restsAs G q_this q_counts q_positions q_p1 q_p1_counts q_p1_positions c_picked c_keys c_time c_counts c_positions c_p1_picked c_p1_keys c_p1_time c_p1_counts c_p1_positions) (some (.int R)) (ws_X6_restsAs G q_this q_counts q_positions q_p1 q_p1_counts q_p1_positions c_picked c_keys c_time c_counts c_positions c_p1_picked c_p1_keys c_p1_time c_p1_counts c_p1_positions) := by
  refine vM_of (by decide +kernel) (Nat.le_of_ble_eq_true rfl) [(0, .ref q_this), (1, .ref q_p1)] rfl (fun C hC hQ => ?_)
  have hC : vH G C cX6_restsAs RX6 3 (some .boolean) { frames := 0, cells := 0, slots := 0, locals := 0 } := hC
  rw [f_X6_restsAs] at hf
  refine g_aload_n (pc := 0) 0 hC dX6_restsAs_0 rfl ?_
  refine g_get (pc := 1) 0 0 hC inX6 dX6_restsAs_1 W2_43 rfl rfl (Nat.le_of_ble_eq_true rfl) rfl rfl ?_
  refine g_aload_n (pc := 4) 1 hC dX6_restsAs_4 rfl ?_
  refine g_get (pc := 5) 3 0 hC inX6 dX6_restsAs_5 W2_43 rfl rfl (Nat.le_of_ble_eq_true rfl) rfl rfl ?_
  refine g_lcmp (pc := 8) hC dX6_restsAs_8 ?_
  refine g_if_eq (pc := 9) 14 hC dX6_restsAs_9 (by decide) (fun hb => ?_) (fun hb => ?_)
  · replace hf := ite_t hf hb
    refine g_iconst (pc := 14) (0 : Int32) hC dX6_restsAs_14 rfl ?_
    refine g_istore_n (pc := 15) [(2, .int (0 : Int32)), (0, .ref q_this), (1, .ref q_p1)] hC dX6_restsAs_15 (Nat.le_of_ble_eq_true rfl) rfl ?_
    refine g_sub (lv2 := [(0, .ref q_this), (1, .ref q_p1), (2, .int (0 : Int32))]) [1, 2, 0] rfl ?_
    exact w_X6_restsAs_16 hC q_this q_counts q_positions q_p1 q_p1_counts q_p1_positions c_picked c_keys c_time c_counts c_positions c_p1_picked c_p1_keys c_p1_time c_p1_counts c_p1_positions R hQ FU (0 : Int32) hf
  · replace hf := ite_f hf hb
    refine g_iconst (pc := 12) (0 : Int32) hC dX6_restsAs_12 rfl ?_
    obtain rfl := Option.some.inj hf
    exact g_zret (pc := 13) hC rfl hQ dX6_restsAs_13
